/-! ===== BEGIN printed: names, fields, word lists, decode rows ===== -/
def RX0 : String := "KnotBand$Band"
def TX0 : u_T := fun k => match k with
  | 0 => ("KnotBand$Band", "colours", "[I", true)
  | 1 => ("KnotBand$Band", "kinds", "[I", true)
  | 2 => ("KnotBand$Band", "threads", "I", false)
  | 3 => ("KnotBand$Band", "rows", "I", false)
  | 4 => ("KnotBand$Band", "standing", "[I", true)
  | 5 => ("KnotBand$Band", "spent", "[I", true)
  | 6 => ("KnotBand$Band", "shown", "[I", true)
  | _ => ("KnotBand$Band", "repeated", "[I", true)
def tyX0 : Nat → FieldType := fun k => match k with
  | 0 => .array .int
  | 1 => .array .int
  | 2 => .int
  | 3 => .int
  | 4 => .array .int
  | 5 => .array .int
  | 6 => .array .int
  | _ => .array .int
abbrev wsX00 : List Cond := u_ws RX0 TX0 8
theorem nmX0 : ∀ a, a < 8 → ∀ b, b < 8 → a ≠ b → (TX0 a).2.1 ≠ (TX0 b).2.1 := by decide +kernel
theorem tyX0_ok : ∀ k, k < 8 → parseFieldDescriptor (TX0 k).2.2.1 = some (tyX0 k) := by decide +kernel
abbrev cX0_init : ByteArray := prog_2_method_1_code
def yX0_init : MethodName := ⟨RX0, "<init>", "()V"⟩
abbrev cX0_become : ByteArray := prog_2_method_2_code
def yX0_become : MethodName := ⟨RX0, "become", "(LKnotBand$Picture;)V"⟩
abbrev cX0_walk : ByteArray := prog_2_method_3_code
def yX0_walk : MethodName := ⟨RX0, "walk", "(I)V"⟩
abbrev cX0_walkKnot : ByteArray := prog_2_method_4_code
def yX0_walkKnot : MethodName := ⟨RX0, "walkKnot", "(II)V"⟩
abbrev cX0_timesToHome : ByteArray := prog_2_method_5_code
def yX0_timesToHome : MethodName := ⟨RX0, "timesToHome", "(Z)I"⟩
abbrev cX0_isHome : ByteArray := prog_2_method_6_code
def yX0_isHome : MethodName := ⟨RX0, "isHome", "(Z)Z"⟩
def RX1 : String := "KnotBand$Loom"
def TX1 : u_T := fun k => match k with
  | 0 => ("KnotBand$Loom", "names", "[I", true)
  | 1 => ("KnotBand$Loom", "lefts", "[I", true)
  | 2 => ("KnotBand$Loom", "wished", "[I", true)
  | 3 => ("KnotBand$Loom", "knotCount", "I", false)
  | 4 => ("KnotBand$Loom", "ahead", "[LKnotBand$Standings;", true)
  | _ => ("KnotBand$Loom", "now", "LKnotBand$Standings;", true)
def tyX1 : Nat → FieldType := fun k => match k with
  | 0 => .array .int
  | 1 => .array .int
  | 2 => .array .int
  | 3 => .int
  | 4 => .array (.object "KnotBand$Standings")
  | _ => .object "KnotBand$Standings"
abbrev wsX10 : List Cond := u_ws RX1 TX1 6
theorem nmX1 : ∀ a, a < 6 → ∀ b, b < 6 → a ≠ b → (TX1 a).2.1 ≠ (TX1 b).2.1 := by decide +kernel
theorem tyX1_ok : ∀ k, k < 6 → parseFieldDescriptor (TX1 k).2.2.1 = some (tyX1 k) := by decide +kernel
abbrev cX1_init : ByteArray := prog_3_method_1_code
def yX1_init : MethodName := ⟨RX1, "<init>", "()V"⟩
abbrev cX1_workOut : ByteArray := prog_3_method_2_code
def yX1_workOut : MethodName := ⟨RX1, "workOut", "(LKnotBand$Picture;)V"⟩
abbrev cX1_listKnots : ByteArray := prog_3_method_3_code
def yX1_listKnots : MethodName := ⟨RX1, "listKnots", "(LKnotBand$Picture;)V"⟩
abbrev cX1_workBackward : ByteArray := prog_3_method_4_code
def yX1_workBackward : MethodName := ⟨RX1, "workBackward", "()V"⟩
abbrev cX1_chooseKinds : ByteArray := prog_3_method_5_code
def yX1_chooseKinds : MethodName := ⟨RX1, "chooseKinds", "(LKnotBand$Picture;)V"⟩
abbrev cX1_leastKind : ByteArray := prog_3_method_6_code
def yX1_leastKind : MethodName := ⟨RX1, "leastKind", "(II)I"⟩
abbrev cX1_standingBehind : ByteArray := prog_3_method_7_code
def yX1_standingBehind : MethodName := ⟨RX1, "standingBehind", "(III)I"⟩
abbrev cX1_findSuspects : ByteArray := prog_3_method_8_code
def yX1_findSuspects : MethodName := ⟨RX1, "findSuspects", "(LKnotBand$Picture;)V"⟩
def RX2 : String := "KnotBand$Picture"
def TX2 : u_T := fun k => match k with
  | 0 => ("KnotBand$Picture", "told", "[I", true)
  | 1 => ("KnotBand$Picture", "toldAtFirst", "[I", true)
  | 2 => ("KnotBand$Picture", "threads", "I", false)
  | 3 => ("KnotBand$Picture", "rows", "I", false)
  | 4 => ("KnotBand$Picture", "workedOut", "Z", false)
  | 5 => ("KnotBand$Picture", "startCount", "I", false)
  | 6 => ("KnotBand$Picture", "firstStart", "I", false)
  | 7 => ("KnotBand$Picture", "kinds", "[I", true)
  | 8 => ("KnotBand$Picture", "suspects", "[I", true)
  | _ => ("KnotBand$Picture", "suspectCount", "I", false)
def tyX2 : Nat → FieldType := fun k => match k with
  | 0 => .array .int
  | 1 => .array .int
  | 2 => .int
  | 3 => .int
  | 4 => .boolean
  | 5 => .int
  | 6 => .int
  | 7 => .array .int
  | 8 => .array .int
  | _ => .int
abbrev wsX20 : List Cond := u_ws RX2 TX2 10
theorem nmX2 : ∀ a, a < 10 → ∀ b, b < 10 → a ≠ b → (TX2 a).2.1 ≠ (TX2 b).2.1 := by decide +kernel
theorem tyX2_ok : ∀ k, k < 10 → parseFieldDescriptor (TX2 k).2.2.1 = some (tyX2 k) := by decide +kernel
abbrev cX2_init : ByteArray := prog_4_method_1_code
def yX2_init : MethodName := ⟨RX2, "<init>", "()V"⟩
abbrev cX2_begin : ByteArray := prog_4_method_2_code
def yX2_begin : MethodName := ⟨RX2, "begin", "(II)V"⟩
def RX3 : String := "KnotBand$Standings"
def TX3 : u_T := fun k => match k with
  | _ => ("KnotBand$Standings", "words", "[J", true)
def tyX3 : Nat → FieldType := fun k => match k with
  | _ => .array .long
abbrev wsX30 : List Cond := u_ws RX3 TX3 1
theorem nmX3 : ∀ a, a < 1 → ∀ b, b < 1 → a ≠ b → (TX3 a).2.1 ≠ (TX3 b).2.1 := by decide +kernel
theorem tyX3_ok : ∀ k, k < 1 → parseFieldDescriptor (TX3 k).2.2.1 = some (tyX3 k) := by decide +kernel
abbrev cX3_init : ByteArray := prog_5_method_1_code
def yX3_init : MethodName := ⟨RX3, "<init>", "()V"⟩
abbrev cX3_fill : ByteArray := prog_5_method_2_code
def yX3_fill : MethodName := ⟨RX3, "fill", "()V"⟩
abbrev cX3_keep : ByteArray := prog_5_method_3_code
def yX3_keep : MethodName := ⟨RX3, "keep", "(II)V"⟩
abbrev cX3_keepEither : ByteArray := prog_5_method_4_code
def yX3_keepEither : MethodName := ⟨RX3, "keepEither", "(II)V"⟩
abbrev cX3_having : ByteArray := prog_5_method_5_code
def yX3_having : MethodName := ⟨RX3, "having", "(III)J"⟩
abbrev cX3_spread : ByteArray := prog_5_method_6_code
def yX3_spread : MethodName := ⟨RX3, "spread", "(LKnotBand$Standings;I)V"⟩
abbrev cX3_spreadBetween : ByteArray := prog_5_method_7_code
def yX3_spreadBetween : MethodName := ⟨RX3, "spreadBetween", "([JI)V"⟩
abbrev cX3_spreadAcross : ByteArray := prog_5_method_8_code
def yX3_spreadAcross : MethodName := ⟨RX3, "spreadAcross", "([J)V"⟩
abbrev cX3_spreadInside : ByteArray := prog_5_method_9_code
def yX3_spreadInside : MethodName := ⟨RX3, "spreadInside", "([J[JI)V"⟩
abbrev cX3_has : ByteArray := prog_5_method_10_code
def yX3_has : MethodName := ⟨RX3, "has", "(I)Z"⟩
abbrev cX3_countShared : ByteArray := prog_5_method_11_code
def yX3_countShared : MethodName := ⟨RX3, "countShared", "(LKnotBand$Standings;)I"⟩
abbrev cX3_firstShared : ByteArray := prog_5_method_12_code
def yX3_firstShared : MethodName := ⟨RX3, "firstShared", "(LKnotBand$Standings;)I"⟩
def RX4 : String := "KnotBand"
def TX4 : u_T := fun k => match k with
  | 0 => ("KnotBand", "bands", "[LKnotBand$Band;", true)
  | 1 => ("KnotBand", "pictures", "[LKnotBand$Picture;", true)
  | 2 => ("KnotBand", "loom", "LKnotBand$Loom;", true)
  | 3 => ("KnotBand", "bandCount", "I", false)
  | _ => ("KnotBand", "pictureCount", "I", false)
def tyX4 : Nat → FieldType := fun k => match k with
  | 0 => .array (.object "KnotBand$Band")
  | 1 => .array (.object "KnotBand$Picture")
  | 2 => .object "KnotBand$Loom"
  | 3 => .int
  | _ => .int
abbrev wsX40 : List Cond := u_ws RX4 TX4 5
theorem nmX4 : ∀ a, a < 5 → ∀ b, b < 5 → a ≠ b → (TX4 a).2.1 ≠ (TX4 b).2.1 := by decide +kernel
theorem tyX4_ok : ∀ k, k < 5 → parseFieldDescriptor (TX4 k).2.2.1 = some (tyX4 k) := by decide +kernel
abbrev cX4_init : ByteArray := prog_1_method_1_code
def yX4_init : MethodName := ⟨RX4, "<init>", "()V"⟩
abbrev cX4_band : ByteArray := prog_1_method_2_code
def yX4_band : MethodName := ⟨RX4, "band", "(I)I"⟩
abbrev cX4_colour : ByteArray := prog_1_method_3_code
def yX4_colour : MethodName := ⟨RX4, "colour", "(III)I"⟩
abbrev cX4_row : ByteArray := prog_1_method_4_code
def yX4_row : MethodName := ⟨RX4, "row", "(II)I"⟩
abbrev cX4_knot : ByteArray := prog_1_method_5_code
def yX4_knot : MethodName := ⟨RX4, "knot", "(IIII)I"⟩
abbrev cX4_shows : ByteArray := prog_1_method_6_code
def yX4_shows : MethodName := ⟨RX4, "shows", "(III)I"⟩
abbrev cX4_thread : ByteArray := prog_1_method_7_code
def yX4_thread : MethodName := ⟨RX4, "thread", "(III)I"⟩
abbrev cX4_used : ByteArray := prog_1_method_8_code
def yX4_used : MethodName := ⟨RX4, "used", "(II)I"⟩
abbrev cX4_home : ByteArray := prog_1_method_9_code
def yX4_home : MethodName := ⟨RX4, "home", "(II)I"⟩
abbrev cX4_unlike : ByteArray := prog_1_method_10_code
def yX4_unlike : MethodName := ⟨RX4, "unlike", "(II)I"⟩
abbrev cX4_picture : ByteArray := prog_1_method_11_code
def yX4_picture : MethodName := ⟨RX4, "picture", "(II)I"⟩
abbrev cX4_see : ByteArray := prog_1_method_12_code
def yX4_see : MethodName := ⟨RX4, "see", "(IIII)I"⟩
abbrev cX4_must : ByteArray := prog_1_method_13_code
def yX4_must : MethodName := ⟨RX4, "must", "(III)I"⟩
abbrev cX4_copy : ByteArray := prog_1_method_14_code
def yX4_copy : MethodName := ⟨RX4, "copy", "(II)Z"⟩
abbrev cX4_starts : ByteArray := prog_1_method_15_code
def yX4_starts : MethodName := ⟨RX4, "starts", "(I)I"⟩
abbrev cX4_start : ByteArray := prog_1_method_16_code
def yX4_start : MethodName := ⟨RX4, "start", "(II)I"⟩
abbrev cX4_tie : ByteArray := prog_1_method_17_code
def yX4_tie : MethodName := ⟨RX4, "tie", "(I)I"⟩
abbrev cX4_suspect : ByteArray := prog_1_method_18_code
def yX4_suspect : MethodName := ⟨RX4, "suspect", "(II)I"⟩
abbrev cX4_count : ByteArray := prog_1_method_19_code
def yX4_count : MethodName := ⟨RX4, "count", "(I)I"⟩
abbrev cX4_bandAt : ByteArray := prog_1_method_20_code
def yX4_bandAt : MethodName := ⟨RX4, "bandAt", "(I)LKnotBand$Band;"⟩
abbrev cX4_pictureAt : ByteArray := prog_1_method_21_code
def yX4_pictureAt : MethodName := ⟨RX4, "pictureAt", "(I)LKnotBand$Picture;"⟩
abbrev cX4_workedOutAt : ByteArray := prog_1_method_22_code
def yX4_workedOutAt : MethodName := ⟨RX4, "workedOutAt", "(I)LKnotBand$Picture;"⟩
abbrev cX4_needElement : ByteArray := prog_1_method_23_code
def yX4_needElement : MethodName := ⟨RX4, "needElement", "(II)V"⟩
abbrev cX4_needArgument : ByteArray := prog_1_method_24_code
def yX4_needArgument : MethodName := ⟨RX4, "needArgument", "(II)V"⟩
abbrev cX4_mayBeThreads : ByteArray := prog_1_method_25_code
def yX4_mayBeThreads : MethodName := ⟨RX4, "mayBeThreads", "(I)Z"⟩
abbrev cX4_knotsIn : ByteArray := prog_1_method_26_code
def yX4_knotsIn : MethodName := ⟨RX4, "knotsIn", "(II)I"⟩
abbrev cX4_leftPlaceOf : ByteArray := prog_1_method_27_code
def yX4_leftPlaceOf : MethodName := ⟨RX4, "leftPlaceOf", "(II)I"⟩
abbrev cX4_spotOf : ByteArray := prog_1_method_28_code
def yX4_spotOf : MethodName := ⟨RX4, "spotOf", "(II)I"⟩
abbrev cX4_kindIn : ByteArray := prog_1_method_29_code
def yX4_kindIn : MethodName := ⟨RX4, "kindIn", "(II)I"⟩
abbrev cX4_withKind : ByteArray := prog_1_method_30_code
def yX4_withKind : MethodName := ⟨RX4, "withKind", "(III)I"⟩
abbrev cX4_showingPlace : ByteArray := prog_1_method_31_code
def yX4_showingPlace : MethodName := ⟨RX4, "showingPlace", "(II)I"⟩
abbrev cX4_bitOf : ByteArray := prog_1_method_32_code
def yX4_bitOf : MethodName := ⟨RX4, "bitOf", "(I)I"⟩
abbrev cX4_colourIn : ByteArray := prog_1_method_33_code
def yX4_colourIn : MethodName := ⟨RX4, "colourIn", "(II)I"⟩
abbrev cX4_exchanged : ByteArray := prog_1_method_34_code
def yX4_exchanged : MethodName := ⟨RX4, "exchanged", "(II)I"⟩
def RX5 : String := "KnotBandModel"
def TX5 : u_T := fun k => match k with
  | 0 => ("KnotBandModel", "thrown", "I", false)
  | 1 => ("KnotBandModel", "bands", "I", false)
  | 2 => ("KnotBandModel", "pictures", "I", false)
  | 3 => ("KnotBandModel", "threads", "[I", true)
  | 4 => ("KnotBandModel", "rows", "[I", true)
  | 5 => ("KnotBandModel", "colours", "[I", true)
  | 6 => ("KnotBandModel", "kinds", "[I", true)
  | 7 => ("KnotBandModel", "width", "[I", true)
  | 8 => ("KnotBandModel", "high", "[I", true)
  | 9 => ("KnotBandModel", "seen", "[I", true)
  | 10 => ("KnotBandModel", "must", "[I", true)
  | 11 => ("KnotBandModel", "at", "[I", true)
  | 12 => ("KnotBandModel", "now", "[I", true)
  | 13 => ("KnotBandModel", "then", "[I", true)
  | _ => ("KnotBandModel", "can", "[Z", true)
def tyX5 : Nat → FieldType := fun k => match k with
  | 0 => .int
  | 1 => .int
  | 2 => .int
  | 3 => .array .int
  | 4 => .array .int
  | 5 => .array .int
  | 6 => .array .int
  | 7 => .array .int
  | 8 => .array .int
  | 9 => .array .int
  | 10 => .array .int
  | 11 => .array .int
  | 12 => .array .int
  | 13 => .array .int
  | _ => .array .boolean
abbrev wsX50 : List Cond := u_ws RX5 TX5 15
theorem nmX5 : ∀ a, a < 15 → ∀ b, b < 15 → a ≠ b → (TX5 a).2.1 ≠ (TX5 b).2.1 := by decide +kernel
theorem tyX5_ok : ∀ k, k < 15 → parseFieldDescriptor (TX5 k).2.2.1 = some (tyX5 k) := by decide +kernel
abbrev cX5_init : ByteArray := prog_7_method_1_code
def yX5_init : MethodName := ⟨RX5, "<init>", "()V"⟩
abbrev cX5_thrown : ByteArray := prog_7_method_2_code
def yX5_thrown : MethodName := ⟨RX5, "thrown", "()I"⟩
abbrev cX5_right : ByteArray := prog_7_method_3_code
def yX5_right : MethodName := ⟨RX5, "right", "(ZI)Z"⟩
abbrev cX5_knots : ByteArray := prog_7_method_4_code
def yX5_knots : MethodName := ⟨RX5, "knots", "(II)I"⟩
abbrev cX5_left : ByteArray := prog_7_method_5_code
def yX5_left : MethodName := ⟨RX5, "left", "(II)I"⟩
abbrev cX5_isBand : ByteArray := prog_7_method_6_code
def yX5_isBand : MethodName := ⟨RX5, "isBand", "(I)Z"⟩
abbrev cX5_band : ByteArray := prog_7_method_7_code
def yX5_band : MethodName := ⟨RX5, "band", "(I)I"⟩
abbrev cX5_colour : ByteArray := prog_7_method_8_code
def yX5_colour : MethodName := ⟨RX5, "colour", "(III)I"⟩
abbrev cX5_row : ByteArray := prog_7_method_9_code
def yX5_row : MethodName := ⟨RX5, "row", "(II)I"⟩
abbrev cX5_isKnot : ByteArray := prog_7_method_10_code
def yX5_isKnot : MethodName := ⟨RX5, "isKnot", "(III)Z"⟩
abbrev cX5_knot : ByteArray := prog_7_method_11_code
def yX5_knot : MethodName := ⟨RX5, "knot", "(IIII)I"⟩
abbrev cX5_stands : ByteArray := prog_7_method_12_code
def yX5_stands : MethodName := ⟨RX5, "stands", "(II)V"⟩
abbrev cX5_of : ByteArray := prog_7_method_13_code
def yX5_of : MethodName := ⟨RX5, "of", "(IIIZ)I"⟩
abbrev cX5_showsOf : ByteArray := prog_7_method_14_code
def yX5_showsOf : MethodName := ⟨RX5, "showsOf", "(III)I"⟩
abbrev cX5_shows : ByteArray := prog_7_method_15_code
def yX5_shows : MethodName := ⟨RX5, "shows", "(III)I"⟩
abbrev cX5_thread : ByteArray := prog_7_method_16_code
def yX5_thread : MethodName := ⟨RX5, "thread", "(III)I"⟩
abbrev cX5_used : ByteArray := prog_7_method_17_code
def yX5_used : MethodName := ⟨RX5, "used", "(II)I"⟩
abbrev cX5_home : ByteArray := prog_7_method_18_code
def yX5_home : MethodName := ⟨RX5, "home", "(II)I"⟩
abbrev cX5_unlike : ByteArray := prog_7_method_19_code
def yX5_unlike : MethodName := ⟨RX5, "unlike", "(II)I"⟩
abbrev cX5_isPicture : ByteArray := prog_7_method_20_code
def yX5_isPicture : MethodName := ⟨RX5, "isPicture", "(I)Z"⟩
abbrev cX5_picture : ByteArray := prog_7_method_21_code
def yX5_picture : MethodName := ⟨RX5, "picture", "(II)I"⟩
abbrev cX5_see : ByteArray := prog_7_method_22_code
def yX5_see : MethodName := ⟨RX5, "see", "(IIII)I"⟩
abbrev cX5_must : ByteArray := prog_7_method_23_code
def yX5_must : MethodName := ⟨RX5, "must", "(III)I"⟩
abbrev cX5_copy : ByteArray := prog_7_method_24_code
def yX5_copy : MethodName := ⟨RX5, "copy", "(II)Z"⟩
abbrev cX5_digit : ByteArray := prog_7_method_25_code
def yX5_digit : MethodName := ⟨RX5, "digit", "(III)I"⟩
abbrev cX5_swapped : ByteArray := prog_7_method_26_code
def yX5_swapped : MethodName := ⟨RX5, "swapped", "(III)I"⟩
abbrev cX5_changed : ByteArray := prog_7_method_27_code
def yX5_changed : MethodName := ⟨RX5, "changed", "(IIII)I"⟩
abbrev cX5_fits : ByteArray := prog_7_method_28_code
def yX5_fits : MethodName := ⟨RX5, "fits", "(III)Z"⟩
abbrev cX5_states : ByteArray := prog_7_method_29_code
def yX5_states : MethodName := ⟨RX5, "states", "(I)I"⟩
abbrev cX5_leadsBack : ByteArray := prog_7_method_30_code
def yX5_leadsBack : MethodName := ⟨RX5, "leadsBack", "(I)V"⟩
abbrev cX5_isStart : ByteArray := prog_7_method_31_code
def yX5_isStart : MethodName := ⟨RX5, "isStart", "(II)Z"⟩
abbrev cX5_first : ByteArray := prog_7_method_32_code
def yX5_first : MethodName := ⟨RX5, "first", "(I)I"⟩
abbrev cX5_starts : ByteArray := prog_7_method_33_code
def yX5_starts : MethodName := ⟨RX5, "starts", "(I)I"⟩
abbrev cX5_start : ByteArray := prog_7_method_34_code
def yX5_start : MethodName := ⟨RX5, "start", "(II)I"⟩
abbrev cX5_isOpen : ByteArray := prog_7_method_35_code
def yX5_isOpen : MethodName := ⟨RX5, "isOpen", "(IIIII)Z"⟩
abbrev cX5_tie : ByteArray := prog_7_method_36_code
def yX5_tie : MethodName := ⟨RX5, "tie", "(I)I"⟩
abbrev cX5_isKind : ByteArray := prog_7_method_37_code
def yX5_isKind : MethodName := ⟨RX5, "isKind", "(IIIIII)Z"⟩
abbrev cX5_suspect : ByteArray := prog_7_method_38_code
def yX5_suspect : MethodName := ⟨RX5, "suspect", "(II)I"⟩
abbrev cX5_count : ByteArray := prog_7_method_39_code
def yX5_count : MethodName := ⟨RX5, "count", "(I)I"⟩
def RJ13 : String := "java/lang/Long"
def TJ13 : u_T := fun k => match k with
  | _ => ("", "", "", false)
def tyJ13 : Nat → FieldType := fun k => match k with
  | _ => .int
abbrev wsJ130 : List Cond := u_ws RJ13 TJ13 0
theorem nmJ13 : ∀ a, a < 0 → ∀ b, b < 0 → a ≠ b → (TJ13 a).2.1 ≠ (TJ13 b).2.1 := by decide +kernel
theorem tyJ13_ok : ∀ k, k < 0 → parseFieldDescriptor (TJ13 k).2.2.1 = some (tyJ13 k) := by decide +kernel
abbrev cJ13_bitCount_95d88 : ByteArray := prog_10_method_50_code
def yJ13_bitCount_95d88 : MethodName := ⟨RJ13, "bitCount", "(J)I"⟩
def RJ0 : String := "java/lang/String"
def TJ0 : u_T := fun k => match k with
  | _ => ("", "", "", false)
def tyJ0 : Nat → FieldType := fun k => match k with
  | _ => .int
abbrev wsJ00 : List Cond := u_ws RJ0 TJ0 0
theorem nmJ0 : ∀ a, a < 0 → ∀ b, b < 0 → a ≠ b → (TJ0 a).2.1 ≠ (TJ0 b).2.1 := by decide +kernel
theorem tyJ0_ok : ∀ k, k < 0 → parseFieldDescriptor (TJ0 k).2.2.1 = some (tyJ0 k) := by decide +kernel
def RL : String := "KnotBandLaw"
abbrev cL_colour : ByteArray := method_3_code
def yL_colour : MethodName := ⟨RL, "colour", "(LKnotBand;III[J)I"⟩
abbrev cL_row : ByteArray := method_4_code
def yL_row : MethodName := ⟨RL, "row", "(LKnotBand;II[J)I"⟩
abbrev cL_knot : ByteArray := method_5_code
def yL_knot : MethodName := ⟨RL, "knot", "(LKnotBand;IIII[J)I"⟩
abbrev cL_shows : ByteArray := method_6_code
def yL_shows : MethodName := ⟨RL, "shows", "(LKnotBand;III[J)I"⟩
abbrev cL_thread : ByteArray := method_7_code
def yL_thread : MethodName := ⟨RL, "thread", "(LKnotBand;III[J)I"⟩
abbrev cL_used : ByteArray := method_8_code
def yL_used : MethodName := ⟨RL, "used", "(LKnotBand;II[J)I"⟩
abbrev cL_home : ByteArray := method_9_code
def yL_home : MethodName := ⟨RL, "home", "(LKnotBand;II[J)I"⟩
abbrev cL_unlike : ByteArray := method_10_code
def yL_unlike : MethodName := ⟨RL, "unlike", "(LKnotBand;II[J)I"⟩
abbrev cL_see : ByteArray := method_11_code
def yL_see : MethodName := ⟨RL, "see", "(LKnotBand;IIII[J)I"⟩
abbrev cL_must : ByteArray := method_12_code
def yL_must : MethodName := ⟨RL, "must", "(LKnotBand;III[J)I"⟩
abbrev cL_copy : ByteArray := method_13_code
def yL_copy : MethodName := ⟨RL, "copy", "(LKnotBand;II[J)I"⟩
abbrev cL_starts : ByteArray := method_14_code
def yL_starts : MethodName := ⟨RL, "starts", "(LKnotBand;I[J)I"⟩
abbrev cL_start : ByteArray := method_15_code
def yL_start : MethodName := ⟨RL, "start", "(LKnotBand;II[J)I"⟩
abbrev cL_tie : ByteArray := method_16_code
def yL_tie : MethodName := ⟨RL, "tie", "(LKnotBand;I[J)I"⟩
abbrev cL_suspect : ByteArray := method_17_code
def yL_suspect : MethodName := ⟨RL, "suspect", "(LKnotBand;II[J)I"⟩
abbrev cL_count : ByteArray := method_18_code
def yL_count : MethodName := ⟨RL, "count", "(LKnotBand;I[J)I"⟩
abbrev cL_law : ByteArray := code
def yL_law : MethodName := ⟨RL, "law", "([I)Z"⟩
def wsX0_init : List Cond := .code yX0_init cX0_init 1 none :: ([.methodLink RX0 3 objectInit, .instanceMethod objectInit, .code objectInit ⟨#[0xb1]⟩ 1 none, .arrayClass .int, .fieldLink RX0 9 "KnotBand$Band" "colours" "[I", .fieldLink RX0 15 "KnotBand$Band" "kinds" "[I", .fieldLink RX0 18 "KnotBand$Band" "threads" "I", .fieldLink RX0 22 "KnotBand$Band" "rows" "I", .fieldLink RX0 25 "KnotBand$Band" "standing" "[I", .fieldLink RX0 28 "KnotBand$Band" "spent" "[I", .fieldLink RX0 31 "KnotBand$Band" "shown" "[I", .fieldLink RX0 34 "KnotBand$Band" "repeated" "[I"] ++ wsX00)
def wsX4_bitOf : List Cond := .code yX4_bitOf cX4_bitOf 1 (some .int) :: ([])
def wsX4_colourIn : List Cond := .code yX4_colourIn cX4_colourIn 2 (some .int) :: ([.methodLink RX4 154 yX4_bitOf, .static yX4_bitOf, .initialized RX4, .code yX4_bitOf cX4_bitOf 1 (some .int)])
def wsX0_become : List Cond := .code yX0_become cX0_become 3 none :: ([.fieldLink RX0 18 "KnotBand$Band" "threads" "I", .fieldLink RX0 22 "KnotBand$Band" "rows" "I", .fieldLink RX0 9 "KnotBand$Band" "colours" "[I", .fieldLink RX0 15 "KnotBand$Band" "kinds" "[I", .static yX4_colourIn, .initialized RX4, .code yX4_colourIn cX4_colourIn 2 (some .int), .methodLink RX4 154 yX4_bitOf, .static yX4_bitOf, .code yX4_bitOf cX4_bitOf 1 (some .int)] ++ wsX20 ++ wsX00)
def wsX4_knotsIn : List Cond := .code yX4_knotsIn cX4_knotsIn 2 (some .int) :: ([])
def wsX4_leftPlaceOf : List Cond := .code yX4_leftPlaceOf cX4_leftPlaceOf 2 (some .int) :: ([])
def wsX4_kindIn : List Cond := .code yX4_kindIn cX4_kindIn 2 (some .int) :: ([])
def wsX4_showingPlace : List Cond := .code yX4_showingPlace cX4_showingPlace 2 (some .int) :: ([])
def wsX4_spotOf : List Cond := .code yX4_spotOf cX4_spotOf 2 (some .int) :: ([])
def wsX0_walkKnot : List Cond := .code yX0_walkKnot cX0_walkKnot 9 none :: ([.fieldLink RX0 15 "KnotBand$Band" "kinds" "[I", .fieldLink RX0 25 "KnotBand$Band" "standing" "[I", .fieldLink RX0 31 "KnotBand$Band" "shown" "[I", .fieldLink RX0 9 "KnotBand$Band" "colours" "[I", .fieldLink RX0 28 "KnotBand$Band" "spent" "[I", .static yX4_leftPlaceOf, .initialized RX4, .code yX4_leftPlaceOf cX4_leftPlaceOf 2 (some .int), .static yX4_kindIn, .code yX4_kindIn cX4_kindIn 2 (some .int), .static yX4_showingPlace, .code yX4_showingPlace cX4_showingPlace 2 (some .int), .static yX4_spotOf, .code yX4_spotOf cX4_spotOf 2 (some .int)] ++ wsX00)
def wsX0_walk : List Cond := .code yX0_walk cX0_walk 5 none :: ([.fieldLink RX0 18 "KnotBand$Band" "threads" "I", .fieldLink RX0 25 "KnotBand$Band" "standing" "[I", .fieldLink RX0 28 "KnotBand$Band" "spent" "[I", .static yX4_knotsIn, .initialized RX4, .code yX4_knotsIn cX4_knotsIn 2 (some .int), .methodLink RX0 52 yX0_walkKnot, .instanceMethod yX0_walkKnot, .selects RX0 yX0_walkKnot yX0_walkKnot, .initialized RX0, .code yX0_walkKnot cX0_walkKnot 9 none, .fieldLink RX0 15 "KnotBand$Band" "kinds" "[I", .fieldLink RX0 31 "KnotBand$Band" "shown" "[I", .fieldLink RX0 9 "KnotBand$Band" "colours" "[I", .static yX4_leftPlaceOf, .code yX4_leftPlaceOf cX4_leftPlaceOf 2 (some .int), .static yX4_kindIn, .code yX4_kindIn cX4_kindIn 2 (some .int), .static yX4_showingPlace, .code yX4_showingPlace cX4_showingPlace 2 (some .int), .static yX4_spotOf, .code yX4_spotOf cX4_spotOf 2 (some .int)] ++ wsX00)
def wsX0_isHome : List Cond := .code yX0_isHome cX0_isHome 5 (some .boolean) :: ([.fieldLink RX0 18 "KnotBand$Band" "threads" "I", .fieldLink RX0 34 "KnotBand$Band" "repeated" "[I", .fieldLink RX0 9 "KnotBand$Band" "colours" "[I"] ++ wsX00)
def wsX0_timesToHome_r1 : List Cond := [Cond.fieldLink RX0 22 "KnotBand$Band" "rows" "I", Cond.fieldLink RX0 18 "KnotBand$Band" "threads" "I", Cond.fieldLink RX0 34 "KnotBand$Band" "repeated" "[I", Cond.fieldLink RX0 25 "KnotBand$Band" "standing" "[I", Cond.methodLink RX0 68 yX0_walk, Cond.instanceMethod yX0_walk, Cond.selects RX0 yX0_walk yX0_walk, Cond.initialized RX0, Cond.code yX0_walk cX0_walk 5 none, Cond.fieldLink RX0 28 "KnotBand$Band" "spent" "[I", Cond.static yX4_knotsIn, Cond.initialized RX4, Cond.code yX4_knotsIn cX4_knotsIn 2 (some .int), Cond.methodLink RX0 52 yX0_walkKnot, Cond.instanceMethod yX0_walkKnot, Cond.selects RX0 yX0_walkKnot yX0_walkKnot, Cond.code yX0_walkKnot cX0_walkKnot 9 none, Cond.fieldLink RX0 15 "KnotBand$Band" "kinds" "[I", Cond.fieldLink RX0 31 "KnotBand$Band" "shown" "[I", Cond.fieldLink RX0 9 "KnotBand$Band" "colours" "[I", Cond.static yX4_leftPlaceOf, Cond.code yX4_leftPlaceOf cX4_leftPlaceOf 2 (some .int), Cond.static yX4_kindIn, Cond.code yX4_kindIn cX4_kindIn 2 (some .int)]
def wsX0_timesToHome_r2 : List Cond := [Cond.static yX4_showingPlace, Cond.code yX4_showingPlace cX4_showingPlace 2 (some .int), Cond.static yX4_spotOf, Cond.code yX4_spotOf cX4_spotOf 2 (some .int), Cond.methodLink RX0 72 yX0_isHome, Cond.instanceMethod yX0_isHome, Cond.selects RX0 yX0_isHome yX0_isHome, Cond.code yX0_isHome cX0_isHome 5 (some .boolean)]
def wsX0_timesToHome : List Cond := .code yX0_timesToHome cX0_timesToHome 4 (some .int) :: ((wsX0_timesToHome_r1 ++ wsX0_timesToHome_r2) ++ wsX00)
def wsX3_init : List Cond := .code yX3_init cX3_init 1 none :: ([.methodLink RX3 5 objectInit, .instanceMethod objectInit, .code objectInit ⟨#[0xb1]⟩ 1 none, .arrayClass .long, .fieldLink RX3 11 "KnotBand$Standings" "words" "[J"] ++ wsX30)
def wsX1_init : List Cond := .code yX1_init cX1_init 2 none :: ([.methodLink RX1 3 objectInit, .instanceMethod objectInit, .code objectInit ⟨#[0xb1]⟩ 1 none, .arrayClass .int, .fieldLink RX1 9 "KnotBand$Loom" "names" "[I", .fieldLink RX1 15 "KnotBand$Loom" "lefts" "[I", .fieldLink RX1 18 "KnotBand$Loom" "wished" "[I", .fieldLink RX1 21 "KnotBand$Loom" "knotCount" "I", .classLink RX1 25 RX3, .fieldLink RX1 27 "KnotBand$Loom" "ahead" "[LKnotBand$Standings;", .instantiable RX3 1, .initialized RX3, .fieldLink RX1 32 "KnotBand$Loom" "now" "LKnotBand$Standings;", .instanceMethod yX3_init, .code yX3_init cX3_init 1 none, .methodLink RX3 5 objectInit, .arrayClass .long, .fieldLink RX3 11 "KnotBand$Standings" "words" "[J"] ++ wsX10 ++ wsX30)
def wsX1_listKnots : List Cond := .code yX1_listKnots cX1_listKnots 5 none :: ([.fieldLink RX1 21 "KnotBand$Loom" "knotCount" "I", .fieldLink RX1 9 "KnotBand$Loom" "names" "[I", .fieldLink RX1 15 "KnotBand$Loom" "lefts" "[I", .fieldLink RX1 18 "KnotBand$Loom" "wished" "[I", .static yX4_knotsIn, .initialized RX4, .code yX4_knotsIn cX4_knotsIn 2 (some .int), .static yX4_leftPlaceOf, .code yX4_leftPlaceOf cX4_leftPlaceOf 2 (some .int), .static yX4_spotOf, .code yX4_spotOf cX4_spotOf 2 (some .int)] ++ wsX10 ++ wsX20)
def wsX3_fill : List Cond := .code yX3_fill cX3_fill 2 none :: ([.fieldLink RX3 11 "KnotBand$Standings" "words" "[J", .constantLong RX3 15 (-1)] ++ wsX30)
def wsX3_spreadAcross : List Cond := .code yX3_spreadAcross cX3_spreadAcross 7 none :: ([.constantLong RX3 21 (65535), .fieldLink RX3 11 "KnotBand$Standings" "words" "[J"] ++ wsX30)
def wsX3_spreadInside : List Cond := .code yX3_spreadInside cX3_spreadInside 11 none :: ([.fieldLink RX3 11 "KnotBand$Standings" "words" "[J"] ++ wsX30)
def wsX4_exchanged : List Cond := .code yX4_exchanged cX4_exchanged 3 (some .int) :: ([])
def wsX3_spreadBetween : List Cond := .code yX3_spreadBetween cX3_spreadBetween 4 none :: ([.fieldLink RX3 11 "KnotBand$Standings" "words" "[J", .static yX4_exchanged, .initialized RX4, .code yX4_exchanged cX4_exchanged 3 (some .int)] ++ wsX30)
def wsX3_spread : List Cond := .code yX3_spread cX3_spread 3 none :: ([.fieldLink RX3 11 "KnotBand$Standings" "words" "[J", .fieldLink RX3 31 "KnotBand$Standings" "PLACE_3_LESS" "[J", .fieldLink RX3 38 "KnotBand$Standings" "PLACE_4_LESS" "[J", .methodLink RX3 27 yX3_spreadAcross, .instanceMethod yX3_spreadAcross, .selects RX3 yX3_spreadAcross yX3_spreadAcross, .initialized RX3, .code yX3_spreadAcross cX3_spreadAcross 7 none, .constantLong RX3 21 (65535), .methodLink RX3 34 yX3_spreadInside, .instanceMethod yX3_spreadInside, .selects RX3 yX3_spreadInside yX3_spreadInside, .code yX3_spreadInside cX3_spreadInside 11 none, .methodLink RX3 41 yX3_spreadBetween, .instanceMethod yX3_spreadBetween, .selects RX3 yX3_spreadBetween yX3_spreadBetween, .code yX3_spreadBetween cX3_spreadBetween 4 none, .static yX4_exchanged, .initialized RX4, .code yX4_exchanged cX4_exchanged 3 (some .int)] ++ wsX30)
def wsX3_having : List Cond := .code yX3_having cX3_having 3 (some .long) :: ([.constantLong RX3 21 (65535), .constantLong RX3 23 (4222189076152335), .constantLong RX3 25 (1229782938247303441), .constantLong RX3 15 (-1)])
def wsX3_keepEither : List Cond := .code yX3_keepEither cX3_keepEither 4 none :: ([.fieldLink RX3 11 "KnotBand$Standings" "words" "[J", .methodLink RX3 17 yX3_having, .static yX3_having, .initialized RX3, .code yX3_having cX3_having 3 (some .long), .constantLong RX3 21 (65535), .constantLong RX3 23 (4222189076152335), .constantLong RX3 25 (1229782938247303441), .constantLong RX3 15 (-1)] ++ wsX30)
def wsX1_workBackward_r1 : List Cond := [Cond.fieldLink RX1 27 "KnotBand$Loom" "ahead" "[LKnotBand$Standings;", Cond.fieldLink RX1 21 "KnotBand$Loom" "knotCount" "I", Cond.fieldLink RX1 15 "KnotBand$Loom" "lefts" "[I", Cond.fieldLink RX1 18 "KnotBand$Loom" "wished" "[I", Cond.methodLink RX1 43 yX3_fill, Cond.instanceMethod yX3_fill, Cond.selects RX3 yX3_fill yX3_fill, Cond.initialized RX3, Cond.code yX3_fill cX3_fill 2 none, Cond.fieldLink RX3 11 "KnotBand$Standings" "words" "[J", Cond.constantLong RX3 15 (-1), Cond.methodLink RX1 100 yX3_spread, Cond.instanceMethod yX3_spread, Cond.selects RX3 yX3_spread yX3_spread, Cond.code yX3_spread cX3_spread 3 none, Cond.fieldLink RX3 31 "KnotBand$Standings" "PLACE_3_LESS" "[J", Cond.fieldLink RX3 38 "KnotBand$Standings" "PLACE_4_LESS" "[J", Cond.methodLink RX3 27 yX3_spreadAcross, Cond.instanceMethod yX3_spreadAcross, Cond.selects RX3 yX3_spreadAcross yX3_spreadAcross, Cond.code yX3_spreadAcross cX3_spreadAcross 7 none, Cond.constantLong RX3 21 (65535), Cond.methodLink RX3 34 yX3_spreadInside, Cond.instanceMethod yX3_spreadInside]
def wsX1_workBackward_r2 : List Cond := [Cond.selects RX3 yX3_spreadInside yX3_spreadInside, Cond.code yX3_spreadInside cX3_spreadInside 11 none, Cond.methodLink RX3 41 yX3_spreadBetween, Cond.instanceMethod yX3_spreadBetween, Cond.selects RX3 yX3_spreadBetween yX3_spreadBetween, Cond.code yX3_spreadBetween cX3_spreadBetween 4 none, Cond.static yX4_exchanged, Cond.initialized RX4, Cond.code yX4_exchanged cX4_exchanged 3 (some .int), Cond.methodLink RX1 104 yX3_keepEither, Cond.instanceMethod yX3_keepEither, Cond.selects RX3 yX3_keepEither yX3_keepEither, Cond.code yX3_keepEither cX3_keepEither 4 none, Cond.methodLink RX3 17 yX3_having, Cond.static yX3_having, Cond.code yX3_having cX3_having 3 (some .long), Cond.constantLong RX3 23 (4222189076152335), Cond.constantLong RX3 25 (1229782938247303441)]
def wsX1_workBackward : List Cond := .code yX1_workBackward cX1_workBackward 2 none :: ((wsX1_workBackward_r1 ++ wsX1_workBackward_r2) ++ wsX10 ++ wsX30)
def wsX3_keep : List Cond := .code yX3_keep cX3_keep 4 none :: ([.fieldLink RX3 11 "KnotBand$Standings" "words" "[J", .methodLink RX3 17 yX3_having, .static yX3_having, .initialized RX3, .code yX3_having cX3_having 3 (some .long), .constantLong RX3 21 (65535), .constantLong RX3 23 (4222189076152335), .constantLong RX3 25 (1229782938247303441), .constantLong RX3 15 (-1)] ++ wsX30)
def wsJ13_bitCount_95d88 : List Cond := .code yJ13_bitCount_95d88 cJ13_bitCount_95d88 2 (some .int) :: ([.constantLong RJ13 314 (6148914691236517205), .constantLong RJ13 316 (3689348814741910323), .constantLong RJ13 318 (1085102592571150095)])
def wsX3_countShared : List Cond := .code yX3_countShared cX3_countShared 4 (some .int) :: ([.fieldLink RX3 11 "KnotBand$Standings" "words" "[J", .methodLink RX3 49 yJ13_bitCount_95d88, .static yJ13_bitCount_95d88, .initialized RJ13, .code yJ13_bitCount_95d88 cJ13_bitCount_95d88 2 (some .int), .constantLong RJ13 314 (6148914691236517205), .constantLong RJ13 316 (3689348814741910323), .constantLong RJ13 318 (1085102592571150095)] ++ wsX30)
def wsX3_firstShared : List Cond := .code yX3_firstShared cX3_firstShared 6 (some .int) :: ([.fieldLink RX3 11 "KnotBand$Standings" "words" "[J"] ++ wsX30)
def wsX1_standingBehind : List Cond := .code yX1_standingBehind cX1_standingBehind 4 (some .int) :: ([.fieldLink RX1 15 "KnotBand$Loom" "lefts" "[I", .static yX4_bitOf, .initialized RX4, .code yX4_bitOf cX4_bitOf 1 (some .int), .static yX4_exchanged, .code yX4_exchanged cX4_exchanged 3 (some .int)] ++ wsX10)
def wsX3_has : List Cond := .code yX3_has cX3_has 2 (some .boolean) :: ([.fieldLink RX3 11 "KnotBand$Standings" "words" "[J"] ++ wsX30)
def wsX1_leastKind : List Cond := .code yX1_leastKind cX1_leastKind 6 (some .int) :: ([.fieldLink RX1 15 "KnotBand$Loom" "lefts" "[I", .fieldLink RX1 18 "KnotBand$Loom" "wished" "[I", .fieldLink RX1 27 "KnotBand$Loom" "ahead" "[LKnotBand$Standings;", .static yX4_showingPlace, .initialized RX4, .code yX4_showingPlace cX4_showingPlace 2 (some .int), .static yX4_colourIn, .code yX4_colourIn cX4_colourIn 2 (some .int), .methodLink RX4 154 yX4_bitOf, .static yX4_bitOf, .code yX4_bitOf cX4_bitOf 1 (some .int), .methodLink RX1 117 yX1_standingBehind, .instanceMethod yX1_standingBehind, .selects RX1 yX1_standingBehind yX1_standingBehind, .initialized RX1, .code yX1_standingBehind cX1_standingBehind 4 (some .int), .static yX4_exchanged, .code yX4_exchanged cX4_exchanged 3 (some .int), .methodLink RX1 126 yX3_has, .instanceMethod yX3_has, .selects RX3 yX3_has yX3_has, .initialized RX3, .code yX3_has cX3_has 2 (some .boolean), .fieldLink RX3 11 "KnotBand$Standings" "words" "[J"] ++ wsX10 ++ wsX30)
def wsX4_withKind : List Cond := .code yX4_withKind cX4_withKind 3 (some .int) :: ([])
def wsX1_chooseKinds_r1 : List Cond := [Cond.fieldLink RX1 21 "KnotBand$Loom" "knotCount" "I", Cond.fieldLink RX1 9 "KnotBand$Loom" "names" "[I", Cond.methodLink RX1 107 yX1_leastKind, Cond.instanceMethod yX1_leastKind, Cond.selects RX1 yX1_leastKind yX1_leastKind, Cond.initialized RX1, Cond.code yX1_leastKind cX1_leastKind 6 (some .int), Cond.fieldLink RX1 15 "KnotBand$Loom" "lefts" "[I", Cond.fieldLink RX1 18 "KnotBand$Loom" "wished" "[I", Cond.fieldLink RX1 27 "KnotBand$Loom" "ahead" "[LKnotBand$Standings;", Cond.static yX4_showingPlace, Cond.initialized RX4, Cond.code yX4_showingPlace cX4_showingPlace 2 (some .int), Cond.static yX4_colourIn, Cond.code yX4_colourIn cX4_colourIn 2 (some .int), Cond.methodLink RX4 154 yX4_bitOf, Cond.static yX4_bitOf, Cond.code yX4_bitOf cX4_bitOf 1 (some .int), Cond.methodLink RX1 117 yX1_standingBehind, Cond.instanceMethod yX1_standingBehind, Cond.selects RX1 yX1_standingBehind yX1_standingBehind, Cond.code yX1_standingBehind cX1_standingBehind 4 (some .int), Cond.static yX4_exchanged, Cond.code yX4_exchanged cX4_exchanged 3 (some .int)]
def wsX1_chooseKinds_r2 : List Cond := [Cond.methodLink RX1 126 yX3_has, Cond.instanceMethod yX3_has, Cond.selects RX3 yX3_has yX3_has, Cond.initialized RX3, Cond.code yX3_has cX3_has 2 (some .boolean), Cond.fieldLink RX3 11 "KnotBand$Standings" "words" "[J", Cond.static yX4_withKind, Cond.code yX4_withKind cX4_withKind 3 (some .int)]
def wsX1_chooseKinds : List Cond := .code yX1_chooseKinds cX1_chooseKinds 6 none :: ((wsX1_chooseKinds_r1 ++ wsX1_chooseKinds_r2) ++ wsX20 ++ wsX10 ++ wsX30)
def wsX1_findSuspects_r1 : List Cond := [Cond.fieldLink RX1 21 "KnotBand$Loom" "knotCount" "I", Cond.fieldLink RX1 32 "KnotBand$Loom" "now" "LKnotBand$Standings;", Cond.fieldLink RX1 15 "KnotBand$Loom" "lefts" "[I", Cond.fieldLink RX1 18 "KnotBand$Loom" "wished" "[I", Cond.fieldLink RX1 27 "KnotBand$Loom" "ahead" "[LKnotBand$Standings;", Cond.fieldLink RX1 9 "KnotBand$Loom" "names" "[I", Cond.methodLink RX1 100 yX3_spread, Cond.instanceMethod yX3_spread, Cond.selects RX3 yX3_spread yX3_spread, Cond.initialized RX3, Cond.code yX3_spread cX3_spread 3 none, Cond.fieldLink RX3 11 "KnotBand$Standings" "words" "[J", Cond.fieldLink RX3 31 "KnotBand$Standings" "PLACE_3_LESS" "[J", Cond.fieldLink RX3 38 "KnotBand$Standings" "PLACE_4_LESS" "[J", Cond.methodLink RX3 27 yX3_spreadAcross, Cond.instanceMethod yX3_spreadAcross, Cond.selects RX3 yX3_spreadAcross yX3_spreadAcross, Cond.code yX3_spreadAcross cX3_spreadAcross 7 none, Cond.constantLong RX3 21 (65535), Cond.methodLink RX3 34 yX3_spreadInside, Cond.instanceMethod yX3_spreadInside, Cond.selects RX3 yX3_spreadInside yX3_spreadInside, Cond.code yX3_spreadInside cX3_spreadInside 11 none, Cond.methodLink RX3 41 yX3_spreadBetween]
def wsX1_findSuspects_r2 : List Cond := [Cond.instanceMethod yX3_spreadBetween, Cond.selects RX3 yX3_spreadBetween yX3_spreadBetween, Cond.code yX3_spreadBetween cX3_spreadBetween 4 none, Cond.static yX4_exchanged, Cond.initialized RX4, Cond.code yX4_exchanged cX4_exchanged 3 (some .int), Cond.methodLink RX1 65 yX3_firstShared, Cond.instanceMethod yX3_firstShared, Cond.selects RX3 yX3_firstShared yX3_firstShared, Cond.code yX3_firstShared cX3_firstShared 6 (some .int), Cond.methodLink RX1 104 yX3_keepEither, Cond.instanceMethod yX3_keepEither, Cond.selects RX3 yX3_keepEither yX3_keepEither, Cond.code yX3_keepEither cX3_keepEither 4 none, Cond.methodLink RX3 17 yX3_having, Cond.static yX3_having, Cond.code yX3_having cX3_having 3 (some .long), Cond.constantLong RX3 23 (4222189076152335), Cond.constantLong RX3 25 (1229782938247303441), Cond.constantLong RX3 15 (-1)]
def wsX1_findSuspects : List Cond := .code yX1_findSuspects cX1_findSuspects 3 none :: ((wsX1_findSuspects_r1 ++ wsX1_findSuspects_r2) ++ wsX10 ++ wsX20 ++ wsX30)
def wsX1_workOut_r1 : List Cond := [Cond.fieldLink RX1 32 "KnotBand$Loom" "now" "LKnotBand$Standings;", Cond.fieldLink RX1 27 "KnotBand$Loom" "ahead" "[LKnotBand$Standings;", Cond.methodLink RX1 36 yX1_listKnots, Cond.instanceMethod yX1_listKnots, Cond.selects RX1 yX1_listKnots yX1_listKnots, Cond.initialized RX1, Cond.code yX1_listKnots cX1_listKnots 5 none, Cond.fieldLink RX1 21 "KnotBand$Loom" "knotCount" "I", Cond.fieldLink RX1 9 "KnotBand$Loom" "names" "[I", Cond.fieldLink RX1 15 "KnotBand$Loom" "lefts" "[I", Cond.fieldLink RX1 18 "KnotBand$Loom" "wished" "[I", Cond.static yX4_knotsIn, Cond.initialized RX4, Cond.code yX4_knotsIn cX4_knotsIn 2 (some .int), Cond.static yX4_leftPlaceOf, Cond.code yX4_leftPlaceOf cX4_leftPlaceOf 2 (some .int), Cond.static yX4_spotOf, Cond.code yX4_spotOf cX4_spotOf 2 (some .int), Cond.methodLink RX1 40 yX1_workBackward, Cond.instanceMethod yX1_workBackward, Cond.selects RX1 yX1_workBackward yX1_workBackward, Cond.code yX1_workBackward cX1_workBackward 2 none, Cond.methodLink RX1 43 yX3_fill, Cond.instanceMethod yX3_fill]
def wsX1_workOut_r2 : List Cond := [Cond.selects RX3 yX3_fill yX3_fill, Cond.initialized RX3, Cond.code yX3_fill cX3_fill 2 none, Cond.fieldLink RX3 11 "KnotBand$Standings" "words" "[J", Cond.constantLong RX3 15 (-1), Cond.methodLink RX1 100 yX3_spread, Cond.instanceMethod yX3_spread, Cond.selects RX3 yX3_spread yX3_spread, Cond.code yX3_spread cX3_spread 3 none, Cond.fieldLink RX3 31 "KnotBand$Standings" "PLACE_3_LESS" "[J", Cond.fieldLink RX3 38 "KnotBand$Standings" "PLACE_4_LESS" "[J", Cond.methodLink RX3 27 yX3_spreadAcross, Cond.instanceMethod yX3_spreadAcross, Cond.selects RX3 yX3_spreadAcross yX3_spreadAcross, Cond.code yX3_spreadAcross cX3_spreadAcross 7 none, Cond.constantLong RX3 21 (65535), Cond.methodLink RX3 34 yX3_spreadInside, Cond.instanceMethod yX3_spreadInside, Cond.selects RX3 yX3_spreadInside yX3_spreadInside, Cond.code yX3_spreadInside cX3_spreadInside 11 none, Cond.methodLink RX3 41 yX3_spreadBetween, Cond.instanceMethod yX3_spreadBetween, Cond.selects RX3 yX3_spreadBetween yX3_spreadBetween, Cond.code yX3_spreadBetween cX3_spreadBetween 4 none]
def wsX1_workOut_r3 : List Cond := [Cond.static yX4_exchanged, Cond.code yX4_exchanged cX4_exchanged 3 (some .int), Cond.methodLink RX1 104 yX3_keepEither, Cond.instanceMethod yX3_keepEither, Cond.selects RX3 yX3_keepEither yX3_keepEither, Cond.code yX3_keepEither cX3_keepEither 4 none, Cond.methodLink RX3 17 yX3_having, Cond.static yX3_having, Cond.code yX3_having cX3_having 3 (some .long), Cond.constantLong RX3 23 (4222189076152335), Cond.constantLong RX3 25 (1229782938247303441), Cond.methodLink RX1 51 yX3_keep, Cond.instanceMethod yX3_keep, Cond.selects RX3 yX3_keep yX3_keep, Cond.code yX3_keep cX3_keep 4 none, Cond.methodLink RX1 58 yX3_countShared, Cond.instanceMethod yX3_countShared, Cond.selects RX3 yX3_countShared yX3_countShared, Cond.code yX3_countShared cX3_countShared 4 (some .int), Cond.methodLink RX3 49 yJ13_bitCount_95d88, Cond.static yJ13_bitCount_95d88, Cond.initialized RJ13, Cond.code yJ13_bitCount_95d88 cJ13_bitCount_95d88 2 (some .int), Cond.constantLong RJ13 314 (6148914691236517205)]
def wsX1_workOut_r4 : List Cond := [Cond.constantLong RJ13 316 (3689348814741910323), Cond.constantLong RJ13 318 (1085102592571150095), Cond.methodLink RX1 65 yX3_firstShared, Cond.instanceMethod yX3_firstShared, Cond.selects RX3 yX3_firstShared yX3_firstShared, Cond.code yX3_firstShared cX3_firstShared 6 (some .int), Cond.methodLink RX1 71 yX1_chooseKinds, Cond.instanceMethod yX1_chooseKinds, Cond.selects RX1 yX1_chooseKinds yX1_chooseKinds, Cond.code yX1_chooseKinds cX1_chooseKinds 6 none, Cond.methodLink RX1 107 yX1_leastKind, Cond.instanceMethod yX1_leastKind, Cond.selects RX1 yX1_leastKind yX1_leastKind, Cond.code yX1_leastKind cX1_leastKind 6 (some .int), Cond.static yX4_showingPlace, Cond.code yX4_showingPlace cX4_showingPlace 2 (some .int), Cond.static yX4_colourIn, Cond.code yX4_colourIn cX4_colourIn 2 (some .int), Cond.methodLink RX4 154 yX4_bitOf, Cond.static yX4_bitOf, Cond.code yX4_bitOf cX4_bitOf 1 (some .int), Cond.methodLink RX1 117 yX1_standingBehind, Cond.instanceMethod yX1_standingBehind, Cond.selects RX1 yX1_standingBehind yX1_standingBehind]
def wsX1_workOut_r5 : List Cond := [Cond.code yX1_standingBehind cX1_standingBehind 4 (some .int), Cond.methodLink RX1 126 yX3_has, Cond.instanceMethod yX3_has, Cond.selects RX3 yX3_has yX3_has, Cond.code yX3_has cX3_has 2 (some .boolean), Cond.static yX4_withKind, Cond.code yX4_withKind cX4_withKind 3 (some .int), Cond.methodLink RX1 74 yX1_findSuspects, Cond.instanceMethod yX1_findSuspects, Cond.selects RX1 yX1_findSuspects yX1_findSuspects, Cond.code yX1_findSuspects cX1_findSuspects 3 none]
def wsX1_workOut : List Cond := .code yX1_workOut cX1_workOut 3 none :: ((wsX1_workOut_r1 ++ (wsX1_workOut_r2 ++ (wsX1_workOut_r3 ++ (wsX1_workOut_r4 ++ wsX1_workOut_r5)))) ++ wsX10 ++ wsX20 ++ wsX30)
def wsX2_init : List Cond := .code yX2_init cX2_init 1 none :: ([.methodLink RX2 3 objectInit, .instanceMethod objectInit, .code objectInit ⟨#[0xb1]⟩ 1 none, .arrayClass .int, .fieldLink RX2 9 "KnotBand$Picture" "told" "[I", .fieldLink RX2 15 "KnotBand$Picture" "toldAtFirst" "[I", .fieldLink RX2 18 "KnotBand$Picture" "threads" "I", .fieldLink RX2 22 "KnotBand$Picture" "rows" "I", .fieldLink RX2 25 "KnotBand$Picture" "workedOut" "Z", .fieldLink RX2 29 "KnotBand$Picture" "startCount" "I", .fieldLink RX2 32 "KnotBand$Picture" "firstStart" "I", .fieldLink RX2 35 "KnotBand$Picture" "kinds" "[I", .fieldLink RX2 38 "KnotBand$Picture" "suspects" "[I", .fieldLink RX2 41 "KnotBand$Picture" "suspectCount" "I"] ++ wsX20)
def wsX2_begin : List Cond := .code yX2_begin cX2_begin 4 none :: ([.fieldLink RX2 18 "KnotBand$Picture" "threads" "I", .fieldLink RX2 22 "KnotBand$Picture" "rows" "I", .fieldLink RX2 9 "KnotBand$Picture" "told" "[I", .fieldLink RX2 15 "KnotBand$Picture" "toldAtFirst" "[I"] ++ wsX20)
def wsX4_init_r1 : List Cond := [Cond.methodLink RX4 3 objectInit, Cond.instanceMethod objectInit, Cond.code objectInit ⟨#[0xb1]⟩ 1 none, Cond.classLink RX4 9 RX0, Cond.fieldLink RX4 11 "KnotBand" "bands" "[LKnotBand$Band;", Cond.classLink RX4 15 RX2, Cond.fieldLink RX4 17 "KnotBand" "pictures" "[LKnotBand$Picture;", Cond.classLink RX4 21 RX1, Cond.instantiable RX1 6, Cond.initialized RX1, Cond.fieldLink RX4 24 "KnotBand" "loom" "LKnotBand$Loom;", Cond.fieldLink RX4 28 "KnotBand" "bandCount" "I", Cond.fieldLink RX4 32 "KnotBand" "pictureCount" "I", Cond.instantiable RX0 8, Cond.initialized RX0, Cond.instantiable RX2 10, Cond.initialized RX2, Cond.methodLink RX4 23 yX1_init, Cond.instanceMethod yX1_init, Cond.code yX1_init cX1_init 2 none, Cond.methodLink RX1 3 objectInit, Cond.arrayClass .int, Cond.fieldLink RX1 9 "KnotBand$Loom" "names" "[I", Cond.fieldLink RX1 15 "KnotBand$Loom" "lefts" "[I"]
def wsX4_init_r2 : List Cond := [Cond.fieldLink RX1 18 "KnotBand$Loom" "wished" "[I", Cond.fieldLink RX1 21 "KnotBand$Loom" "knotCount" "I", Cond.classLink RX1 25 RX3, Cond.fieldLink RX1 27 "KnotBand$Loom" "ahead" "[LKnotBand$Standings;", Cond.instantiable RX3 1, Cond.initialized RX3, Cond.fieldLink RX1 32 "KnotBand$Loom" "now" "LKnotBand$Standings;", Cond.instanceMethod yX3_init, Cond.code yX3_init cX3_init 1 none, Cond.methodLink RX3 5 objectInit, Cond.arrayClass .long, Cond.fieldLink RX3 11 "KnotBand$Standings" "words" "[J", Cond.instanceMethod yX0_init, Cond.code yX0_init cX0_init 1 none, Cond.methodLink RX0 3 objectInit, Cond.fieldLink RX0 9 "KnotBand$Band" "colours" "[I", Cond.fieldLink RX0 15 "KnotBand$Band" "kinds" "[I", Cond.fieldLink RX0 18 "KnotBand$Band" "threads" "I", Cond.fieldLink RX0 22 "KnotBand$Band" "rows" "I", Cond.fieldLink RX0 25 "KnotBand$Band" "standing" "[I", Cond.fieldLink RX0 28 "KnotBand$Band" "spent" "[I", Cond.fieldLink RX0 31 "KnotBand$Band" "shown" "[I", Cond.fieldLink RX0 34 "KnotBand$Band" "repeated" "[I", Cond.instanceMethod yX2_init]
def wsX4_init_r3 : List Cond := [Cond.code yX2_init cX2_init 1 none, Cond.methodLink RX2 3 objectInit, Cond.fieldLink RX2 9 "KnotBand$Picture" "told" "[I", Cond.fieldLink RX2 15 "KnotBand$Picture" "toldAtFirst" "[I", Cond.fieldLink RX2 18 "KnotBand$Picture" "threads" "I", Cond.fieldLink RX2 22 "KnotBand$Picture" "rows" "I", Cond.fieldLink RX2 25 "KnotBand$Picture" "workedOut" "Z", Cond.fieldLink RX2 29 "KnotBand$Picture" "startCount" "I", Cond.fieldLink RX2 32 "KnotBand$Picture" "firstStart" "I", Cond.fieldLink RX2 35 "KnotBand$Picture" "kinds" "[I", Cond.fieldLink RX2 38 "KnotBand$Picture" "suspects" "[I", Cond.fieldLink RX2 41 "KnotBand$Picture" "suspectCount" "I"]
def wsX4_init : List Cond := .code yX4_init cX4_init 2 none :: ((wsX4_init_r1 ++ (wsX4_init_r2 ++ wsX4_init_r3)) ++ wsX40 ++ wsX10 ++ wsX00 ++ wsX20 ++ wsX30)
def wsX4_mayBeThreads : List Cond := .code yX4_mayBeThreads cX4_mayBeThreads 1 (some .boolean) :: ([])
def wsX4_band : List Cond := .code yX4_band cX4_band 2 (some .int) :: ([.fieldLink RX4 28 "KnotBand" "bandCount" "I", .fieldLink RX4 11 "KnotBand" "bands" "[LKnotBand$Band;", .methodLink RX4 37 yX4_mayBeThreads, .static yX4_mayBeThreads, .initialized RX4, .code yX4_mayBeThreads cX4_mayBeThreads 1 (some .boolean)] ++ wsX40 ++ wsX00)
def wsX4_needElement : List Cond := .code yX4_needElement cX4_needElement 2 none :: ([.classLink RX4 147 "java/util/NoSuchElementException", .initialized "java/util/NoSuchElementException"] ++ (vx_atN RX4 151).filter goodWord)
def wsX4_bandAt : List Cond := .code yX4_bandAt cX4_bandAt 2 (some (.object "KnotBand$Band")) :: ([.fieldLink RX4 28 "KnotBand" "bandCount" "I", .fieldLink RX4 11 "KnotBand" "bands" "[LKnotBand$Band;", .methodLink RX4 48 yX4_needElement, .static yX4_needElement, .initialized RX4, .code yX4_needElement cX4_needElement 2 none, .classLink RX4 147 "java/util/NoSuchElementException", .initialized "java/util/NoSuchElementException"] ++ wsX40 ++ (vx_atN RX4 151).filter goodWord)
def wsX4_needArgument : List Cond := .code yX4_needArgument cX4_needArgument 2 none :: ([.classLink RX4 96 "java/lang/IllegalArgumentException", .initialized "java/lang/IllegalArgumentException"] ++ (vx_atS RX4 100 "java/lang/IllegalArgumentException" ["java/lang/RuntimeException", "java/lang/Exception"]).filter goodWord)
def wsX4_colour : List Cond := .code yX4_colour cX4_colour 6 (some .int) :: ([.methodLink RX4 44 yX4_bandAt, .instanceMethod yX4_bandAt, .selects RX4 yX4_bandAt yX4_bandAt, .initialized RX4, .code yX4_bandAt cX4_bandAt 2 (some (.object "KnotBand$Band")), .fieldLink RX4 28 "KnotBand" "bandCount" "I", .fieldLink RX4 11 "KnotBand" "bands" "[LKnotBand$Band;", .methodLink RX4 48 yX4_needElement, .static yX4_needElement, .code yX4_needElement cX4_needElement 2 none, .classLink RX4 147 "java/util/NoSuchElementException", .initialized "java/util/NoSuchElementException", .methodLink RX4 52 yX4_needArgument, .static yX4_needArgument, .code yX4_needArgument cX4_needArgument 2 none, .classLink RX4 96 "java/lang/IllegalArgumentException", .initialized "java/lang/IllegalArgumentException"] ++ wsX00 ++ wsX40 ++ (vx_atN RX4 151).filter goodWord ++ (vx_atS RX4 100 "java/lang/IllegalArgumentException" ["java/lang/RuntimeException", "java/lang/Exception"]).filter goodWord)
def wsX4_row : List Cond := .code yX4_row cX4_row 4 (some .int) :: ([.methodLink RX4 44 yX4_bandAt, .instanceMethod yX4_bandAt, .selects RX4 yX4_bandAt yX4_bandAt, .initialized RX4, .code yX4_bandAt cX4_bandAt 2 (some (.object "KnotBand$Band")), .fieldLink RX4 28 "KnotBand" "bandCount" "I", .fieldLink RX4 11 "KnotBand" "bands" "[LKnotBand$Band;", .methodLink RX4 48 yX4_needElement, .static yX4_needElement, .code yX4_needElement cX4_needElement 2 none, .classLink RX4 147 "java/util/NoSuchElementException", .initialized "java/util/NoSuchElementException"] ++ wsX00 ++ wsX40 ++ (vx_atN RX4 151).filter goodWord)
def wsX4_knot_r1 : List Cond := [Cond.methodLink RX4 44 yX4_bandAt, Cond.instanceMethod yX4_bandAt, Cond.selects RX4 yX4_bandAt yX4_bandAt, Cond.initialized RX4, Cond.code yX4_bandAt cX4_bandAt 2 (some (.object "KnotBand$Band")), Cond.fieldLink RX4 28 "KnotBand" "bandCount" "I", Cond.fieldLink RX4 11 "KnotBand" "bands" "[LKnotBand$Band;", Cond.methodLink RX4 48 yX4_needElement, Cond.static yX4_needElement, Cond.code yX4_needElement cX4_needElement 2 none, Cond.classLink RX4 147 "java/util/NoSuchElementException", Cond.initialized "java/util/NoSuchElementException", Cond.methodLink RX4 65 yX4_knotsIn, Cond.static yX4_knotsIn, Cond.code yX4_knotsIn cX4_knotsIn 2 (some .int), Cond.methodLink RX4 69 yX4_kindIn, Cond.static yX4_kindIn, Cond.code yX4_kindIn cX4_kindIn 2 (some .int), Cond.methodLink RX4 52 yX4_needArgument, Cond.static yX4_needArgument, Cond.code yX4_needArgument cX4_needArgument 2 none, Cond.classLink RX4 96 "java/lang/IllegalArgumentException", Cond.initialized "java/lang/IllegalArgumentException", Cond.methodLink RX4 72 yX4_withKind]
def wsX4_knot_r2 : List Cond := [Cond.static yX4_withKind, Cond.code yX4_withKind cX4_withKind 3 (some .int)]
def wsX4_knot : List Cond := .code yX4_knot cX4_knot 7 (some .int) :: ((wsX4_knot_r1 ++ wsX4_knot_r2) ++ wsX00 ++ wsX40 ++ (vx_atN RX4 151).filter goodWord ++ (vx_atS RX4 100 "java/lang/IllegalArgumentException" ["java/lang/RuntimeException", "java/lang/Exception"]).filter goodWord)
def wsX4_shows_r1 : List Cond := [Cond.methodLink RX4 44 yX4_bandAt, Cond.instanceMethod yX4_bandAt, Cond.selects RX4 yX4_bandAt yX4_bandAt, Cond.initialized RX4, Cond.code yX4_bandAt cX4_bandAt 2 (some (.object "KnotBand$Band")), Cond.fieldLink RX4 28 "KnotBand" "bandCount" "I", Cond.fieldLink RX4 11 "KnotBand" "bands" "[LKnotBand$Band;", Cond.methodLink RX4 48 yX4_needElement, Cond.static yX4_needElement, Cond.code yX4_needElement cX4_needElement 2 none, Cond.classLink RX4 147 "java/util/NoSuchElementException", Cond.initialized "java/util/NoSuchElementException", Cond.methodLink RX4 65 yX4_knotsIn, Cond.static yX4_knotsIn, Cond.code yX4_knotsIn cX4_knotsIn 2 (some .int), Cond.methodLink RX4 76 yX0_walk, Cond.instanceMethod yX0_walk, Cond.selects RX0 yX0_walk yX0_walk, Cond.initialized RX0, Cond.code yX0_walk cX0_walk 5 none, Cond.fieldLink RX0 18 "KnotBand$Band" "threads" "I", Cond.fieldLink RX0 25 "KnotBand$Band" "standing" "[I", Cond.fieldLink RX0 28 "KnotBand$Band" "spent" "[I", Cond.methodLink RX0 52 yX0_walkKnot]
def wsX4_shows_r2 : List Cond := [Cond.instanceMethod yX0_walkKnot, Cond.selects RX0 yX0_walkKnot yX0_walkKnot, Cond.code yX0_walkKnot cX0_walkKnot 9 none, Cond.fieldLink RX0 15 "KnotBand$Band" "kinds" "[I", Cond.fieldLink RX0 31 "KnotBand$Band" "shown" "[I", Cond.fieldLink RX0 9 "KnotBand$Band" "colours" "[I", Cond.static yX4_leftPlaceOf, Cond.code yX4_leftPlaceOf cX4_leftPlaceOf 2 (some .int), Cond.static yX4_kindIn, Cond.code yX4_kindIn cX4_kindIn 2 (some .int), Cond.static yX4_showingPlace, Cond.code yX4_showingPlace cX4_showingPlace 2 (some .int), Cond.static yX4_spotOf, Cond.code yX4_spotOf cX4_spotOf 2 (some .int), Cond.methodLink RX4 83 yX4_spotOf]
def wsX4_shows : List Cond := .code yX4_shows cX4_shows 5 (some .int) :: ((wsX4_shows_r1 ++ wsX4_shows_r2) ++ wsX00 ++ wsX40 ++ (vx_atN RX4 151).filter goodWord)
def wsX4_thread_r1 : List Cond := [Cond.methodLink RX4 44 yX4_bandAt, Cond.instanceMethod yX4_bandAt, Cond.selects RX4 yX4_bandAt yX4_bandAt, Cond.initialized RX4, Cond.code yX4_bandAt cX4_bandAt 2 (some (.object "KnotBand$Band")), Cond.fieldLink RX4 28 "KnotBand" "bandCount" "I", Cond.fieldLink RX4 11 "KnotBand" "bands" "[LKnotBand$Band;", Cond.methodLink RX4 48 yX4_needElement, Cond.static yX4_needElement, Cond.code yX4_needElement cX4_needElement 2 none, Cond.classLink RX4 147 "java/util/NoSuchElementException", Cond.initialized "java/util/NoSuchElementException", Cond.methodLink RX4 76 yX0_walk, Cond.instanceMethod yX0_walk, Cond.selects RX0 yX0_walk yX0_walk, Cond.initialized RX0, Cond.code yX0_walk cX0_walk 5 none, Cond.fieldLink RX0 18 "KnotBand$Band" "threads" "I", Cond.fieldLink RX0 25 "KnotBand$Band" "standing" "[I", Cond.fieldLink RX0 28 "KnotBand$Band" "spent" "[I", Cond.static yX4_knotsIn, Cond.code yX4_knotsIn cX4_knotsIn 2 (some .int), Cond.methodLink RX0 52 yX0_walkKnot, Cond.instanceMethod yX0_walkKnot]
def wsX4_thread_r2 : List Cond := [Cond.selects RX0 yX0_walkKnot yX0_walkKnot, Cond.code yX0_walkKnot cX0_walkKnot 9 none, Cond.fieldLink RX0 15 "KnotBand$Band" "kinds" "[I", Cond.fieldLink RX0 31 "KnotBand$Band" "shown" "[I", Cond.fieldLink RX0 9 "KnotBand$Band" "colours" "[I", Cond.static yX4_leftPlaceOf, Cond.code yX4_leftPlaceOf cX4_leftPlaceOf 2 (some .int), Cond.static yX4_kindIn, Cond.code yX4_kindIn cX4_kindIn 2 (some .int), Cond.static yX4_showingPlace, Cond.code yX4_showingPlace cX4_showingPlace 2 (some .int), Cond.static yX4_spotOf, Cond.code yX4_spotOf cX4_spotOf 2 (some .int)]
def wsX4_thread : List Cond := .code yX4_thread cX4_thread 5 (some .int) :: ((wsX4_thread_r1 ++ wsX4_thread_r2) ++ wsX00 ++ wsX40 ++ (vx_atN RX4 151).filter goodWord)
def wsX4_used_r1 : List Cond := [Cond.methodLink RX4 44 yX4_bandAt, Cond.instanceMethod yX4_bandAt, Cond.selects RX4 yX4_bandAt yX4_bandAt, Cond.initialized RX4, Cond.code yX4_bandAt cX4_bandAt 2 (some (.object "KnotBand$Band")), Cond.fieldLink RX4 28 "KnotBand" "bandCount" "I", Cond.fieldLink RX4 11 "KnotBand" "bands" "[LKnotBand$Band;", Cond.methodLink RX4 48 yX4_needElement, Cond.static yX4_needElement, Cond.code yX4_needElement cX4_needElement 2 none, Cond.classLink RX4 147 "java/util/NoSuchElementException", Cond.initialized "java/util/NoSuchElementException", Cond.methodLink RX4 76 yX0_walk, Cond.instanceMethod yX0_walk, Cond.selects RX0 yX0_walk yX0_walk, Cond.initialized RX0, Cond.code yX0_walk cX0_walk 5 none, Cond.fieldLink RX0 18 "KnotBand$Band" "threads" "I", Cond.fieldLink RX0 25 "KnotBand$Band" "standing" "[I", Cond.fieldLink RX0 28 "KnotBand$Band" "spent" "[I", Cond.static yX4_knotsIn, Cond.code yX4_knotsIn cX4_knotsIn 2 (some .int), Cond.methodLink RX0 52 yX0_walkKnot, Cond.instanceMethod yX0_walkKnot]
def wsX4_used_r2 : List Cond := [Cond.selects RX0 yX0_walkKnot yX0_walkKnot, Cond.code yX0_walkKnot cX0_walkKnot 9 none, Cond.fieldLink RX0 15 "KnotBand$Band" "kinds" "[I", Cond.fieldLink RX0 31 "KnotBand$Band" "shown" "[I", Cond.fieldLink RX0 9 "KnotBand$Band" "colours" "[I", Cond.static yX4_leftPlaceOf, Cond.code yX4_leftPlaceOf cX4_leftPlaceOf 2 (some .int), Cond.static yX4_kindIn, Cond.code yX4_kindIn cX4_kindIn 2 (some .int), Cond.static yX4_showingPlace, Cond.code yX4_showingPlace cX4_showingPlace 2 (some .int), Cond.static yX4_spotOf, Cond.code yX4_spotOf cX4_spotOf 2 (some .int)]
def wsX4_used : List Cond := .code yX4_used cX4_used 4 (some .int) :: ((wsX4_used_r1 ++ wsX4_used_r2) ++ wsX00 ++ wsX40 ++ (vx_atN RX4 151).filter goodWord)
def wsX4_home_r1 : List Cond := [Cond.methodLink RX4 44 yX4_bandAt, Cond.instanceMethod yX4_bandAt, Cond.selects RX4 yX4_bandAt yX4_bandAt, Cond.initialized RX4, Cond.code yX4_bandAt cX4_bandAt 2 (some (.object "KnotBand$Band")), Cond.fieldLink RX4 28 "KnotBand" "bandCount" "I", Cond.fieldLink RX4 11 "KnotBand" "bands" "[LKnotBand$Band;", Cond.methodLink RX4 48 yX4_needElement, Cond.static yX4_needElement, Cond.code yX4_needElement cX4_needElement 2 none, Cond.classLink RX4 147 "java/util/NoSuchElementException", Cond.initialized "java/util/NoSuchElementException", Cond.methodLink RX4 92 yX0_timesToHome, Cond.instanceMethod yX0_timesToHome, Cond.selects RX0 yX0_timesToHome yX0_timesToHome, Cond.initialized RX0, Cond.code yX0_timesToHome cX0_timesToHome 4 (some .int), Cond.fieldLink RX0 22 "KnotBand$Band" "rows" "I", Cond.fieldLink RX0 18 "KnotBand$Band" "threads" "I", Cond.fieldLink RX0 34 "KnotBand$Band" "repeated" "[I", Cond.fieldLink RX0 25 "KnotBand$Band" "standing" "[I", Cond.methodLink RX0 68 yX0_walk, Cond.instanceMethod yX0_walk, Cond.selects RX0 yX0_walk yX0_walk]
def wsX4_home_r2 : List Cond := [Cond.code yX0_walk cX0_walk 5 none, Cond.fieldLink RX0 28 "KnotBand$Band" "spent" "[I", Cond.static yX4_knotsIn, Cond.code yX4_knotsIn cX4_knotsIn 2 (some .int), Cond.methodLink RX0 52 yX0_walkKnot, Cond.instanceMethod yX0_walkKnot, Cond.selects RX0 yX0_walkKnot yX0_walkKnot, Cond.code yX0_walkKnot cX0_walkKnot 9 none, Cond.fieldLink RX0 15 "KnotBand$Band" "kinds" "[I", Cond.fieldLink RX0 31 "KnotBand$Band" "shown" "[I", Cond.fieldLink RX0 9 "KnotBand$Band" "colours" "[I", Cond.static yX4_leftPlaceOf, Cond.code yX4_leftPlaceOf cX4_leftPlaceOf 2 (some .int), Cond.static yX4_kindIn, Cond.code yX4_kindIn cX4_kindIn 2 (some .int), Cond.static yX4_showingPlace, Cond.code yX4_showingPlace cX4_showingPlace 2 (some .int), Cond.static yX4_spotOf, Cond.code yX4_spotOf cX4_spotOf 2 (some .int), Cond.methodLink RX0 72 yX0_isHome, Cond.instanceMethod yX0_isHome, Cond.selects RX0 yX0_isHome yX0_isHome, Cond.code yX0_isHome cX0_isHome 5 (some .boolean)]
def wsX4_home : List Cond := .code yX4_home cX4_home 4 (some .int) :: ((wsX4_home_r1 ++ wsX4_home_r2) ++ wsX00 ++ wsX40 ++ (vx_atN RX4 151).filter goodWord)
def wsX4_unlike_r1 : List Cond := [Cond.classLink RX4 96 "java/lang/IllegalArgumentException", Cond.initialized "java/lang/IllegalArgumentException", Cond.methodLink RX4 44 yX4_bandAt, Cond.instanceMethod yX4_bandAt, Cond.selects RX4 yX4_bandAt yX4_bandAt, Cond.initialized RX4, Cond.code yX4_bandAt cX4_bandAt 2 (some (.object "KnotBand$Band")), Cond.fieldLink RX4 28 "KnotBand" "bandCount" "I", Cond.fieldLink RX4 11 "KnotBand" "bands" "[LKnotBand$Band;", Cond.methodLink RX4 48 yX4_needElement, Cond.static yX4_needElement, Cond.code yX4_needElement cX4_needElement 2 none, Cond.classLink RX4 147 "java/util/NoSuchElementException", Cond.initialized "java/util/NoSuchElementException", Cond.methodLink RX4 76 yX0_walk, Cond.instanceMethod yX0_walk, Cond.selects RX0 yX0_walk yX0_walk, Cond.initialized RX0, Cond.code yX0_walk cX0_walk 5 none, Cond.fieldLink RX0 18 "KnotBand$Band" "threads" "I", Cond.fieldLink RX0 25 "KnotBand$Band" "standing" "[I", Cond.fieldLink RX0 28 "KnotBand$Band" "spent" "[I", Cond.static yX4_knotsIn, Cond.code yX4_knotsIn cX4_knotsIn 2 (some .int)]
def wsX4_unlike_r2 : List Cond := [Cond.methodLink RX0 52 yX0_walkKnot, Cond.instanceMethod yX0_walkKnot, Cond.selects RX0 yX0_walkKnot yX0_walkKnot, Cond.code yX0_walkKnot cX0_walkKnot 9 none, Cond.fieldLink RX0 15 "KnotBand$Band" "kinds" "[I", Cond.fieldLink RX0 31 "KnotBand$Band" "shown" "[I", Cond.fieldLink RX0 9 "KnotBand$Band" "colours" "[I", Cond.static yX4_leftPlaceOf, Cond.code yX4_leftPlaceOf cX4_leftPlaceOf 2 (some .int), Cond.static yX4_kindIn, Cond.code yX4_kindIn cX4_kindIn 2 (some .int), Cond.static yX4_showingPlace, Cond.code yX4_showingPlace cX4_showingPlace 2 (some .int), Cond.static yX4_spotOf, Cond.code yX4_spotOf cX4_spotOf 2 (some .int), Cond.methodLink RX4 65 yX4_knotsIn, Cond.methodLink RX4 83 yX4_spotOf]
def wsX4_unlike : List Cond := .code yX4_unlike cX4_unlike 10 (some .int) :: ((wsX4_unlike_r1 ++ wsX4_unlike_r2) ++ wsX00 ++ wsX40 ++ (vx_atS RX4 100 "java/lang/IllegalArgumentException" ["java/lang/RuntimeException", "java/lang/Exception"]).filter goodWord ++ (vx_atN RX4 151).filter goodWord)
def wsX4_picture : List Cond := .code yX4_picture cX4_picture 3 (some .int) :: ([.fieldLink RX4 32 "KnotBand" "pictureCount" "I", .fieldLink RX4 17 "KnotBand" "pictures" "[LKnotBand$Picture;", .methodLink RX4 37 yX4_mayBeThreads, .static yX4_mayBeThreads, .initialized RX4, .code yX4_mayBeThreads cX4_mayBeThreads 1 (some .boolean), .methodLink RX4 103 yX2_begin, .instanceMethod yX2_begin, .selects RX2 yX2_begin yX2_begin, .initialized RX2, .code yX2_begin cX2_begin 4 none, .fieldLink RX2 18 "KnotBand$Picture" "threads" "I", .fieldLink RX2 22 "KnotBand$Picture" "rows" "I", .fieldLink RX2 9 "KnotBand$Picture" "told" "[I", .fieldLink RX2 15 "KnotBand$Picture" "toldAtFirst" "[I"] ++ wsX40 ++ wsX20)
def wsX4_pictureAt : List Cond := .code yX4_pictureAt cX4_pictureAt 2 (some (.object "KnotBand$Picture")) :: ([.fieldLink RX4 32 "KnotBand" "pictureCount" "I", .fieldLink RX4 17 "KnotBand" "pictures" "[LKnotBand$Picture;", .methodLink RX4 48 yX4_needElement, .static yX4_needElement, .initialized RX4, .code yX4_needElement cX4_needElement 2 none, .classLink RX4 147 "java/util/NoSuchElementException", .initialized "java/util/NoSuchElementException"] ++ wsX40 ++ (vx_atN RX4 151).filter goodWord)
def wsX4_see : List Cond := .code yX4_see cX4_see 8 (some .int) :: ([.methodLink RX4 106 yX4_pictureAt, .instanceMethod yX4_pictureAt, .selects RX4 yX4_pictureAt yX4_pictureAt, .initialized RX4, .code yX4_pictureAt cX4_pictureAt 2 (some (.object "KnotBand$Picture")), .fieldLink RX4 32 "KnotBand" "pictureCount" "I", .fieldLink RX4 17 "KnotBand" "pictures" "[LKnotBand$Picture;", .methodLink RX4 48 yX4_needElement, .static yX4_needElement, .code yX4_needElement cX4_needElement 2 none, .classLink RX4 147 "java/util/NoSuchElementException", .initialized "java/util/NoSuchElementException", .methodLink RX4 65 yX4_knotsIn, .static yX4_knotsIn, .code yX4_knotsIn cX4_knotsIn 2 (some .int), .methodLink RX4 52 yX4_needArgument, .static yX4_needArgument, .code yX4_needArgument cX4_needArgument 2 none, .classLink RX4 96 "java/lang/IllegalArgumentException", .initialized "java/lang/IllegalArgumentException", .methodLink RX4 83 yX4_spotOf, .static yX4_spotOf, .code yX4_spotOf cX4_spotOf 2 (some .int)] ++ wsX20 ++ wsX40 ++ (vx_atN RX4 151).filter goodWord ++ (vx_atS RX4 100 "java/lang/IllegalArgumentException" ["java/lang/RuntimeException", "java/lang/Exception"]).filter goodWord)
def wsX4_must : List Cond := .code yX4_must cX4_must 6 (some .int) :: ([.methodLink RX4 106 yX4_pictureAt, .instanceMethod yX4_pictureAt, .selects RX4 yX4_pictureAt yX4_pictureAt, .initialized RX4, .code yX4_pictureAt cX4_pictureAt 2 (some (.object "KnotBand$Picture")), .fieldLink RX4 32 "KnotBand" "pictureCount" "I", .fieldLink RX4 17 "KnotBand" "pictures" "[LKnotBand$Picture;", .methodLink RX4 48 yX4_needElement, .static yX4_needElement, .code yX4_needElement cX4_needElement 2 none, .classLink RX4 147 "java/util/NoSuchElementException", .initialized "java/util/NoSuchElementException", .methodLink RX4 52 yX4_needArgument, .static yX4_needArgument, .code yX4_needArgument cX4_needArgument 2 none, .classLink RX4 96 "java/lang/IllegalArgumentException", .initialized "java/lang/IllegalArgumentException"] ++ wsX20 ++ wsX40 ++ (vx_atN RX4 151).filter goodWord ++ (vx_atS RX4 100 "java/lang/IllegalArgumentException" ["java/lang/RuntimeException", "java/lang/Exception"]).filter goodWord)
def wsX4_copy_r1 : List Cond := [Cond.methodLink RX4 106 yX4_pictureAt, Cond.instanceMethod yX4_pictureAt, Cond.selects RX4 yX4_pictureAt yX4_pictureAt, Cond.initialized RX4, Cond.code yX4_pictureAt cX4_pictureAt 2 (some (.object "KnotBand$Picture")), Cond.fieldLink RX4 32 "KnotBand" "pictureCount" "I", Cond.fieldLink RX4 17 "KnotBand" "pictures" "[LKnotBand$Picture;", Cond.methodLink RX4 48 yX4_needElement, Cond.static yX4_needElement, Cond.code yX4_needElement cX4_needElement 2 none, Cond.classLink RX4 147 "java/util/NoSuchElementException", Cond.initialized "java/util/NoSuchElementException", Cond.methodLink RX4 44 yX4_bandAt, Cond.instanceMethod yX4_bandAt, Cond.selects RX4 yX4_bandAt yX4_bandAt, Cond.code yX4_bandAt cX4_bandAt 2 (some (.object "KnotBand$Band")), Cond.fieldLink RX4 28 "KnotBand" "bandCount" "I", Cond.fieldLink RX4 11 "KnotBand" "bands" "[LKnotBand$Band;", Cond.methodLink RX4 76 yX0_walk, Cond.instanceMethod yX0_walk, Cond.selects RX0 yX0_walk yX0_walk, Cond.initialized RX0, Cond.code yX0_walk cX0_walk 5 none, Cond.fieldLink RX0 18 "KnotBand$Band" "threads" "I"]
def wsX4_copy_r2 : List Cond := [Cond.fieldLink RX0 25 "KnotBand$Band" "standing" "[I", Cond.fieldLink RX0 28 "KnotBand$Band" "spent" "[I", Cond.static yX4_knotsIn, Cond.code yX4_knotsIn cX4_knotsIn 2 (some .int), Cond.methodLink RX0 52 yX0_walkKnot, Cond.instanceMethod yX0_walkKnot, Cond.selects RX0 yX0_walkKnot yX0_walkKnot, Cond.code yX0_walkKnot cX0_walkKnot 9 none, Cond.fieldLink RX0 15 "KnotBand$Band" "kinds" "[I", Cond.fieldLink RX0 31 "KnotBand$Band" "shown" "[I", Cond.fieldLink RX0 9 "KnotBand$Band" "colours" "[I", Cond.static yX4_leftPlaceOf, Cond.code yX4_leftPlaceOf cX4_leftPlaceOf 2 (some .int), Cond.static yX4_kindIn, Cond.code yX4_kindIn cX4_kindIn 2 (some .int), Cond.static yX4_showingPlace, Cond.code yX4_showingPlace cX4_showingPlace 2 (some .int), Cond.static yX4_spotOf, Cond.code yX4_spotOf cX4_spotOf 2 (some .int)]
def wsX4_copy : List Cond := .code yX4_copy cX4_copy 6 (some .boolean) :: ((wsX4_copy_r1 ++ wsX4_copy_r2) ++ wsX20 ++ wsX00 ++ wsX40 ++ (vx_atN RX4 151).filter goodWord)
def wsX4_workedOutAt_r1 : List Cond := [Cond.fieldLink RX4 24 "KnotBand" "loom" "LKnotBand$Loom;", Cond.methodLink RX4 106 yX4_pictureAt, Cond.instanceMethod yX4_pictureAt, Cond.selects RX4 yX4_pictureAt yX4_pictureAt, Cond.initialized RX4, Cond.code yX4_pictureAt cX4_pictureAt 2 (some (.object "KnotBand$Picture")), Cond.fieldLink RX4 32 "KnotBand" "pictureCount" "I", Cond.fieldLink RX4 17 "KnotBand" "pictures" "[LKnotBand$Picture;", Cond.methodLink RX4 48 yX4_needElement, Cond.static yX4_needElement, Cond.code yX4_needElement cX4_needElement 2 none, Cond.classLink RX4 147 "java/util/NoSuchElementException", Cond.initialized "java/util/NoSuchElementException", Cond.methodLink RX4 144 yX1_workOut, Cond.instanceMethod yX1_workOut, Cond.selects RX1 yX1_workOut yX1_workOut, Cond.initialized RX1, Cond.code yX1_workOut cX1_workOut 3 none, Cond.fieldLink RX1 32 "KnotBand$Loom" "now" "LKnotBand$Standings;", Cond.fieldLink RX1 27 "KnotBand$Loom" "ahead" "[LKnotBand$Standings;", Cond.methodLink RX1 36 yX1_listKnots, Cond.instanceMethod yX1_listKnots, Cond.selects RX1 yX1_listKnots yX1_listKnots, Cond.code yX1_listKnots cX1_listKnots 5 none]
def wsX4_workedOutAt_r2 : List Cond := [Cond.fieldLink RX1 21 "KnotBand$Loom" "knotCount" "I", Cond.fieldLink RX1 9 "KnotBand$Loom" "names" "[I", Cond.fieldLink RX1 15 "KnotBand$Loom" "lefts" "[I", Cond.fieldLink RX1 18 "KnotBand$Loom" "wished" "[I", Cond.static yX4_knotsIn, Cond.code yX4_knotsIn cX4_knotsIn 2 (some .int), Cond.static yX4_leftPlaceOf, Cond.code yX4_leftPlaceOf cX4_leftPlaceOf 2 (some .int), Cond.static yX4_spotOf, Cond.code yX4_spotOf cX4_spotOf 2 (some .int), Cond.methodLink RX1 40 yX1_workBackward, Cond.instanceMethod yX1_workBackward, Cond.selects RX1 yX1_workBackward yX1_workBackward, Cond.code yX1_workBackward cX1_workBackward 2 none, Cond.methodLink RX1 43 yX3_fill, Cond.instanceMethod yX3_fill, Cond.selects RX3 yX3_fill yX3_fill, Cond.initialized RX3, Cond.code yX3_fill cX3_fill 2 none, Cond.fieldLink RX3 11 "KnotBand$Standings" "words" "[J", Cond.constantLong RX3 15 (-1), Cond.methodLink RX1 100 yX3_spread, Cond.instanceMethod yX3_spread, Cond.selects RX3 yX3_spread yX3_spread]
def wsX4_workedOutAt_r3 : List Cond := [Cond.code yX3_spread cX3_spread 3 none, Cond.fieldLink RX3 31 "KnotBand$Standings" "PLACE_3_LESS" "[J", Cond.fieldLink RX3 38 "KnotBand$Standings" "PLACE_4_LESS" "[J", Cond.methodLink RX3 27 yX3_spreadAcross, Cond.instanceMethod yX3_spreadAcross, Cond.selects RX3 yX3_spreadAcross yX3_spreadAcross, Cond.code yX3_spreadAcross cX3_spreadAcross 7 none, Cond.constantLong RX3 21 (65535), Cond.methodLink RX3 34 yX3_spreadInside, Cond.instanceMethod yX3_spreadInside, Cond.selects RX3 yX3_spreadInside yX3_spreadInside, Cond.code yX3_spreadInside cX3_spreadInside 11 none, Cond.methodLink RX3 41 yX3_spreadBetween, Cond.instanceMethod yX3_spreadBetween, Cond.selects RX3 yX3_spreadBetween yX3_spreadBetween, Cond.code yX3_spreadBetween cX3_spreadBetween 4 none, Cond.static yX4_exchanged, Cond.code yX4_exchanged cX4_exchanged 3 (some .int), Cond.methodLink RX1 104 yX3_keepEither, Cond.instanceMethod yX3_keepEither, Cond.selects RX3 yX3_keepEither yX3_keepEither, Cond.code yX3_keepEither cX3_keepEither 4 none, Cond.methodLink RX3 17 yX3_having, Cond.static yX3_having]
def wsX4_workedOutAt_r4 : List Cond := [Cond.code yX3_having cX3_having 3 (some .long), Cond.constantLong RX3 23 (4222189076152335), Cond.constantLong RX3 25 (1229782938247303441), Cond.methodLink RX1 51 yX3_keep, Cond.instanceMethod yX3_keep, Cond.selects RX3 yX3_keep yX3_keep, Cond.code yX3_keep cX3_keep 4 none, Cond.methodLink RX1 58 yX3_countShared, Cond.instanceMethod yX3_countShared, Cond.selects RX3 yX3_countShared yX3_countShared, Cond.code yX3_countShared cX3_countShared 4 (some .int), Cond.methodLink RX3 49 yJ13_bitCount_95d88, Cond.static yJ13_bitCount_95d88, Cond.initialized RJ13, Cond.code yJ13_bitCount_95d88 cJ13_bitCount_95d88 2 (some .int), Cond.constantLong RJ13 314 (6148914691236517205), Cond.constantLong RJ13 316 (3689348814741910323), Cond.constantLong RJ13 318 (1085102592571150095), Cond.methodLink RX1 65 yX3_firstShared, Cond.instanceMethod yX3_firstShared, Cond.selects RX3 yX3_firstShared yX3_firstShared, Cond.code yX3_firstShared cX3_firstShared 6 (some .int), Cond.methodLink RX1 71 yX1_chooseKinds, Cond.instanceMethod yX1_chooseKinds]
def wsX4_workedOutAt_r5 : List Cond := [Cond.selects RX1 yX1_chooseKinds yX1_chooseKinds, Cond.code yX1_chooseKinds cX1_chooseKinds 6 none, Cond.methodLink RX1 107 yX1_leastKind, Cond.instanceMethod yX1_leastKind, Cond.selects RX1 yX1_leastKind yX1_leastKind, Cond.code yX1_leastKind cX1_leastKind 6 (some .int), Cond.static yX4_showingPlace, Cond.code yX4_showingPlace cX4_showingPlace 2 (some .int), Cond.static yX4_colourIn, Cond.code yX4_colourIn cX4_colourIn 2 (some .int), Cond.methodLink RX4 154 yX4_bitOf, Cond.static yX4_bitOf, Cond.code yX4_bitOf cX4_bitOf 1 (some .int), Cond.methodLink RX1 117 yX1_standingBehind, Cond.instanceMethod yX1_standingBehind, Cond.selects RX1 yX1_standingBehind yX1_standingBehind, Cond.code yX1_standingBehind cX1_standingBehind 4 (some .int), Cond.methodLink RX1 126 yX3_has, Cond.instanceMethod yX3_has, Cond.selects RX3 yX3_has yX3_has, Cond.code yX3_has cX3_has 2 (some .boolean), Cond.static yX4_withKind, Cond.code yX4_withKind cX4_withKind 3 (some .int), Cond.methodLink RX1 74 yX1_findSuspects]
def wsX4_workedOutAt_r6 : List Cond := [Cond.instanceMethod yX1_findSuspects, Cond.selects RX1 yX1_findSuspects yX1_findSuspects, Cond.code yX1_findSuspects cX1_findSuspects 3 none]
def wsX4_workedOutAt : List Cond := .code yX4_workedOutAt cX4_workedOutAt 3 (some (.object "KnotBand$Picture")) :: ((wsX4_workedOutAt_r1 ++ (wsX4_workedOutAt_r2 ++ (wsX4_workedOutAt_r3 ++ (wsX4_workedOutAt_r4 ++ (wsX4_workedOutAt_r5 ++ wsX4_workedOutAt_r6))))) ++ wsX20 ++ wsX40 ++ wsX10 ++ wsX30 ++ (vx_atN RX4 151).filter goodWord)
def wsX4_starts_r1 : List Cond := [Cond.methodLink RX4 122 yX4_workedOutAt, Cond.instanceMethod yX4_workedOutAt, Cond.selects RX4 yX4_workedOutAt yX4_workedOutAt, Cond.initialized RX4, Cond.code yX4_workedOutAt cX4_workedOutAt 3 (some (.object "KnotBand$Picture")), Cond.fieldLink RX4 24 "KnotBand" "loom" "LKnotBand$Loom;", Cond.methodLink RX4 106 yX4_pictureAt, Cond.instanceMethod yX4_pictureAt, Cond.selects RX4 yX4_pictureAt yX4_pictureAt, Cond.code yX4_pictureAt cX4_pictureAt 2 (some (.object "KnotBand$Picture")), Cond.fieldLink RX4 32 "KnotBand" "pictureCount" "I", Cond.fieldLink RX4 17 "KnotBand" "pictures" "[LKnotBand$Picture;", Cond.methodLink RX4 48 yX4_needElement, Cond.static yX4_needElement, Cond.code yX4_needElement cX4_needElement 2 none, Cond.classLink RX4 147 "java/util/NoSuchElementException", Cond.initialized "java/util/NoSuchElementException", Cond.methodLink RX4 144 yX1_workOut, Cond.instanceMethod yX1_workOut, Cond.selects RX1 yX1_workOut yX1_workOut, Cond.initialized RX1, Cond.code yX1_workOut cX1_workOut 3 none, Cond.fieldLink RX1 32 "KnotBand$Loom" "now" "LKnotBand$Standings;", Cond.fieldLink RX1 27 "KnotBand$Loom" "ahead" "[LKnotBand$Standings;"]
def wsX4_starts_r2 : List Cond := [Cond.methodLink RX1 36 yX1_listKnots, Cond.instanceMethod yX1_listKnots, Cond.selects RX1 yX1_listKnots yX1_listKnots, Cond.code yX1_listKnots cX1_listKnots 5 none, Cond.fieldLink RX1 21 "KnotBand$Loom" "knotCount" "I", Cond.fieldLink RX1 9 "KnotBand$Loom" "names" "[I", Cond.fieldLink RX1 15 "KnotBand$Loom" "lefts" "[I", Cond.fieldLink RX1 18 "KnotBand$Loom" "wished" "[I", Cond.static yX4_knotsIn, Cond.code yX4_knotsIn cX4_knotsIn 2 (some .int), Cond.static yX4_leftPlaceOf, Cond.code yX4_leftPlaceOf cX4_leftPlaceOf 2 (some .int), Cond.static yX4_spotOf, Cond.code yX4_spotOf cX4_spotOf 2 (some .int), Cond.methodLink RX1 40 yX1_workBackward, Cond.instanceMethod yX1_workBackward, Cond.selects RX1 yX1_workBackward yX1_workBackward, Cond.code yX1_workBackward cX1_workBackward 2 none, Cond.methodLink RX1 43 yX3_fill, Cond.instanceMethod yX3_fill, Cond.selects RX3 yX3_fill yX3_fill, Cond.initialized RX3, Cond.code yX3_fill cX3_fill 2 none, Cond.fieldLink RX3 11 "KnotBand$Standings" "words" "[J"]
def wsX4_starts_r3 : List Cond := [Cond.constantLong RX3 15 (-1), Cond.methodLink RX1 100 yX3_spread, Cond.instanceMethod yX3_spread, Cond.selects RX3 yX3_spread yX3_spread, Cond.code yX3_spread cX3_spread 3 none, Cond.fieldLink RX3 31 "KnotBand$Standings" "PLACE_3_LESS" "[J", Cond.fieldLink RX3 38 "KnotBand$Standings" "PLACE_4_LESS" "[J", Cond.methodLink RX3 27 yX3_spreadAcross, Cond.instanceMethod yX3_spreadAcross, Cond.selects RX3 yX3_spreadAcross yX3_spreadAcross, Cond.code yX3_spreadAcross cX3_spreadAcross 7 none, Cond.constantLong RX3 21 (65535), Cond.methodLink RX3 34 yX3_spreadInside, Cond.instanceMethod yX3_spreadInside, Cond.selects RX3 yX3_spreadInside yX3_spreadInside, Cond.code yX3_spreadInside cX3_spreadInside 11 none, Cond.methodLink RX3 41 yX3_spreadBetween, Cond.instanceMethod yX3_spreadBetween, Cond.selects RX3 yX3_spreadBetween yX3_spreadBetween, Cond.code yX3_spreadBetween cX3_spreadBetween 4 none, Cond.static yX4_exchanged, Cond.code yX4_exchanged cX4_exchanged 3 (some .int), Cond.methodLink RX1 104 yX3_keepEither, Cond.instanceMethod yX3_keepEither]
def wsX4_starts_r4 : List Cond := [Cond.selects RX3 yX3_keepEither yX3_keepEither, Cond.code yX3_keepEither cX3_keepEither 4 none, Cond.methodLink RX3 17 yX3_having, Cond.static yX3_having, Cond.code yX3_having cX3_having 3 (some .long), Cond.constantLong RX3 23 (4222189076152335), Cond.constantLong RX3 25 (1229782938247303441), Cond.methodLink RX1 51 yX3_keep, Cond.instanceMethod yX3_keep, Cond.selects RX3 yX3_keep yX3_keep, Cond.code yX3_keep cX3_keep 4 none, Cond.methodLink RX1 58 yX3_countShared, Cond.instanceMethod yX3_countShared, Cond.selects RX3 yX3_countShared yX3_countShared, Cond.code yX3_countShared cX3_countShared 4 (some .int), Cond.methodLink RX3 49 yJ13_bitCount_95d88, Cond.static yJ13_bitCount_95d88, Cond.initialized RJ13, Cond.code yJ13_bitCount_95d88 cJ13_bitCount_95d88 2 (some .int), Cond.constantLong RJ13 314 (6148914691236517205), Cond.constantLong RJ13 316 (3689348814741910323), Cond.constantLong RJ13 318 (1085102592571150095), Cond.methodLink RX1 65 yX3_firstShared, Cond.instanceMethod yX3_firstShared]
def wsX4_starts_r5 : List Cond := [Cond.selects RX3 yX3_firstShared yX3_firstShared, Cond.code yX3_firstShared cX3_firstShared 6 (some .int), Cond.methodLink RX1 71 yX1_chooseKinds, Cond.instanceMethod yX1_chooseKinds, Cond.selects RX1 yX1_chooseKinds yX1_chooseKinds, Cond.code yX1_chooseKinds cX1_chooseKinds 6 none, Cond.methodLink RX1 107 yX1_leastKind, Cond.instanceMethod yX1_leastKind, Cond.selects RX1 yX1_leastKind yX1_leastKind, Cond.code yX1_leastKind cX1_leastKind 6 (some .int), Cond.static yX4_showingPlace, Cond.code yX4_showingPlace cX4_showingPlace 2 (some .int), Cond.static yX4_colourIn, Cond.code yX4_colourIn cX4_colourIn 2 (some .int), Cond.methodLink RX4 154 yX4_bitOf, Cond.static yX4_bitOf, Cond.code yX4_bitOf cX4_bitOf 1 (some .int), Cond.methodLink RX1 117 yX1_standingBehind, Cond.instanceMethod yX1_standingBehind, Cond.selects RX1 yX1_standingBehind yX1_standingBehind, Cond.code yX1_standingBehind cX1_standingBehind 4 (some .int), Cond.methodLink RX1 126 yX3_has, Cond.instanceMethod yX3_has, Cond.selects RX3 yX3_has yX3_has]
def wsX4_starts_r6 : List Cond := [Cond.code yX3_has cX3_has 2 (some .boolean), Cond.static yX4_withKind, Cond.code yX4_withKind cX4_withKind 3 (some .int), Cond.methodLink RX1 74 yX1_findSuspects, Cond.instanceMethod yX1_findSuspects, Cond.selects RX1 yX1_findSuspects yX1_findSuspects, Cond.code yX1_findSuspects cX1_findSuspects 3 none]
def wsX4_starts : List Cond := .code yX4_starts cX4_starts 2 (some .int) :: ((wsX4_starts_r1 ++ (wsX4_starts_r2 ++ (wsX4_starts_r3 ++ (wsX4_starts_r4 ++ (wsX4_starts_r5 ++ wsX4_starts_r6))))) ++ wsX20 ++ wsX40 ++ wsX10 ++ wsX30 ++ (vx_atN RX4 151).filter goodWord)
def wsX4_start_r1 : List Cond := [Cond.methodLink RX4 106 yX4_pictureAt, Cond.instanceMethod yX4_pictureAt, Cond.selects RX4 yX4_pictureAt yX4_pictureAt, Cond.initialized RX4, Cond.code yX4_pictureAt cX4_pictureAt 2 (some (.object "KnotBand$Picture")), Cond.fieldLink RX4 32 "KnotBand" "pictureCount" "I", Cond.fieldLink RX4 17 "KnotBand" "pictures" "[LKnotBand$Picture;", Cond.methodLink RX4 48 yX4_needElement, Cond.static yX4_needElement, Cond.code yX4_needElement cX4_needElement 2 none, Cond.classLink RX4 147 "java/util/NoSuchElementException", Cond.initialized "java/util/NoSuchElementException", Cond.methodLink RX4 122 yX4_workedOutAt, Cond.instanceMethod yX4_workedOutAt, Cond.selects RX4 yX4_workedOutAt yX4_workedOutAt, Cond.code yX4_workedOutAt cX4_workedOutAt 3 (some (.object "KnotBand$Picture")), Cond.fieldLink RX4 24 "KnotBand" "loom" "LKnotBand$Loom;", Cond.methodLink RX4 144 yX1_workOut, Cond.instanceMethod yX1_workOut, Cond.selects RX1 yX1_workOut yX1_workOut, Cond.initialized RX1, Cond.code yX1_workOut cX1_workOut 3 none, Cond.fieldLink RX1 32 "KnotBand$Loom" "now" "LKnotBand$Standings;", Cond.fieldLink RX1 27 "KnotBand$Loom" "ahead" "[LKnotBand$Standings;"]
def wsX4_start_r2 : List Cond := [Cond.methodLink RX1 36 yX1_listKnots, Cond.instanceMethod yX1_listKnots, Cond.selects RX1 yX1_listKnots yX1_listKnots, Cond.code yX1_listKnots cX1_listKnots 5 none, Cond.fieldLink RX1 21 "KnotBand$Loom" "knotCount" "I", Cond.fieldLink RX1 9 "KnotBand$Loom" "names" "[I", Cond.fieldLink RX1 15 "KnotBand$Loom" "lefts" "[I", Cond.fieldLink RX1 18 "KnotBand$Loom" "wished" "[I", Cond.static yX4_knotsIn, Cond.code yX4_knotsIn cX4_knotsIn 2 (some .int), Cond.static yX4_leftPlaceOf, Cond.code yX4_leftPlaceOf cX4_leftPlaceOf 2 (some .int), Cond.static yX4_spotOf, Cond.code yX4_spotOf cX4_spotOf 2 (some .int), Cond.methodLink RX1 40 yX1_workBackward, Cond.instanceMethod yX1_workBackward, Cond.selects RX1 yX1_workBackward yX1_workBackward, Cond.code yX1_workBackward cX1_workBackward 2 none, Cond.methodLink RX1 43 yX3_fill, Cond.instanceMethod yX3_fill, Cond.selects RX3 yX3_fill yX3_fill, Cond.initialized RX3, Cond.code yX3_fill cX3_fill 2 none, Cond.fieldLink RX3 11 "KnotBand$Standings" "words" "[J"]
def wsX4_start_r3 : List Cond := [Cond.constantLong RX3 15 (-1), Cond.methodLink RX1 100 yX3_spread, Cond.instanceMethod yX3_spread, Cond.selects RX3 yX3_spread yX3_spread, Cond.code yX3_spread cX3_spread 3 none, Cond.fieldLink RX3 31 "KnotBand$Standings" "PLACE_3_LESS" "[J", Cond.fieldLink RX3 38 "KnotBand$Standings" "PLACE_4_LESS" "[J", Cond.methodLink RX3 27 yX3_spreadAcross, Cond.instanceMethod yX3_spreadAcross, Cond.selects RX3 yX3_spreadAcross yX3_spreadAcross, Cond.code yX3_spreadAcross cX3_spreadAcross 7 none, Cond.constantLong RX3 21 (65535), Cond.methodLink RX3 34 yX3_spreadInside, Cond.instanceMethod yX3_spreadInside, Cond.selects RX3 yX3_spreadInside yX3_spreadInside, Cond.code yX3_spreadInside cX3_spreadInside 11 none, Cond.methodLink RX3 41 yX3_spreadBetween, Cond.instanceMethod yX3_spreadBetween, Cond.selects RX3 yX3_spreadBetween yX3_spreadBetween, Cond.code yX3_spreadBetween cX3_spreadBetween 4 none, Cond.static yX4_exchanged, Cond.code yX4_exchanged cX4_exchanged 3 (some .int), Cond.methodLink RX1 104 yX3_keepEither, Cond.instanceMethod yX3_keepEither]
def wsX4_start_r4 : List Cond := [Cond.selects RX3 yX3_keepEither yX3_keepEither, Cond.code yX3_keepEither cX3_keepEither 4 none, Cond.methodLink RX3 17 yX3_having, Cond.static yX3_having, Cond.code yX3_having cX3_having 3 (some .long), Cond.constantLong RX3 23 (4222189076152335), Cond.constantLong RX3 25 (1229782938247303441), Cond.methodLink RX1 51 yX3_keep, Cond.instanceMethod yX3_keep, Cond.selects RX3 yX3_keep yX3_keep, Cond.code yX3_keep cX3_keep 4 none, Cond.methodLink RX1 58 yX3_countShared, Cond.instanceMethod yX3_countShared, Cond.selects RX3 yX3_countShared yX3_countShared, Cond.code yX3_countShared cX3_countShared 4 (some .int), Cond.methodLink RX3 49 yJ13_bitCount_95d88, Cond.static yJ13_bitCount_95d88, Cond.initialized RJ13, Cond.code yJ13_bitCount_95d88 cJ13_bitCount_95d88 2 (some .int), Cond.constantLong RJ13 314 (6148914691236517205), Cond.constantLong RJ13 316 (3689348814741910323), Cond.constantLong RJ13 318 (1085102592571150095), Cond.methodLink RX1 65 yX3_firstShared, Cond.instanceMethod yX3_firstShared]
def wsX4_start_r5 : List Cond := [Cond.selects RX3 yX3_firstShared yX3_firstShared, Cond.code yX3_firstShared cX3_firstShared 6 (some .int), Cond.methodLink RX1 71 yX1_chooseKinds, Cond.instanceMethod yX1_chooseKinds, Cond.selects RX1 yX1_chooseKinds yX1_chooseKinds, Cond.code yX1_chooseKinds cX1_chooseKinds 6 none, Cond.methodLink RX1 107 yX1_leastKind, Cond.instanceMethod yX1_leastKind, Cond.selects RX1 yX1_leastKind yX1_leastKind, Cond.code yX1_leastKind cX1_leastKind 6 (some .int), Cond.static yX4_showingPlace, Cond.code yX4_showingPlace cX4_showingPlace 2 (some .int), Cond.static yX4_colourIn, Cond.code yX4_colourIn cX4_colourIn 2 (some .int), Cond.methodLink RX4 154 yX4_bitOf, Cond.static yX4_bitOf, Cond.code yX4_bitOf cX4_bitOf 1 (some .int), Cond.methodLink RX1 117 yX1_standingBehind, Cond.instanceMethod yX1_standingBehind, Cond.selects RX1 yX1_standingBehind yX1_standingBehind, Cond.code yX1_standingBehind cX1_standingBehind 4 (some .int), Cond.methodLink RX1 126 yX3_has, Cond.instanceMethod yX3_has, Cond.selects RX3 yX3_has yX3_has]
def wsX4_start_r6 : List Cond := [Cond.code yX3_has cX3_has 2 (some .boolean), Cond.static yX4_withKind, Cond.code yX4_withKind cX4_withKind 3 (some .int), Cond.methodLink RX1 74 yX1_findSuspects, Cond.instanceMethod yX1_findSuspects, Cond.selects RX1 yX1_findSuspects yX1_findSuspects, Cond.code yX1_findSuspects cX1_findSuspects 3 none, Cond.methodLink RX4 131 yX4_colourIn]
def wsX4_start : List Cond := .code yX4_start cX4_start 4 (some .int) :: ((wsX4_start_r1 ++ (wsX4_start_r2 ++ (wsX4_start_r3 ++ (wsX4_start_r4 ++ (wsX4_start_r5 ++ wsX4_start_r6))))) ++ wsX20 ++ wsX40 ++ wsX10 ++ wsX30 ++ (vx_atN RX4 151).filter goodWord)
def wsX4_tie_r1 : List Cond := [Cond.fieldLink RX4 28 "KnotBand" "bandCount" "I", Cond.fieldLink RX4 11 "KnotBand" "bands" "[LKnotBand$Band;", Cond.methodLink RX4 122 yX4_workedOutAt, Cond.instanceMethod yX4_workedOutAt, Cond.selects RX4 yX4_workedOutAt yX4_workedOutAt, Cond.initialized RX4, Cond.code yX4_workedOutAt cX4_workedOutAt 3 (some (.object "KnotBand$Picture")), Cond.fieldLink RX4 24 "KnotBand" "loom" "LKnotBand$Loom;", Cond.methodLink RX4 106 yX4_pictureAt, Cond.instanceMethod yX4_pictureAt, Cond.selects RX4 yX4_pictureAt yX4_pictureAt, Cond.code yX4_pictureAt cX4_pictureAt 2 (some (.object "KnotBand$Picture")), Cond.fieldLink RX4 32 "KnotBand" "pictureCount" "I", Cond.fieldLink RX4 17 "KnotBand" "pictures" "[LKnotBand$Picture;", Cond.methodLink RX4 48 yX4_needElement, Cond.static yX4_needElement, Cond.code yX4_needElement cX4_needElement 2 none, Cond.classLink RX4 147 "java/util/NoSuchElementException", Cond.initialized "java/util/NoSuchElementException", Cond.methodLink RX4 144 yX1_workOut, Cond.instanceMethod yX1_workOut, Cond.selects RX1 yX1_workOut yX1_workOut, Cond.initialized RX1, Cond.code yX1_workOut cX1_workOut 3 none]
def wsX4_tie_r2 : List Cond := [Cond.fieldLink RX1 32 "KnotBand$Loom" "now" "LKnotBand$Standings;", Cond.fieldLink RX1 27 "KnotBand$Loom" "ahead" "[LKnotBand$Standings;", Cond.methodLink RX1 36 yX1_listKnots, Cond.instanceMethod yX1_listKnots, Cond.selects RX1 yX1_listKnots yX1_listKnots, Cond.code yX1_listKnots cX1_listKnots 5 none, Cond.fieldLink RX1 21 "KnotBand$Loom" "knotCount" "I", Cond.fieldLink RX1 9 "KnotBand$Loom" "names" "[I", Cond.fieldLink RX1 15 "KnotBand$Loom" "lefts" "[I", Cond.fieldLink RX1 18 "KnotBand$Loom" "wished" "[I", Cond.static yX4_knotsIn, Cond.code yX4_knotsIn cX4_knotsIn 2 (some .int), Cond.static yX4_leftPlaceOf, Cond.code yX4_leftPlaceOf cX4_leftPlaceOf 2 (some .int), Cond.static yX4_spotOf, Cond.code yX4_spotOf cX4_spotOf 2 (some .int), Cond.methodLink RX1 40 yX1_workBackward, Cond.instanceMethod yX1_workBackward, Cond.selects RX1 yX1_workBackward yX1_workBackward, Cond.code yX1_workBackward cX1_workBackward 2 none, Cond.methodLink RX1 43 yX3_fill, Cond.instanceMethod yX3_fill, Cond.selects RX3 yX3_fill yX3_fill, Cond.initialized RX3]
def wsX4_tie_r3 : List Cond := [Cond.code yX3_fill cX3_fill 2 none, Cond.fieldLink RX3 11 "KnotBand$Standings" "words" "[J", Cond.constantLong RX3 15 (-1), Cond.methodLink RX1 100 yX3_spread, Cond.instanceMethod yX3_spread, Cond.selects RX3 yX3_spread yX3_spread, Cond.code yX3_spread cX3_spread 3 none, Cond.fieldLink RX3 31 "KnotBand$Standings" "PLACE_3_LESS" "[J", Cond.fieldLink RX3 38 "KnotBand$Standings" "PLACE_4_LESS" "[J", Cond.methodLink RX3 27 yX3_spreadAcross, Cond.instanceMethod yX3_spreadAcross, Cond.selects RX3 yX3_spreadAcross yX3_spreadAcross, Cond.code yX3_spreadAcross cX3_spreadAcross 7 none, Cond.constantLong RX3 21 (65535), Cond.methodLink RX3 34 yX3_spreadInside, Cond.instanceMethod yX3_spreadInside, Cond.selects RX3 yX3_spreadInside yX3_spreadInside, Cond.code yX3_spreadInside cX3_spreadInside 11 none, Cond.methodLink RX3 41 yX3_spreadBetween, Cond.instanceMethod yX3_spreadBetween, Cond.selects RX3 yX3_spreadBetween yX3_spreadBetween, Cond.code yX3_spreadBetween cX3_spreadBetween 4 none, Cond.static yX4_exchanged, Cond.code yX4_exchanged cX4_exchanged 3 (some .int)]
def wsX4_tie_r4 : List Cond := [Cond.methodLink RX1 104 yX3_keepEither, Cond.instanceMethod yX3_keepEither, Cond.selects RX3 yX3_keepEither yX3_keepEither, Cond.code yX3_keepEither cX3_keepEither 4 none, Cond.methodLink RX3 17 yX3_having, Cond.static yX3_having, Cond.code yX3_having cX3_having 3 (some .long), Cond.constantLong RX3 23 (4222189076152335), Cond.constantLong RX3 25 (1229782938247303441), Cond.methodLink RX1 51 yX3_keep, Cond.instanceMethod yX3_keep, Cond.selects RX3 yX3_keep yX3_keep, Cond.code yX3_keep cX3_keep 4 none, Cond.methodLink RX1 58 yX3_countShared, Cond.instanceMethod yX3_countShared, Cond.selects RX3 yX3_countShared yX3_countShared, Cond.code yX3_countShared cX3_countShared 4 (some .int), Cond.methodLink RX3 49 yJ13_bitCount_95d88, Cond.static yJ13_bitCount_95d88, Cond.initialized RJ13, Cond.code yJ13_bitCount_95d88 cJ13_bitCount_95d88 2 (some .int), Cond.constantLong RJ13 314 (6148914691236517205), Cond.constantLong RJ13 316 (3689348814741910323), Cond.constantLong RJ13 318 (1085102592571150095)]
def wsX4_tie_r5 : List Cond := [Cond.methodLink RX1 65 yX3_firstShared, Cond.instanceMethod yX3_firstShared, Cond.selects RX3 yX3_firstShared yX3_firstShared, Cond.code yX3_firstShared cX3_firstShared 6 (some .int), Cond.methodLink RX1 71 yX1_chooseKinds, Cond.instanceMethod yX1_chooseKinds, Cond.selects RX1 yX1_chooseKinds yX1_chooseKinds, Cond.code yX1_chooseKinds cX1_chooseKinds 6 none, Cond.methodLink RX1 107 yX1_leastKind, Cond.instanceMethod yX1_leastKind, Cond.selects RX1 yX1_leastKind yX1_leastKind, Cond.code yX1_leastKind cX1_leastKind 6 (some .int), Cond.static yX4_showingPlace, Cond.code yX4_showingPlace cX4_showingPlace 2 (some .int), Cond.static yX4_colourIn, Cond.code yX4_colourIn cX4_colourIn 2 (some .int), Cond.methodLink RX4 154 yX4_bitOf, Cond.static yX4_bitOf, Cond.code yX4_bitOf cX4_bitOf 1 (some .int), Cond.methodLink RX1 117 yX1_standingBehind, Cond.instanceMethod yX1_standingBehind, Cond.selects RX1 yX1_standingBehind yX1_standingBehind, Cond.code yX1_standingBehind cX1_standingBehind 4 (some .int), Cond.methodLink RX1 126 yX3_has]
def wsX4_tie_r6 : List Cond := [Cond.instanceMethod yX3_has, Cond.selects RX3 yX3_has yX3_has, Cond.code yX3_has cX3_has 2 (some .boolean), Cond.static yX4_withKind, Cond.code yX4_withKind cX4_withKind 3 (some .int), Cond.methodLink RX1 74 yX1_findSuspects, Cond.instanceMethod yX1_findSuspects, Cond.selects RX1 yX1_findSuspects yX1_findSuspects, Cond.code yX1_findSuspects cX1_findSuspects 3 none, Cond.methodLink RX4 134 yX0_become, Cond.instanceMethod yX0_become, Cond.selects RX0 yX0_become yX0_become, Cond.initialized RX0, Cond.code yX0_become cX0_become 3 none, Cond.fieldLink RX0 18 "KnotBand$Band" "threads" "I", Cond.fieldLink RX0 22 "KnotBand$Band" "rows" "I", Cond.fieldLink RX0 9 "KnotBand$Band" "colours" "[I", Cond.fieldLink RX0 15 "KnotBand$Band" "kinds" "[I"]
def wsX4_tie : List Cond := .code yX4_tie cX4_tie 3 (some .int) :: ((wsX4_tie_r1 ++ (wsX4_tie_r2 ++ (wsX4_tie_r3 ++ (wsX4_tie_r4 ++ (wsX4_tie_r5 ++ wsX4_tie_r6))))) ++ wsX20 ++ wsX40 ++ wsX10 ++ wsX30 ++ wsX00 ++ (vx_atN RX4 151).filter goodWord)
def wsX4_suspect_r1 : List Cond := [Cond.methodLink RX4 122 yX4_workedOutAt, Cond.instanceMethod yX4_workedOutAt, Cond.selects RX4 yX4_workedOutAt yX4_workedOutAt, Cond.initialized RX4, Cond.code yX4_workedOutAt cX4_workedOutAt 3 (some (.object "KnotBand$Picture")), Cond.fieldLink RX4 24 "KnotBand" "loom" "LKnotBand$Loom;", Cond.methodLink RX4 106 yX4_pictureAt, Cond.instanceMethod yX4_pictureAt, Cond.selects RX4 yX4_pictureAt yX4_pictureAt, Cond.code yX4_pictureAt cX4_pictureAt 2 (some (.object "KnotBand$Picture")), Cond.fieldLink RX4 32 "KnotBand" "pictureCount" "I", Cond.fieldLink RX4 17 "KnotBand" "pictures" "[LKnotBand$Picture;", Cond.methodLink RX4 48 yX4_needElement, Cond.static yX4_needElement, Cond.code yX4_needElement cX4_needElement 2 none, Cond.classLink RX4 147 "java/util/NoSuchElementException", Cond.initialized "java/util/NoSuchElementException", Cond.methodLink RX4 144 yX1_workOut, Cond.instanceMethod yX1_workOut, Cond.selects RX1 yX1_workOut yX1_workOut, Cond.initialized RX1, Cond.code yX1_workOut cX1_workOut 3 none, Cond.fieldLink RX1 32 "KnotBand$Loom" "now" "LKnotBand$Standings;", Cond.fieldLink RX1 27 "KnotBand$Loom" "ahead" "[LKnotBand$Standings;"]
def wsX4_suspect_r2 : List Cond := [Cond.methodLink RX1 36 yX1_listKnots, Cond.instanceMethod yX1_listKnots, Cond.selects RX1 yX1_listKnots yX1_listKnots, Cond.code yX1_listKnots cX1_listKnots 5 none, Cond.fieldLink RX1 21 "KnotBand$Loom" "knotCount" "I", Cond.fieldLink RX1 9 "KnotBand$Loom" "names" "[I", Cond.fieldLink RX1 15 "KnotBand$Loom" "lefts" "[I", Cond.fieldLink RX1 18 "KnotBand$Loom" "wished" "[I", Cond.static yX4_knotsIn, Cond.code yX4_knotsIn cX4_knotsIn 2 (some .int), Cond.static yX4_leftPlaceOf, Cond.code yX4_leftPlaceOf cX4_leftPlaceOf 2 (some .int), Cond.static yX4_spotOf, Cond.code yX4_spotOf cX4_spotOf 2 (some .int), Cond.methodLink RX1 40 yX1_workBackward, Cond.instanceMethod yX1_workBackward, Cond.selects RX1 yX1_workBackward yX1_workBackward, Cond.code yX1_workBackward cX1_workBackward 2 none, Cond.methodLink RX1 43 yX3_fill, Cond.instanceMethod yX3_fill, Cond.selects RX3 yX3_fill yX3_fill, Cond.initialized RX3, Cond.code yX3_fill cX3_fill 2 none, Cond.fieldLink RX3 11 "KnotBand$Standings" "words" "[J"]
def wsX4_suspect_r3 : List Cond := [Cond.constantLong RX3 15 (-1), Cond.methodLink RX1 100 yX3_spread, Cond.instanceMethod yX3_spread, Cond.selects RX3 yX3_spread yX3_spread, Cond.code yX3_spread cX3_spread 3 none, Cond.fieldLink RX3 31 "KnotBand$Standings" "PLACE_3_LESS" "[J", Cond.fieldLink RX3 38 "KnotBand$Standings" "PLACE_4_LESS" "[J", Cond.methodLink RX3 27 yX3_spreadAcross, Cond.instanceMethod yX3_spreadAcross, Cond.selects RX3 yX3_spreadAcross yX3_spreadAcross, Cond.code yX3_spreadAcross cX3_spreadAcross 7 none, Cond.constantLong RX3 21 (65535), Cond.methodLink RX3 34 yX3_spreadInside, Cond.instanceMethod yX3_spreadInside, Cond.selects RX3 yX3_spreadInside yX3_spreadInside, Cond.code yX3_spreadInside cX3_spreadInside 11 none, Cond.methodLink RX3 41 yX3_spreadBetween, Cond.instanceMethod yX3_spreadBetween, Cond.selects RX3 yX3_spreadBetween yX3_spreadBetween, Cond.code yX3_spreadBetween cX3_spreadBetween 4 none, Cond.static yX4_exchanged, Cond.code yX4_exchanged cX4_exchanged 3 (some .int), Cond.methodLink RX1 104 yX3_keepEither, Cond.instanceMethod yX3_keepEither]
def wsX4_suspect_r4 : List Cond := [Cond.selects RX3 yX3_keepEither yX3_keepEither, Cond.code yX3_keepEither cX3_keepEither 4 none, Cond.methodLink RX3 17 yX3_having, Cond.static yX3_having, Cond.code yX3_having cX3_having 3 (some .long), Cond.constantLong RX3 23 (4222189076152335), Cond.constantLong RX3 25 (1229782938247303441), Cond.methodLink RX1 51 yX3_keep, Cond.instanceMethod yX3_keep, Cond.selects RX3 yX3_keep yX3_keep, Cond.code yX3_keep cX3_keep 4 none, Cond.methodLink RX1 58 yX3_countShared, Cond.instanceMethod yX3_countShared, Cond.selects RX3 yX3_countShared yX3_countShared, Cond.code yX3_countShared cX3_countShared 4 (some .int), Cond.methodLink RX3 49 yJ13_bitCount_95d88, Cond.static yJ13_bitCount_95d88, Cond.initialized RJ13, Cond.code yJ13_bitCount_95d88 cJ13_bitCount_95d88 2 (some .int), Cond.constantLong RJ13 314 (6148914691236517205), Cond.constantLong RJ13 316 (3689348814741910323), Cond.constantLong RJ13 318 (1085102592571150095), Cond.methodLink RX1 65 yX3_firstShared, Cond.instanceMethod yX3_firstShared]
def wsX4_suspect_r5 : List Cond := [Cond.selects RX3 yX3_firstShared yX3_firstShared, Cond.code yX3_firstShared cX3_firstShared 6 (some .int), Cond.methodLink RX1 71 yX1_chooseKinds, Cond.instanceMethod yX1_chooseKinds, Cond.selects RX1 yX1_chooseKinds yX1_chooseKinds, Cond.code yX1_chooseKinds cX1_chooseKinds 6 none, Cond.methodLink RX1 107 yX1_leastKind, Cond.instanceMethod yX1_leastKind, Cond.selects RX1 yX1_leastKind yX1_leastKind, Cond.code yX1_leastKind cX1_leastKind 6 (some .int), Cond.static yX4_showingPlace, Cond.code yX4_showingPlace cX4_showingPlace 2 (some .int), Cond.static yX4_colourIn, Cond.code yX4_colourIn cX4_colourIn 2 (some .int), Cond.methodLink RX4 154 yX4_bitOf, Cond.static yX4_bitOf, Cond.code yX4_bitOf cX4_bitOf 1 (some .int), Cond.methodLink RX1 117 yX1_standingBehind, Cond.instanceMethod yX1_standingBehind, Cond.selects RX1 yX1_standingBehind yX1_standingBehind, Cond.code yX1_standingBehind cX1_standingBehind 4 (some .int), Cond.methodLink RX1 126 yX3_has, Cond.instanceMethod yX3_has, Cond.selects RX3 yX3_has yX3_has]
def wsX4_suspect_r6 : List Cond := [Cond.code yX3_has cX3_has 2 (some .boolean), Cond.static yX4_withKind, Cond.code yX4_withKind cX4_withKind 3 (some .int), Cond.methodLink RX1 74 yX1_findSuspects, Cond.instanceMethod yX1_findSuspects, Cond.selects RX1 yX1_findSuspects yX1_findSuspects, Cond.code yX1_findSuspects cX1_findSuspects 3 none]
def wsX4_suspect : List Cond := .code yX4_suspect cX4_suspect 4 (some .int) :: ((wsX4_suspect_r1 ++ (wsX4_suspect_r2 ++ (wsX4_suspect_r3 ++ (wsX4_suspect_r4 ++ (wsX4_suspect_r5 ++ wsX4_suspect_r6))))) ++ wsX20 ++ wsX40 ++ wsX10 ++ wsX30 ++ (vx_atN RX4 151).filter goodWord)
def wsX4_count : List Cond := .code yX4_count cX4_count 2 (some .int) :: ([.fieldLink RX4 28 "KnotBand" "bandCount" "I", .fieldLink RX4 32 "KnotBand" "pictureCount" "I", .methodLink RX4 48 yX4_needElement, .static yX4_needElement, .initialized RX4, .code yX4_needElement cX4_needElement 2 none, .classLink RX4 147 "java/util/NoSuchElementException", .initialized "java/util/NoSuchElementException"] ++ wsX40 ++ (vx_atN RX4 151).filter goodWord)
def wsX5_init : List Cond := .code yX5_init cX5_init 1 none :: ([.methodLink RX5 1 objectInit, .instanceMethod objectInit, .code objectInit ⟨#[0xb1]⟩ 1 none, .arrayClass .int, .fieldLink RX5 7 "KnotBandModel" "threads" "[I", .fieldLink RX5 13 "KnotBandModel" "rows" "[I", .fieldLink RX5 16 "KnotBandModel" "colours" "[I", .fieldLink RX5 19 "KnotBandModel" "kinds" "[I", .fieldLink RX5 22 "KnotBandModel" "width" "[I", .fieldLink RX5 25 "KnotBandModel" "high" "[I", .fieldLink RX5 28 "KnotBandModel" "seen" "[I", .fieldLink RX5 31 "KnotBandModel" "must" "[I", .fieldLink RX5 34 "KnotBandModel" "at" "[I", .fieldLink RX5 37 "KnotBandModel" "now" "[I", .fieldLink RX5 40 "KnotBandModel" "then" "[I", .constant RX5 43 (69632), .arrayClass .boolean, .fieldLink RX5 44 "KnotBandModel" "can" "[Z"] ++ wsX50)
def wsX5_thrown : List Cond := .code yX5_thrown cX5_thrown 1 (some .int) :: ([.fieldLink RX5 48 "KnotBandModel" "thrown" "I"] ++ wsX50)
def wsX5_right : List Cond := .code yX5_right cX5_right 3 (some .boolean) :: ([.fieldLink RX5 48 "KnotBandModel" "thrown" "I"] ++ wsX50)
def wsX5_knots : List Cond := .code yX5_knots cX5_knots 2 (some .int) :: ([])
def wsX5_left : List Cond := .code yX5_left cX5_left 2 (some .int) :: ([])
def wsX5_isBand : List Cond := .code yX5_isBand cX5_isBand 2 (some .boolean) :: ([.fieldLink RX5 48 "KnotBandModel" "thrown" "I", .fieldLink RX5 52 "KnotBandModel" "bands" "I", .methodLink RX5 55 yX5_right, .instanceMethod yX5_right, .selects RX5 yX5_right yX5_right, .initialized RX5, .code yX5_right cX5_right 3 (some .boolean)] ++ wsX50)
def wsX5_band : List Cond := .code yX5_band cX5_band 2 (some .int) :: ([.fieldLink RX5 48 "KnotBandModel" "thrown" "I", .fieldLink RX5 52 "KnotBandModel" "bands" "I", .fieldLink RX5 7 "KnotBandModel" "threads" "[I"] ++ wsX50)
def wsX5_colour : List Cond := .code yX5_colour cX5_colour 5 (some .int) :: ([.fieldLink RX5 7 "KnotBandModel" "threads" "[I", .fieldLink RX5 16 "KnotBandModel" "colours" "[I", .methodLink RX5 59 yX5_isBand, .instanceMethod yX5_isBand, .selects RX5 yX5_isBand yX5_isBand, .initialized RX5, .code yX5_isBand cX5_isBand 2 (some .boolean), .fieldLink RX5 48 "KnotBandModel" "thrown" "I", .fieldLink RX5 52 "KnotBandModel" "bands" "I", .methodLink RX5 55 yX5_right, .instanceMethod yX5_right, .selects RX5 yX5_right yX5_right, .code yX5_right cX5_right 3 (some .boolean)] ++ wsX50)
def wsX5_row : List Cond := .code yX5_row cX5_row 4 (some .int) :: ([.fieldLink RX5 13 "KnotBandModel" "rows" "[I", .fieldLink RX5 19 "KnotBandModel" "kinds" "[I", .methodLink RX5 59 yX5_isBand, .instanceMethod yX5_isBand, .selects RX5 yX5_isBand yX5_isBand, .initialized RX5, .code yX5_isBand cX5_isBand 2 (some .boolean), .fieldLink RX5 48 "KnotBandModel" "thrown" "I", .fieldLink RX5 52 "KnotBandModel" "bands" "I", .methodLink RX5 55 yX5_right, .instanceMethod yX5_right, .selects RX5 yX5_right yX5_right, .code yX5_right cX5_right 3 (some .boolean)] ++ wsX50)
def wsX5_isKnot : List Cond := .code yX5_isKnot cX5_isKnot 4 (some .boolean) :: ([.fieldLink RX5 13 "KnotBandModel" "rows" "[I", .fieldLink RX5 7 "KnotBandModel" "threads" "[I", .methodLink RX5 59 yX5_isBand, .instanceMethod yX5_isBand, .selects RX5 yX5_isBand yX5_isBand, .initialized RX5, .code yX5_isBand cX5_isBand 2 (some .boolean), .fieldLink RX5 48 "KnotBandModel" "thrown" "I", .fieldLink RX5 52 "KnotBandModel" "bands" "I", .methodLink RX5 55 yX5_right, .instanceMethod yX5_right, .selects RX5 yX5_right yX5_right, .code yX5_right cX5_right 3 (some .boolean), .methodLink RX5 63 yX5_knots, .static yX5_knots, .code yX5_knots cX5_knots 2 (some .int)] ++ wsX50)
def wsX5_knot : List Cond := .code yX5_knot cX5_knot 6 (some .int) :: ([.fieldLink RX5 19 "KnotBandModel" "kinds" "[I", .methodLink RX5 67 yX5_isKnot, .instanceMethod yX5_isKnot, .selects RX5 yX5_isKnot yX5_isKnot, .initialized RX5, .code yX5_isKnot cX5_isKnot 4 (some .boolean), .fieldLink RX5 13 "KnotBandModel" "rows" "[I", .fieldLink RX5 7 "KnotBandModel" "threads" "[I", .methodLink RX5 59 yX5_isBand, .instanceMethod yX5_isBand, .selects RX5 yX5_isBand yX5_isBand, .code yX5_isBand cX5_isBand 2 (some .boolean), .fieldLink RX5 48 "KnotBandModel" "thrown" "I", .fieldLink RX5 52 "KnotBandModel" "bands" "I", .methodLink RX5 55 yX5_right, .instanceMethod yX5_right, .selects RX5 yX5_right yX5_right, .code yX5_right cX5_right 3 (some .boolean), .methodLink RX5 63 yX5_knots, .static yX5_knots, .code yX5_knots cX5_knots 2 (some .int)] ++ wsX50)
def wsX5_stands : List Cond := .code yX5_stands cX5_stands 7 none :: ([.fieldLink RX5 34 "KnotBandModel" "at" "[I", .fieldLink RX5 7 "KnotBandModel" "threads" "[I", .fieldLink RX5 19 "KnotBandModel" "kinds" "[I", .methodLink RX5 63 yX5_knots, .static yX5_knots, .initialized RX5, .code yX5_knots cX5_knots 2 (some .int), .methodLink RX5 71 yX5_left, .static yX5_left, .code yX5_left cX5_left 2 (some .int)] ++ wsX50)
def wsX5_of : List Cond := .code yX5_of cX5_of 6 (some .int) :: ([.fieldLink RX5 19 "KnotBandModel" "kinds" "[I", .fieldLink RX5 34 "KnotBandModel" "at" "[I", .methodLink RX5 71 yX5_left, .static yX5_left, .initialized RX5, .code yX5_left cX5_left 2 (some .int)] ++ wsX50)
def wsX5_showsOf : List Cond := .code yX5_showsOf cX5_showsOf 4 (some .int) :: ([.fieldLink RX5 16 "KnotBandModel" "colours" "[I", .methodLink RX5 74 yX5_stands, .instanceMethod yX5_stands, .selects RX5 yX5_stands yX5_stands, .initialized RX5, .code yX5_stands cX5_stands 7 none, .fieldLink RX5 34 "KnotBandModel" "at" "[I", .fieldLink RX5 7 "KnotBandModel" "threads" "[I", .fieldLink RX5 19 "KnotBandModel" "kinds" "[I", .methodLink RX5 63 yX5_knots, .static yX5_knots, .code yX5_knots cX5_knots 2 (some .int), .methodLink RX5 71 yX5_left, .static yX5_left, .code yX5_left cX5_left 2 (some .int), .methodLink RX5 78 yX5_of, .instanceMethod yX5_of, .selects RX5 yX5_of yX5_of, .code yX5_of cX5_of 6 (some .int)] ++ wsX50)
def wsX5_shows_r1 : List Cond := [Cond.methodLink RX5 67 yX5_isKnot, Cond.instanceMethod yX5_isKnot, Cond.selects RX5 yX5_isKnot yX5_isKnot, Cond.initialized RX5, Cond.code yX5_isKnot cX5_isKnot 4 (some .boolean), Cond.fieldLink RX5 13 "KnotBandModel" "rows" "[I", Cond.fieldLink RX5 7 "KnotBandModel" "threads" "[I", Cond.methodLink RX5 59 yX5_isBand, Cond.instanceMethod yX5_isBand, Cond.selects RX5 yX5_isBand yX5_isBand, Cond.code yX5_isBand cX5_isBand 2 (some .boolean), Cond.fieldLink RX5 48 "KnotBandModel" "thrown" "I", Cond.fieldLink RX5 52 "KnotBandModel" "bands" "I", Cond.methodLink RX5 55 yX5_right, Cond.instanceMethod yX5_right, Cond.selects RX5 yX5_right yX5_right, Cond.code yX5_right cX5_right 3 (some .boolean), Cond.methodLink RX5 63 yX5_knots, Cond.static yX5_knots, Cond.code yX5_knots cX5_knots 2 (some .int), Cond.methodLink RX5 82 yX5_showsOf, Cond.instanceMethod yX5_showsOf, Cond.selects RX5 yX5_showsOf yX5_showsOf, Cond.code yX5_showsOf cX5_showsOf 4 (some .int)]
def wsX5_shows_r2 : List Cond := [Cond.fieldLink RX5 16 "KnotBandModel" "colours" "[I", Cond.methodLink RX5 74 yX5_stands, Cond.instanceMethod yX5_stands, Cond.selects RX5 yX5_stands yX5_stands, Cond.code yX5_stands cX5_stands 7 none, Cond.fieldLink RX5 34 "KnotBandModel" "at" "[I", Cond.fieldLink RX5 19 "KnotBandModel" "kinds" "[I", Cond.methodLink RX5 71 yX5_left, Cond.static yX5_left, Cond.code yX5_left cX5_left 2 (some .int), Cond.methodLink RX5 78 yX5_of, Cond.instanceMethod yX5_of, Cond.selects RX5 yX5_of yX5_of, Cond.code yX5_of cX5_of 6 (some .int)]
def wsX5_shows : List Cond := .code yX5_shows cX5_shows 4 (some .int) :: ((wsX5_shows_r1 ++ wsX5_shows_r2) ++ wsX50)
def wsX5_thread_r1 : List Cond := [Cond.fieldLink RX5 13 "KnotBandModel" "rows" "[I", Cond.fieldLink RX5 7 "KnotBandModel" "threads" "[I", Cond.fieldLink RX5 34 "KnotBandModel" "at" "[I", Cond.methodLink RX5 59 yX5_isBand, Cond.instanceMethod yX5_isBand, Cond.selects RX5 yX5_isBand yX5_isBand, Cond.initialized RX5, Cond.code yX5_isBand cX5_isBand 2 (some .boolean), Cond.fieldLink RX5 48 "KnotBandModel" "thrown" "I", Cond.fieldLink RX5 52 "KnotBandModel" "bands" "I", Cond.methodLink RX5 55 yX5_right, Cond.instanceMethod yX5_right, Cond.selects RX5 yX5_right yX5_right, Cond.code yX5_right cX5_right 3 (some .boolean), Cond.methodLink RX5 74 yX5_stands, Cond.instanceMethod yX5_stands, Cond.selects RX5 yX5_stands yX5_stands, Cond.code yX5_stands cX5_stands 7 none, Cond.fieldLink RX5 19 "KnotBandModel" "kinds" "[I", Cond.methodLink RX5 63 yX5_knots, Cond.static yX5_knots, Cond.code yX5_knots cX5_knots 2 (some .int), Cond.methodLink RX5 71 yX5_left, Cond.static yX5_left]
def wsX5_thread_r2 : List Cond := [Cond.code yX5_left cX5_left 2 (some .int)]
def wsX5_thread : List Cond := .code yX5_thread cX5_thread 4 (some .int) :: ((wsX5_thread_r1 ++ wsX5_thread_r2) ++ wsX50)
def wsX5_used_r1 : List Cond := [Cond.fieldLink RX5 7 "KnotBandModel" "threads" "[I", Cond.fieldLink RX5 13 "KnotBandModel" "rows" "[I", Cond.methodLink RX5 59 yX5_isBand, Cond.instanceMethod yX5_isBand, Cond.selects RX5 yX5_isBand yX5_isBand, Cond.initialized RX5, Cond.code yX5_isBand cX5_isBand 2 (some .boolean), Cond.fieldLink RX5 48 "KnotBandModel" "thrown" "I", Cond.fieldLink RX5 52 "KnotBandModel" "bands" "I", Cond.methodLink RX5 55 yX5_right, Cond.instanceMethod yX5_right, Cond.selects RX5 yX5_right yX5_right, Cond.code yX5_right cX5_right 3 (some .boolean), Cond.methodLink RX5 74 yX5_stands, Cond.instanceMethod yX5_stands, Cond.selects RX5 yX5_stands yX5_stands, Cond.code yX5_stands cX5_stands 7 none, Cond.fieldLink RX5 34 "KnotBandModel" "at" "[I", Cond.fieldLink RX5 19 "KnotBandModel" "kinds" "[I", Cond.methodLink RX5 63 yX5_knots, Cond.static yX5_knots, Cond.code yX5_knots cX5_knots 2 (some .int), Cond.methodLink RX5 71 yX5_left, Cond.static yX5_left]
def wsX5_used_r2 : List Cond := [Cond.code yX5_left cX5_left 2 (some .int), Cond.methodLink RX5 78 yX5_of, Cond.instanceMethod yX5_of, Cond.selects RX5 yX5_of yX5_of, Cond.code yX5_of cX5_of 6 (some .int)]
def wsX5_used : List Cond := .code yX5_used cX5_used 6 (some .int) :: ((wsX5_used_r1 ++ wsX5_used_r2) ++ wsX50)
def wsX5_home_r1 : List Cond := [Cond.fieldLink RX5 13 "KnotBandModel" "rows" "[I", Cond.fieldLink RX5 37 "KnotBandModel" "now" "[I", Cond.fieldLink RX5 40 "KnotBandModel" "then" "[I", Cond.fieldLink RX5 34 "KnotBandModel" "at" "[I", Cond.fieldLink RX5 7 "KnotBandModel" "threads" "[I", Cond.fieldLink RX5 16 "KnotBandModel" "colours" "[I", Cond.methodLink RX5 59 yX5_isBand, Cond.instanceMethod yX5_isBand, Cond.selects RX5 yX5_isBand yX5_isBand, Cond.initialized RX5, Cond.code yX5_isBand cX5_isBand 2 (some .boolean), Cond.fieldLink RX5 48 "KnotBandModel" "thrown" "I", Cond.fieldLink RX5 52 "KnotBandModel" "bands" "I", Cond.methodLink RX5 55 yX5_right, Cond.instanceMethod yX5_right, Cond.selects RX5 yX5_right yX5_right, Cond.code yX5_right cX5_right 3 (some .boolean), Cond.methodLink RX5 74 yX5_stands, Cond.instanceMethod yX5_stands, Cond.selects RX5 yX5_stands yX5_stands, Cond.code yX5_stands cX5_stands 7 none, Cond.fieldLink RX5 19 "KnotBandModel" "kinds" "[I", Cond.methodLink RX5 63 yX5_knots, Cond.static yX5_knots]
def wsX5_home_r2 : List Cond := [Cond.code yX5_knots cX5_knots 2 (some .int), Cond.methodLink RX5 71 yX5_left, Cond.static yX5_left, Cond.code yX5_left cX5_left 2 (some .int)]
def wsX5_home : List Cond := .code yX5_home cX5_home 6 (some .int) :: ((wsX5_home_r1 ++ wsX5_home_r2) ++ wsX50)
def wsX5_unlike_r1 : List Cond := [Cond.fieldLink RX5 52 "KnotBandModel" "bands" "I", Cond.fieldLink RX5 7 "KnotBandModel" "threads" "[I", Cond.fieldLink RX5 13 "KnotBandModel" "rows" "[I", Cond.methodLink RX5 59 yX5_isBand, Cond.instanceMethod yX5_isBand, Cond.selects RX5 yX5_isBand yX5_isBand, Cond.initialized RX5, Cond.code yX5_isBand cX5_isBand 2 (some .boolean), Cond.fieldLink RX5 48 "KnotBandModel" "thrown" "I", Cond.methodLink RX5 55 yX5_right, Cond.instanceMethod yX5_right, Cond.selects RX5 yX5_right yX5_right, Cond.code yX5_right cX5_right 3 (some .boolean), Cond.methodLink RX5 63 yX5_knots, Cond.static yX5_knots, Cond.code yX5_knots cX5_knots 2 (some .int), Cond.methodLink RX5 82 yX5_showsOf, Cond.instanceMethod yX5_showsOf, Cond.selects RX5 yX5_showsOf yX5_showsOf, Cond.code yX5_showsOf cX5_showsOf 4 (some .int), Cond.fieldLink RX5 16 "KnotBandModel" "colours" "[I", Cond.methodLink RX5 74 yX5_stands, Cond.instanceMethod yX5_stands, Cond.selects RX5 yX5_stands yX5_stands]
def wsX5_unlike_r2 : List Cond := [Cond.code yX5_stands cX5_stands 7 none, Cond.fieldLink RX5 34 "KnotBandModel" "at" "[I", Cond.fieldLink RX5 19 "KnotBandModel" "kinds" "[I", Cond.methodLink RX5 71 yX5_left, Cond.static yX5_left, Cond.code yX5_left cX5_left 2 (some .int), Cond.methodLink RX5 78 yX5_of, Cond.instanceMethod yX5_of, Cond.selects RX5 yX5_of yX5_of, Cond.code yX5_of cX5_of 6 (some .int)]
def wsX5_unlike : List Cond := .code yX5_unlike cX5_unlike 6 (some .int) :: ((wsX5_unlike_r1 ++ wsX5_unlike_r2) ++ wsX50)
def wsX5_isPicture : List Cond := .code yX5_isPicture cX5_isPicture 2 (some .boolean) :: ([.fieldLink RX5 48 "KnotBandModel" "thrown" "I", .fieldLink RX5 86 "KnotBandModel" "pictures" "I", .methodLink RX5 55 yX5_right, .instanceMethod yX5_right, .selects RX5 yX5_right yX5_right, .initialized RX5, .code yX5_right cX5_right 3 (some .boolean)] ++ wsX50)
def wsX5_picture : List Cond := .code yX5_picture cX5_picture 4 (some .int) :: ([.fieldLink RX5 48 "KnotBandModel" "thrown" "I", .fieldLink RX5 86 "KnotBandModel" "pictures" "I", .fieldLink RX5 22 "KnotBandModel" "width" "[I", .fieldLink RX5 25 "KnotBandModel" "high" "[I", .fieldLink RX5 28 "KnotBandModel" "seen" "[I", .fieldLink RX5 31 "KnotBandModel" "must" "[I"] ++ wsX50)
def wsX5_see : List Cond := .code yX5_see cX5_see 6 (some .int) :: ([.fieldLink RX5 25 "KnotBandModel" "high" "[I", .fieldLink RX5 22 "KnotBandModel" "width" "[I", .fieldLink RX5 28 "KnotBandModel" "seen" "[I", .methodLink RX5 89 yX5_isPicture, .instanceMethod yX5_isPicture, .selects RX5 yX5_isPicture yX5_isPicture, .initialized RX5, .code yX5_isPicture cX5_isPicture 2 (some .boolean), .fieldLink RX5 48 "KnotBandModel" "thrown" "I", .fieldLink RX5 86 "KnotBandModel" "pictures" "I", .methodLink RX5 55 yX5_right, .instanceMethod yX5_right, .selects RX5 yX5_right yX5_right, .code yX5_right cX5_right 3 (some .boolean), .methodLink RX5 63 yX5_knots, .static yX5_knots, .code yX5_knots cX5_knots 2 (some .int)] ++ wsX50)
def wsX5_must : List Cond := .code yX5_must cX5_must 5 (some .int) :: ([.fieldLink RX5 22 "KnotBandModel" "width" "[I", .fieldLink RX5 31 "KnotBandModel" "must" "[I", .methodLink RX5 89 yX5_isPicture, .instanceMethod yX5_isPicture, .selects RX5 yX5_isPicture yX5_isPicture, .initialized RX5, .code yX5_isPicture cX5_isPicture 2 (some .boolean), .fieldLink RX5 48 "KnotBandModel" "thrown" "I", .fieldLink RX5 86 "KnotBandModel" "pictures" "I", .methodLink RX5 55 yX5_right, .instanceMethod yX5_right, .selects RX5 yX5_right yX5_right, .code yX5_right cX5_right 3 (some .boolean)] ++ wsX50)
def wsX5_copy_r1 : List Cond := [Cond.fieldLink RX5 52 "KnotBandModel" "bands" "I", Cond.fieldLink RX5 22 "KnotBandModel" "width" "[I", Cond.fieldLink RX5 7 "KnotBandModel" "threads" "[I", Cond.fieldLink RX5 25 "KnotBandModel" "high" "[I", Cond.fieldLink RX5 13 "KnotBandModel" "rows" "[I", Cond.fieldLink RX5 28 "KnotBandModel" "seen" "[I", Cond.methodLink RX5 89 yX5_isPicture, Cond.instanceMethod yX5_isPicture, Cond.selects RX5 yX5_isPicture yX5_isPicture, Cond.initialized RX5, Cond.code yX5_isPicture cX5_isPicture 2 (some .boolean), Cond.fieldLink RX5 48 "KnotBandModel" "thrown" "I", Cond.fieldLink RX5 86 "KnotBandModel" "pictures" "I", Cond.methodLink RX5 55 yX5_right, Cond.instanceMethod yX5_right, Cond.selects RX5 yX5_right yX5_right, Cond.code yX5_right cX5_right 3 (some .boolean), Cond.methodLink RX5 63 yX5_knots, Cond.static yX5_knots, Cond.code yX5_knots cX5_knots 2 (some .int), Cond.methodLink RX5 82 yX5_showsOf, Cond.instanceMethod yX5_showsOf, Cond.selects RX5 yX5_showsOf yX5_showsOf, Cond.code yX5_showsOf cX5_showsOf 4 (some .int)]
def wsX5_copy_r2 : List Cond := [Cond.fieldLink RX5 16 "KnotBandModel" "colours" "[I", Cond.methodLink RX5 74 yX5_stands, Cond.instanceMethod yX5_stands, Cond.selects RX5 yX5_stands yX5_stands, Cond.code yX5_stands cX5_stands 7 none, Cond.fieldLink RX5 34 "KnotBandModel" "at" "[I", Cond.fieldLink RX5 19 "KnotBandModel" "kinds" "[I", Cond.methodLink RX5 71 yX5_left, Cond.static yX5_left, Cond.code yX5_left cX5_left 2 (some .int), Cond.methodLink RX5 78 yX5_of, Cond.instanceMethod yX5_of, Cond.selects RX5 yX5_of yX5_of, Cond.code yX5_of cX5_of 6 (some .int)]
def wsX5_copy : List Cond := .code yX5_copy cX5_copy 5 (some .boolean) :: ((wsX5_copy_r1 ++ wsX5_copy_r2) ++ wsX50)
def wsX5_digit : List Cond := .code yX5_digit cX5_digit 3 (some .int) :: ([])
def wsX5_swapped : List Cond := .code yX5_swapped cX5_swapped 6 (some .int) :: ([])
def wsX5_changed : List Cond := .code yX5_changed cX5_changed 6 (some .int) :: ([.methodLink RX5 63 yX5_knots, .static yX5_knots, .initialized RX5, .code yX5_knots cX5_knots 2 (some .int), .methodLink RX5 71 yX5_left, .static yX5_left, .code yX5_left cX5_left 2 (some .int), .methodLink RX5 92 yX5_swapped, .static yX5_swapped, .code yX5_swapped cX5_swapped 6 (some .int)])
def wsX5_fits : List Cond := .code yX5_fits cX5_fits 7 (some .boolean) :: ([.fieldLink RX5 22 "KnotBandModel" "width" "[I", .fieldLink RX5 28 "KnotBandModel" "seen" "[I", .methodLink RX5 63 yX5_knots, .static yX5_knots, .initialized RX5, .code yX5_knots cX5_knots 2 (some .int), .methodLink RX5 71 yX5_left, .static yX5_left, .code yX5_left cX5_left 2 (some .int), .methodLink RX5 95 yX5_digit, .static yX5_digit, .code yX5_digit cX5_digit 3 (some .int)] ++ wsX50)
def wsX5_states : List Cond := .code yX5_states cX5_states 2 (some .int) :: ([.fieldLink RX5 22 "KnotBandModel" "width" "[I"] ++ wsX50)
def wsX5_leadsBack_r1 : List Cond := [Cond.fieldLink RX5 22 "KnotBandModel" "width" "[I", Cond.fieldLink RX5 44 "KnotBandModel" "can" "[Z", Cond.fieldLink RX5 25 "KnotBandModel" "high" "[I", Cond.methodLink RX5 98 yX5_states, Cond.instanceMethod yX5_states, Cond.selects RX5 yX5_states yX5_states, Cond.initialized RX5, Cond.code yX5_states cX5_states 2 (some .int), Cond.methodLink RX5 102 yX5_fits, Cond.instanceMethod yX5_fits, Cond.selects RX5 yX5_fits yX5_fits, Cond.code yX5_fits cX5_fits 7 (some .boolean), Cond.fieldLink RX5 28 "KnotBandModel" "seen" "[I", Cond.methodLink RX5 63 yX5_knots, Cond.static yX5_knots, Cond.code yX5_knots cX5_knots 2 (some .int), Cond.methodLink RX5 71 yX5_left, Cond.static yX5_left, Cond.code yX5_left cX5_left 2 (some .int), Cond.methodLink RX5 95 yX5_digit, Cond.static yX5_digit, Cond.code yX5_digit cX5_digit 3 (some .int), Cond.methodLink RX5 105 yX5_changed, Cond.static yX5_changed]
def wsX5_leadsBack_r2 : List Cond := [Cond.code yX5_changed cX5_changed 6 (some .int), Cond.methodLink RX5 92 yX5_swapped, Cond.static yX5_swapped, Cond.code yX5_swapped cX5_swapped 6 (some .int)]
def wsX5_leadsBack : List Cond := .code yX5_leadsBack cX5_leadsBack 6 none :: ((wsX5_leadsBack_r1 ++ wsX5_leadsBack_r2) ++ wsX50)
def wsX5_isStart : List Cond := .code yX5_isStart cX5_isStart 5 (some .boolean) :: ([.fieldLink RX5 44 "KnotBandModel" "can" "[Z", .fieldLink RX5 22 "KnotBandModel" "width" "[I", .fieldLink RX5 31 "KnotBandModel" "must" "[I", .methodLink RX5 95 yX5_digit, .static yX5_digit, .initialized RX5, .code yX5_digit cX5_digit 3 (some .int)] ++ wsX50)
def wsX5_first_r1 : List Cond := [Cond.methodLink RX5 109 yX5_leadsBack, Cond.instanceMethod yX5_leadsBack, Cond.selects RX5 yX5_leadsBack yX5_leadsBack, Cond.initialized RX5, Cond.code yX5_leadsBack cX5_leadsBack 6 none, Cond.fieldLink RX5 22 "KnotBandModel" "width" "[I", Cond.fieldLink RX5 44 "KnotBandModel" "can" "[Z", Cond.fieldLink RX5 25 "KnotBandModel" "high" "[I", Cond.methodLink RX5 98 yX5_states, Cond.instanceMethod yX5_states, Cond.selects RX5 yX5_states yX5_states, Cond.code yX5_states cX5_states 2 (some .int), Cond.methodLink RX5 102 yX5_fits, Cond.instanceMethod yX5_fits, Cond.selects RX5 yX5_fits yX5_fits, Cond.code yX5_fits cX5_fits 7 (some .boolean), Cond.fieldLink RX5 28 "KnotBandModel" "seen" "[I", Cond.methodLink RX5 63 yX5_knots, Cond.static yX5_knots, Cond.code yX5_knots cX5_knots 2 (some .int), Cond.methodLink RX5 71 yX5_left, Cond.static yX5_left, Cond.code yX5_left cX5_left 2 (some .int), Cond.methodLink RX5 95 yX5_digit]
def wsX5_first_r2 : List Cond := [Cond.static yX5_digit, Cond.code yX5_digit cX5_digit 3 (some .int), Cond.methodLink RX5 105 yX5_changed, Cond.static yX5_changed, Cond.code yX5_changed cX5_changed 6 (some .int), Cond.methodLink RX5 92 yX5_swapped, Cond.static yX5_swapped, Cond.code yX5_swapped cX5_swapped 6 (some .int), Cond.methodLink RX5 113 yX5_isStart, Cond.instanceMethod yX5_isStart, Cond.selects RX5 yX5_isStart yX5_isStart, Cond.code yX5_isStart cX5_isStart 5 (some .boolean), Cond.fieldLink RX5 31 "KnotBandModel" "must" "[I"]
def wsX5_first : List Cond := .code yX5_first cX5_first 3 (some .int) :: ((wsX5_first_r1 ++ wsX5_first_r2) ++ wsX50)
def wsX5_starts_r1 : List Cond := [Cond.methodLink RX5 89 yX5_isPicture, Cond.instanceMethod yX5_isPicture, Cond.selects RX5 yX5_isPicture yX5_isPicture, Cond.initialized RX5, Cond.code yX5_isPicture cX5_isPicture 2 (some .boolean), Cond.fieldLink RX5 48 "KnotBandModel" "thrown" "I", Cond.fieldLink RX5 86 "KnotBandModel" "pictures" "I", Cond.methodLink RX5 55 yX5_right, Cond.instanceMethod yX5_right, Cond.selects RX5 yX5_right yX5_right, Cond.code yX5_right cX5_right 3 (some .boolean), Cond.methodLink RX5 109 yX5_leadsBack, Cond.instanceMethod yX5_leadsBack, Cond.selects RX5 yX5_leadsBack yX5_leadsBack, Cond.code yX5_leadsBack cX5_leadsBack 6 none, Cond.fieldLink RX5 22 "KnotBandModel" "width" "[I", Cond.fieldLink RX5 44 "KnotBandModel" "can" "[Z", Cond.fieldLink RX5 25 "KnotBandModel" "high" "[I", Cond.methodLink RX5 98 yX5_states, Cond.instanceMethod yX5_states, Cond.selects RX5 yX5_states yX5_states, Cond.code yX5_states cX5_states 2 (some .int), Cond.methodLink RX5 102 yX5_fits, Cond.instanceMethod yX5_fits]
def wsX5_starts_r2 : List Cond := [Cond.selects RX5 yX5_fits yX5_fits, Cond.code yX5_fits cX5_fits 7 (some .boolean), Cond.fieldLink RX5 28 "KnotBandModel" "seen" "[I", Cond.methodLink RX5 63 yX5_knots, Cond.static yX5_knots, Cond.code yX5_knots cX5_knots 2 (some .int), Cond.methodLink RX5 71 yX5_left, Cond.static yX5_left, Cond.code yX5_left cX5_left 2 (some .int), Cond.methodLink RX5 95 yX5_digit, Cond.static yX5_digit, Cond.code yX5_digit cX5_digit 3 (some .int), Cond.methodLink RX5 105 yX5_changed, Cond.static yX5_changed, Cond.code yX5_changed cX5_changed 6 (some .int), Cond.methodLink RX5 92 yX5_swapped, Cond.static yX5_swapped, Cond.code yX5_swapped cX5_swapped 6 (some .int), Cond.methodLink RX5 113 yX5_isStart, Cond.instanceMethod yX5_isStart, Cond.selects RX5 yX5_isStart yX5_isStart, Cond.code yX5_isStart cX5_isStart 5 (some .boolean), Cond.fieldLink RX5 31 "KnotBandModel" "must" "[I"]
def wsX5_starts : List Cond := .code yX5_starts cX5_starts 4 (some .int) :: ((wsX5_starts_r1 ++ wsX5_starts_r2) ++ wsX50)
def wsX5_start_r1 : List Cond := [Cond.fieldLink RX5 22 "KnotBandModel" "width" "[I", Cond.methodLink RX5 89 yX5_isPicture, Cond.instanceMethod yX5_isPicture, Cond.selects RX5 yX5_isPicture yX5_isPicture, Cond.initialized RX5, Cond.code yX5_isPicture cX5_isPicture 2 (some .boolean), Cond.fieldLink RX5 48 "KnotBandModel" "thrown" "I", Cond.fieldLink RX5 86 "KnotBandModel" "pictures" "I", Cond.methodLink RX5 55 yX5_right, Cond.instanceMethod yX5_right, Cond.selects RX5 yX5_right yX5_right, Cond.code yX5_right cX5_right 3 (some .boolean), Cond.methodLink RX5 117 yX5_first, Cond.instanceMethod yX5_first, Cond.selects RX5 yX5_first yX5_first, Cond.code yX5_first cX5_first 3 (some .int), Cond.methodLink RX5 109 yX5_leadsBack, Cond.instanceMethod yX5_leadsBack, Cond.selects RX5 yX5_leadsBack yX5_leadsBack, Cond.code yX5_leadsBack cX5_leadsBack 6 none, Cond.fieldLink RX5 44 "KnotBandModel" "can" "[Z", Cond.fieldLink RX5 25 "KnotBandModel" "high" "[I", Cond.methodLink RX5 98 yX5_states, Cond.instanceMethod yX5_states]
def wsX5_start_r2 : List Cond := [Cond.selects RX5 yX5_states yX5_states, Cond.code yX5_states cX5_states 2 (some .int), Cond.methodLink RX5 102 yX5_fits, Cond.instanceMethod yX5_fits, Cond.selects RX5 yX5_fits yX5_fits, Cond.code yX5_fits cX5_fits 7 (some .boolean), Cond.fieldLink RX5 28 "KnotBandModel" "seen" "[I", Cond.methodLink RX5 63 yX5_knots, Cond.static yX5_knots, Cond.code yX5_knots cX5_knots 2 (some .int), Cond.methodLink RX5 71 yX5_left, Cond.static yX5_left, Cond.code yX5_left cX5_left 2 (some .int), Cond.methodLink RX5 95 yX5_digit, Cond.static yX5_digit, Cond.code yX5_digit cX5_digit 3 (some .int), Cond.methodLink RX5 105 yX5_changed, Cond.static yX5_changed, Cond.code yX5_changed cX5_changed 6 (some .int), Cond.methodLink RX5 92 yX5_swapped, Cond.static yX5_swapped, Cond.code yX5_swapped cX5_swapped 6 (some .int), Cond.methodLink RX5 113 yX5_isStart, Cond.instanceMethod yX5_isStart]
def wsX5_start_r3 : List Cond := [Cond.selects RX5 yX5_isStart yX5_isStart, Cond.code yX5_isStart cX5_isStart 5 (some .boolean), Cond.fieldLink RX5 31 "KnotBandModel" "must" "[I"]
def wsX5_start : List Cond := .code yX5_start cX5_start 4 (some .int) :: ((wsX5_start_r1 ++ (wsX5_start_r2 ++ wsX5_start_r3)) ++ wsX50)
def wsX5_isOpen : List Cond := .code yX5_isOpen cX5_isOpen 7 (some .boolean) :: ([.fieldLink RX5 22 "KnotBandModel" "width" "[I", .fieldLink RX5 44 "KnotBandModel" "can" "[Z", .methodLink RX5 63 yX5_knots, .static yX5_knots, .initialized RX5, .code yX5_knots cX5_knots 2 (some .int), .methodLink RX5 105 yX5_changed, .static yX5_changed, .code yX5_changed cX5_changed 6 (some .int), .methodLink RX5 71 yX5_left, .static yX5_left, .code yX5_left cX5_left 2 (some .int), .methodLink RX5 92 yX5_swapped, .static yX5_swapped, .code yX5_swapped cX5_swapped 6 (some .int)] ++ wsX50)
def wsX5_isKind : List Cond := .code yX5_isKind cX5_isKind 7 (some .boolean) :: ([.methodLink RX5 71 yX5_left, .static yX5_left, .initialized RX5, .code yX5_left cX5_left 2 (some .int), .methodLink RX5 95 yX5_digit, .static yX5_digit, .code yX5_digit cX5_digit 3 (some .int)])
def wsX5_tie_r1 : List Cond := [Cond.fieldLink RX5 52 "KnotBandModel" "bands" "I", Cond.fieldLink RX5 22 "KnotBandModel" "width" "[I", Cond.fieldLink RX5 7 "KnotBandModel" "threads" "[I", Cond.fieldLink RX5 13 "KnotBandModel" "rows" "[I", Cond.fieldLink RX5 25 "KnotBandModel" "high" "[I", Cond.fieldLink RX5 16 "KnotBandModel" "colours" "[I", Cond.fieldLink RX5 28 "KnotBandModel" "seen" "[I", Cond.fieldLink RX5 19 "KnotBandModel" "kinds" "[I", Cond.methodLink RX5 89 yX5_isPicture, Cond.instanceMethod yX5_isPicture, Cond.selects RX5 yX5_isPicture yX5_isPicture, Cond.initialized RX5, Cond.code yX5_isPicture cX5_isPicture 2 (some .boolean), Cond.fieldLink RX5 48 "KnotBandModel" "thrown" "I", Cond.fieldLink RX5 86 "KnotBandModel" "pictures" "I", Cond.methodLink RX5 55 yX5_right, Cond.instanceMethod yX5_right, Cond.selects RX5 yX5_right yX5_right, Cond.code yX5_right cX5_right 3 (some .boolean), Cond.methodLink RX5 117 yX5_first, Cond.instanceMethod yX5_first, Cond.selects RX5 yX5_first yX5_first, Cond.code yX5_first cX5_first 3 (some .int), Cond.methodLink RX5 109 yX5_leadsBack]
def wsX5_tie_r2 : List Cond := [Cond.instanceMethod yX5_leadsBack, Cond.selects RX5 yX5_leadsBack yX5_leadsBack, Cond.code yX5_leadsBack cX5_leadsBack 6 none, Cond.fieldLink RX5 44 "KnotBandModel" "can" "[Z", Cond.methodLink RX5 98 yX5_states, Cond.instanceMethod yX5_states, Cond.selects RX5 yX5_states yX5_states, Cond.code yX5_states cX5_states 2 (some .int), Cond.methodLink RX5 102 yX5_fits, Cond.instanceMethod yX5_fits, Cond.selects RX5 yX5_fits yX5_fits, Cond.code yX5_fits cX5_fits 7 (some .boolean), Cond.methodLink RX5 63 yX5_knots, Cond.static yX5_knots, Cond.code yX5_knots cX5_knots 2 (some .int), Cond.methodLink RX5 71 yX5_left, Cond.static yX5_left, Cond.code yX5_left cX5_left 2 (some .int), Cond.methodLink RX5 95 yX5_digit, Cond.static yX5_digit, Cond.code yX5_digit cX5_digit 3 (some .int), Cond.methodLink RX5 105 yX5_changed, Cond.static yX5_changed, Cond.code yX5_changed cX5_changed 6 (some .int)]
def wsX5_tie_r3 : List Cond := [Cond.methodLink RX5 92 yX5_swapped, Cond.static yX5_swapped, Cond.code yX5_swapped cX5_swapped 6 (some .int), Cond.methodLink RX5 113 yX5_isStart, Cond.instanceMethod yX5_isStart, Cond.selects RX5 yX5_isStart yX5_isStart, Cond.code yX5_isStart cX5_isStart 5 (some .boolean), Cond.fieldLink RX5 31 "KnotBandModel" "must" "[I", Cond.methodLink RX5 120 yX5_isKind, Cond.instanceMethod yX5_isKind, Cond.selects RX5 yX5_isKind yX5_isKind, Cond.code yX5_isKind cX5_isKind 7 (some .boolean), Cond.methodLink RX5 124 yX5_isOpen, Cond.instanceMethod yX5_isOpen, Cond.selects RX5 yX5_isOpen yX5_isOpen, Cond.code yX5_isOpen cX5_isOpen 7 (some .boolean)]
def wsX5_tie : List Cond := .code yX5_tie cX5_tie 10 (some .int) :: ((wsX5_tie_r1 ++ (wsX5_tie_r2 ++ wsX5_tie_r3)) ++ wsX50)
def wsX5_suspect_r1 : List Cond := [Cond.fieldLink RX5 25 "KnotBandModel" "high" "[I", Cond.fieldLink RX5 22 "KnotBandModel" "width" "[I", Cond.fieldLink RX5 28 "KnotBandModel" "seen" "[I", Cond.methodLink RX5 89 yX5_isPicture, Cond.instanceMethod yX5_isPicture, Cond.selects RX5 yX5_isPicture yX5_isPicture, Cond.initialized RX5, Cond.code yX5_isPicture cX5_isPicture 2 (some .boolean), Cond.fieldLink RX5 48 "KnotBandModel" "thrown" "I", Cond.fieldLink RX5 86 "KnotBandModel" "pictures" "I", Cond.methodLink RX5 55 yX5_right, Cond.instanceMethod yX5_right, Cond.selects RX5 yX5_right yX5_right, Cond.code yX5_right cX5_right 3 (some .boolean), Cond.methodLink RX5 117 yX5_first, Cond.instanceMethod yX5_first, Cond.selects RX5 yX5_first yX5_first, Cond.code yX5_first cX5_first 3 (some .int), Cond.methodLink RX5 109 yX5_leadsBack, Cond.instanceMethod yX5_leadsBack, Cond.selects RX5 yX5_leadsBack yX5_leadsBack, Cond.code yX5_leadsBack cX5_leadsBack 6 none, Cond.fieldLink RX5 44 "KnotBandModel" "can" "[Z", Cond.methodLink RX5 98 yX5_states]
def wsX5_suspect_r2 : List Cond := [Cond.instanceMethod yX5_states, Cond.selects RX5 yX5_states yX5_states, Cond.code yX5_states cX5_states 2 (some .int), Cond.methodLink RX5 102 yX5_fits, Cond.instanceMethod yX5_fits, Cond.selects RX5 yX5_fits yX5_fits, Cond.code yX5_fits cX5_fits 7 (some .boolean), Cond.methodLink RX5 63 yX5_knots, Cond.static yX5_knots, Cond.code yX5_knots cX5_knots 2 (some .int), Cond.methodLink RX5 71 yX5_left, Cond.static yX5_left, Cond.code yX5_left cX5_left 2 (some .int), Cond.methodLink RX5 95 yX5_digit, Cond.static yX5_digit, Cond.code yX5_digit cX5_digit 3 (some .int), Cond.methodLink RX5 105 yX5_changed, Cond.static yX5_changed, Cond.code yX5_changed cX5_changed 6 (some .int), Cond.methodLink RX5 92 yX5_swapped, Cond.static yX5_swapped, Cond.code yX5_swapped cX5_swapped 6 (some .int), Cond.methodLink RX5 113 yX5_isStart, Cond.instanceMethod yX5_isStart]
def wsX5_suspect_r3 : List Cond := [Cond.selects RX5 yX5_isStart yX5_isStart, Cond.code yX5_isStart cX5_isStart 5 (some .boolean), Cond.fieldLink RX5 31 "KnotBandModel" "must" "[I"]
def wsX5_suspect : List Cond := .code yX5_suspect cX5_suspect 10 (some .int) :: ((wsX5_suspect_r1 ++ (wsX5_suspect_r2 ++ wsX5_suspect_r3)) ++ wsX50)
def wsX5_count : List Cond := .code yX5_count cX5_count 2 (some .int) :: ([.fieldLink RX5 48 "KnotBandModel" "thrown" "I", .fieldLink RX5 52 "KnotBandModel" "bands" "I", .fieldLink RX5 86 "KnotBandModel" "pictures" "I", .methodLink RX5 55 yX5_right, .instanceMethod yX5_right, .selects RX5 yX5_right yX5_right, .initialized RX5, .code yX5_right cX5_right 3 (some .boolean)] ++ wsX50)
def wsL_colour : List Cond := .codeWith yL_colour cL_colour 6 (some .int) [(0, 12, 15, 13), (0, 12, 19, 15)] :: ([.classLink RL 13 "java/util/NoSuchElementException", .classLink RL 15 "java/lang/IllegalArgumentException", .methodLink RL 7 yX4_colour, .instanceMethod yX4_colour, .selects RX4 yX4_colour yX4_colour, .initialized RX4, .code yX4_colour cX4_colour 6 (some .int), .methodLink RX4 44 yX4_bandAt, .instanceMethod yX4_bandAt, .selects RX4 yX4_bandAt yX4_bandAt, .code yX4_bandAt cX4_bandAt 2 (some (.object "KnotBand$Band")), .fieldLink RX4 28 "KnotBand" "bandCount" "I", .fieldLink RX4 11 "KnotBand" "bands" "[LKnotBand$Band;", .methodLink RX4 48 yX4_needElement, .static yX4_needElement, .code yX4_needElement cX4_needElement 2 none, .classLink RX4 147 "java/util/NoSuchElementException", .initialized "java/util/NoSuchElementException", .methodLink RX4 52 yX4_needArgument, .static yX4_needArgument, .code yX4_needArgument cX4_needArgument 2 none, .classLink RX4 96 "java/lang/IllegalArgumentException", .initialized "java/lang/IllegalArgumentException"] ++ wsX00 ++ wsX40 ++ (vx_atN RX4 151).filter goodWord ++ (vx_atS RX4 100 "java/lang/IllegalArgumentException" ["java/lang/RuntimeException", "java/lang/Exception"]).filter goodWord)
def wsL_row : List Cond := .codeWith yL_row cL_row 5 (some .int) [(0, 10, 13, 13)] :: ([.classLink RL 13 "java/util/NoSuchElementException", .methodLink RL 17 yX4_row, .instanceMethod yX4_row, .selects RX4 yX4_row yX4_row, .initialized RX4, .code yX4_row cX4_row 4 (some .int), .methodLink RX4 44 yX4_bandAt, .instanceMethod yX4_bandAt, .selects RX4 yX4_bandAt yX4_bandAt, .code yX4_bandAt cX4_bandAt 2 (some (.object "KnotBand$Band")), .fieldLink RX4 28 "KnotBand" "bandCount" "I", .fieldLink RX4 11 "KnotBand" "bands" "[LKnotBand$Band;", .methodLink RX4 48 yX4_needElement, .static yX4_needElement, .code yX4_needElement cX4_needElement 2 none, .classLink RX4 147 "java/util/NoSuchElementException", .initialized "java/util/NoSuchElementException"] ++ wsX00 ++ wsX40 ++ (vx_atN RX4 151).filter goodWord)
def wsL_knot_r1 : List Cond := [Cond.classLink RL 13 "java/util/NoSuchElementException", Cond.classLink RL 15 "java/lang/IllegalArgumentException", Cond.methodLink RL 21 yX4_knot, Cond.instanceMethod yX4_knot, Cond.selects RX4 yX4_knot yX4_knot, Cond.initialized RX4, Cond.code yX4_knot cX4_knot 7 (some .int), Cond.methodLink RX4 44 yX4_bandAt, Cond.instanceMethod yX4_bandAt, Cond.selects RX4 yX4_bandAt yX4_bandAt, Cond.code yX4_bandAt cX4_bandAt 2 (some (.object "KnotBand$Band")), Cond.fieldLink RX4 28 "KnotBand" "bandCount" "I", Cond.fieldLink RX4 11 "KnotBand" "bands" "[LKnotBand$Band;", Cond.methodLink RX4 48 yX4_needElement, Cond.static yX4_needElement, Cond.code yX4_needElement cX4_needElement 2 none, Cond.classLink RX4 147 "java/util/NoSuchElementException", Cond.initialized "java/util/NoSuchElementException", Cond.methodLink RX4 65 yX4_knotsIn, Cond.static yX4_knotsIn, Cond.code yX4_knotsIn cX4_knotsIn 2 (some .int), Cond.methodLink RX4 69 yX4_kindIn, Cond.static yX4_kindIn, Cond.code yX4_kindIn cX4_kindIn 2 (some .int)]
def wsL_knot_r2 : List Cond := [Cond.methodLink RX4 52 yX4_needArgument, Cond.static yX4_needArgument, Cond.code yX4_needArgument cX4_needArgument 2 none, Cond.classLink RX4 96 "java/lang/IllegalArgumentException", Cond.initialized "java/lang/IllegalArgumentException", Cond.methodLink RX4 72 yX4_withKind, Cond.static yX4_withKind, Cond.code yX4_withKind cX4_withKind 3 (some .int)]
def wsL_knot : List Cond := .codeWith yL_knot cL_knot 7 (some .int) [(0, 14, 17, 13), (0, 14, 21, 15)] :: ((wsL_knot_r1 ++ wsL_knot_r2) ++ wsX00 ++ wsX40 ++ (vx_atN RX4 151).filter goodWord ++ (vx_atS RX4 100 "java/lang/IllegalArgumentException" ["java/lang/RuntimeException", "java/lang/Exception"]).filter goodWord)
def wsL_shows_r1 : List Cond := [Cond.classLink RL 13 "java/util/NoSuchElementException", Cond.methodLink RL 25 yX4_shows, Cond.instanceMethod yX4_shows, Cond.selects RX4 yX4_shows yX4_shows, Cond.initialized RX4, Cond.code yX4_shows cX4_shows 5 (some .int), Cond.methodLink RX4 44 yX4_bandAt, Cond.instanceMethod yX4_bandAt, Cond.selects RX4 yX4_bandAt yX4_bandAt, Cond.code yX4_bandAt cX4_bandAt 2 (some (.object "KnotBand$Band")), Cond.fieldLink RX4 28 "KnotBand" "bandCount" "I", Cond.fieldLink RX4 11 "KnotBand" "bands" "[LKnotBand$Band;", Cond.methodLink RX4 48 yX4_needElement, Cond.static yX4_needElement, Cond.code yX4_needElement cX4_needElement 2 none, Cond.classLink RX4 147 "java/util/NoSuchElementException", Cond.initialized "java/util/NoSuchElementException", Cond.methodLink RX4 65 yX4_knotsIn, Cond.static yX4_knotsIn, Cond.code yX4_knotsIn cX4_knotsIn 2 (some .int), Cond.methodLink RX4 76 yX0_walk, Cond.instanceMethod yX0_walk, Cond.selects RX0 yX0_walk yX0_walk, Cond.initialized RX0]
def wsL_shows_r2 : List Cond := [Cond.code yX0_walk cX0_walk 5 none, Cond.fieldLink RX0 18 "KnotBand$Band" "threads" "I", Cond.fieldLink RX0 25 "KnotBand$Band" "standing" "[I", Cond.fieldLink RX0 28 "KnotBand$Band" "spent" "[I", Cond.methodLink RX0 52 yX0_walkKnot, Cond.instanceMethod yX0_walkKnot, Cond.selects RX0 yX0_walkKnot yX0_walkKnot, Cond.code yX0_walkKnot cX0_walkKnot 9 none, Cond.fieldLink RX0 15 "KnotBand$Band" "kinds" "[I", Cond.fieldLink RX0 31 "KnotBand$Band" "shown" "[I", Cond.fieldLink RX0 9 "KnotBand$Band" "colours" "[I", Cond.static yX4_leftPlaceOf, Cond.code yX4_leftPlaceOf cX4_leftPlaceOf 2 (some .int), Cond.static yX4_kindIn, Cond.code yX4_kindIn cX4_kindIn 2 (some .int), Cond.static yX4_showingPlace, Cond.code yX4_showingPlace cX4_showingPlace 2 (some .int), Cond.static yX4_spotOf, Cond.code yX4_spotOf cX4_spotOf 2 (some .int), Cond.methodLink RX4 83 yX4_spotOf]
def wsL_shows : List Cond := .codeWith yL_shows cL_shows 6 (some .int) [(0, 12, 15, 13)] :: ((wsL_shows_r1 ++ wsL_shows_r2) ++ wsX00 ++ wsX40 ++ (vx_atN RX4 151).filter goodWord)
def wsL_thread_r1 : List Cond := [Cond.classLink RL 13 "java/util/NoSuchElementException", Cond.methodLink RL 28 yX4_thread, Cond.instanceMethod yX4_thread, Cond.selects RX4 yX4_thread yX4_thread, Cond.initialized RX4, Cond.code yX4_thread cX4_thread 5 (some .int), Cond.methodLink RX4 44 yX4_bandAt, Cond.instanceMethod yX4_bandAt, Cond.selects RX4 yX4_bandAt yX4_bandAt, Cond.code yX4_bandAt cX4_bandAt 2 (some (.object "KnotBand$Band")), Cond.fieldLink RX4 28 "KnotBand" "bandCount" "I", Cond.fieldLink RX4 11 "KnotBand" "bands" "[LKnotBand$Band;", Cond.methodLink RX4 48 yX4_needElement, Cond.static yX4_needElement, Cond.code yX4_needElement cX4_needElement 2 none, Cond.classLink RX4 147 "java/util/NoSuchElementException", Cond.initialized "java/util/NoSuchElementException", Cond.methodLink RX4 76 yX0_walk, Cond.instanceMethod yX0_walk, Cond.selects RX0 yX0_walk yX0_walk, Cond.initialized RX0, Cond.code yX0_walk cX0_walk 5 none, Cond.fieldLink RX0 18 "KnotBand$Band" "threads" "I", Cond.fieldLink RX0 25 "KnotBand$Band" "standing" "[I"]
def wsL_thread_r2 : List Cond := [Cond.fieldLink RX0 28 "KnotBand$Band" "spent" "[I", Cond.static yX4_knotsIn, Cond.code yX4_knotsIn cX4_knotsIn 2 (some .int), Cond.methodLink RX0 52 yX0_walkKnot, Cond.instanceMethod yX0_walkKnot, Cond.selects RX0 yX0_walkKnot yX0_walkKnot, Cond.code yX0_walkKnot cX0_walkKnot 9 none, Cond.fieldLink RX0 15 "KnotBand$Band" "kinds" "[I", Cond.fieldLink RX0 31 "KnotBand$Band" "shown" "[I", Cond.fieldLink RX0 9 "KnotBand$Band" "colours" "[I", Cond.static yX4_leftPlaceOf, Cond.code yX4_leftPlaceOf cX4_leftPlaceOf 2 (some .int), Cond.static yX4_kindIn, Cond.code yX4_kindIn cX4_kindIn 2 (some .int), Cond.static yX4_showingPlace, Cond.code yX4_showingPlace cX4_showingPlace 2 (some .int), Cond.static yX4_spotOf, Cond.code yX4_spotOf cX4_spotOf 2 (some .int)]
def wsL_thread : List Cond := .codeWith yL_thread cL_thread 6 (some .int) [(0, 12, 15, 13)] :: ((wsL_thread_r1 ++ wsL_thread_r2) ++ wsX00 ++ wsX40 ++ (vx_atN RX4 151).filter goodWord)
def wsL_used_r1 : List Cond := [Cond.classLink RL 13 "java/util/NoSuchElementException", Cond.methodLink RL 31 yX4_used, Cond.instanceMethod yX4_used, Cond.selects RX4 yX4_used yX4_used, Cond.initialized RX4, Cond.code yX4_used cX4_used 4 (some .int), Cond.methodLink RX4 44 yX4_bandAt, Cond.instanceMethod yX4_bandAt, Cond.selects RX4 yX4_bandAt yX4_bandAt, Cond.code yX4_bandAt cX4_bandAt 2 (some (.object "KnotBand$Band")), Cond.fieldLink RX4 28 "KnotBand" "bandCount" "I", Cond.fieldLink RX4 11 "KnotBand" "bands" "[LKnotBand$Band;", Cond.methodLink RX4 48 yX4_needElement, Cond.static yX4_needElement, Cond.code yX4_needElement cX4_needElement 2 none, Cond.classLink RX4 147 "java/util/NoSuchElementException", Cond.initialized "java/util/NoSuchElementException", Cond.methodLink RX4 76 yX0_walk, Cond.instanceMethod yX0_walk, Cond.selects RX0 yX0_walk yX0_walk, Cond.initialized RX0, Cond.code yX0_walk cX0_walk 5 none, Cond.fieldLink RX0 18 "KnotBand$Band" "threads" "I", Cond.fieldLink RX0 25 "KnotBand$Band" "standing" "[I"]
def wsL_used_r2 : List Cond := [Cond.fieldLink RX0 28 "KnotBand$Band" "spent" "[I", Cond.static yX4_knotsIn, Cond.code yX4_knotsIn cX4_knotsIn 2 (some .int), Cond.methodLink RX0 52 yX0_walkKnot, Cond.instanceMethod yX0_walkKnot, Cond.selects RX0 yX0_walkKnot yX0_walkKnot, Cond.code yX0_walkKnot cX0_walkKnot 9 none, Cond.fieldLink RX0 15 "KnotBand$Band" "kinds" "[I", Cond.fieldLink RX0 31 "KnotBand$Band" "shown" "[I", Cond.fieldLink RX0 9 "KnotBand$Band" "colours" "[I", Cond.static yX4_leftPlaceOf, Cond.code yX4_leftPlaceOf cX4_leftPlaceOf 2 (some .int), Cond.static yX4_kindIn, Cond.code yX4_kindIn cX4_kindIn 2 (some .int), Cond.static yX4_showingPlace, Cond.code yX4_showingPlace cX4_showingPlace 2 (some .int), Cond.static yX4_spotOf, Cond.code yX4_spotOf cX4_spotOf 2 (some .int)]
def wsL_used : List Cond := .codeWith yL_used cL_used 5 (some .int) [(0, 10, 13, 13)] :: ((wsL_used_r1 ++ wsL_used_r2) ++ wsX00 ++ wsX40 ++ (vx_atN RX4 151).filter goodWord)
def wsL_home_r1 : List Cond := [Cond.classLink RL 13 "java/util/NoSuchElementException", Cond.methodLink RL 34 yX4_home, Cond.instanceMethod yX4_home, Cond.selects RX4 yX4_home yX4_home, Cond.initialized RX4, Cond.code yX4_home cX4_home 4 (some .int), Cond.methodLink RX4 44 yX4_bandAt, Cond.instanceMethod yX4_bandAt, Cond.selects RX4 yX4_bandAt yX4_bandAt, Cond.code yX4_bandAt cX4_bandAt 2 (some (.object "KnotBand$Band")), Cond.fieldLink RX4 28 "KnotBand" "bandCount" "I", Cond.fieldLink RX4 11 "KnotBand" "bands" "[LKnotBand$Band;", Cond.methodLink RX4 48 yX4_needElement, Cond.static yX4_needElement, Cond.code yX4_needElement cX4_needElement 2 none, Cond.classLink RX4 147 "java/util/NoSuchElementException", Cond.initialized "java/util/NoSuchElementException", Cond.methodLink RX4 92 yX0_timesToHome, Cond.instanceMethod yX0_timesToHome, Cond.selects RX0 yX0_timesToHome yX0_timesToHome, Cond.initialized RX0, Cond.code yX0_timesToHome cX0_timesToHome 4 (some .int), Cond.fieldLink RX0 22 "KnotBand$Band" "rows" "I", Cond.fieldLink RX0 18 "KnotBand$Band" "threads" "I"]
def wsL_home_r2 : List Cond := [Cond.fieldLink RX0 34 "KnotBand$Band" "repeated" "[I", Cond.fieldLink RX0 25 "KnotBand$Band" "standing" "[I", Cond.methodLink RX0 68 yX0_walk, Cond.instanceMethod yX0_walk, Cond.selects RX0 yX0_walk yX0_walk, Cond.code yX0_walk cX0_walk 5 none, Cond.fieldLink RX0 28 "KnotBand$Band" "spent" "[I", Cond.static yX4_knotsIn, Cond.code yX4_knotsIn cX4_knotsIn 2 (some .int), Cond.methodLink RX0 52 yX0_walkKnot, Cond.instanceMethod yX0_walkKnot, Cond.selects RX0 yX0_walkKnot yX0_walkKnot, Cond.code yX0_walkKnot cX0_walkKnot 9 none, Cond.fieldLink RX0 15 "KnotBand$Band" "kinds" "[I", Cond.fieldLink RX0 31 "KnotBand$Band" "shown" "[I", Cond.fieldLink RX0 9 "KnotBand$Band" "colours" "[I", Cond.static yX4_leftPlaceOf, Cond.code yX4_leftPlaceOf cX4_leftPlaceOf 2 (some .int), Cond.static yX4_kindIn, Cond.code yX4_kindIn cX4_kindIn 2 (some .int), Cond.static yX4_showingPlace, Cond.code yX4_showingPlace cX4_showingPlace 2 (some .int), Cond.static yX4_spotOf, Cond.code yX4_spotOf cX4_spotOf 2 (some .int)]
def wsL_home_r3 : List Cond := [Cond.methodLink RX0 72 yX0_isHome, Cond.instanceMethod yX0_isHome, Cond.selects RX0 yX0_isHome yX0_isHome, Cond.code yX0_isHome cX0_isHome 5 (some .boolean)]
def wsL_home : List Cond := .codeWith yL_home cL_home 5 (some .int) [(0, 10, 13, 13)] :: ((wsL_home_r1 ++ (wsL_home_r2 ++ wsL_home_r3)) ++ wsX00 ++ wsX40 ++ (vx_atN RX4 151).filter goodWord)
def wsL_unlike_r1 : List Cond := [Cond.classLink RL 13 "java/util/NoSuchElementException", Cond.classLink RL 15 "java/lang/IllegalArgumentException", Cond.methodLink RL 37 yX4_unlike, Cond.instanceMethod yX4_unlike, Cond.selects RX4 yX4_unlike yX4_unlike, Cond.initialized RX4, Cond.code yX4_unlike cX4_unlike 10 (some .int), Cond.classLink RX4 96 "java/lang/IllegalArgumentException", Cond.initialized "java/lang/IllegalArgumentException", Cond.methodLink RX4 44 yX4_bandAt, Cond.instanceMethod yX4_bandAt, Cond.selects RX4 yX4_bandAt yX4_bandAt, Cond.code yX4_bandAt cX4_bandAt 2 (some (.object "KnotBand$Band")), Cond.fieldLink RX4 28 "KnotBand" "bandCount" "I", Cond.fieldLink RX4 11 "KnotBand" "bands" "[LKnotBand$Band;", Cond.methodLink RX4 48 yX4_needElement, Cond.static yX4_needElement, Cond.code yX4_needElement cX4_needElement 2 none, Cond.classLink RX4 147 "java/util/NoSuchElementException", Cond.initialized "java/util/NoSuchElementException", Cond.methodLink RX4 76 yX0_walk, Cond.instanceMethod yX0_walk, Cond.selects RX0 yX0_walk yX0_walk, Cond.initialized RX0]
def wsL_unlike_r2 : List Cond := [Cond.code yX0_walk cX0_walk 5 none, Cond.fieldLink RX0 18 "KnotBand$Band" "threads" "I", Cond.fieldLink RX0 25 "KnotBand$Band" "standing" "[I", Cond.fieldLink RX0 28 "KnotBand$Band" "spent" "[I", Cond.static yX4_knotsIn, Cond.code yX4_knotsIn cX4_knotsIn 2 (some .int), Cond.methodLink RX0 52 yX0_walkKnot, Cond.instanceMethod yX0_walkKnot, Cond.selects RX0 yX0_walkKnot yX0_walkKnot, Cond.code yX0_walkKnot cX0_walkKnot 9 none, Cond.fieldLink RX0 15 "KnotBand$Band" "kinds" "[I", Cond.fieldLink RX0 31 "KnotBand$Band" "shown" "[I", Cond.fieldLink RX0 9 "KnotBand$Band" "colours" "[I", Cond.static yX4_leftPlaceOf, Cond.code yX4_leftPlaceOf cX4_leftPlaceOf 2 (some .int), Cond.static yX4_kindIn, Cond.code yX4_kindIn cX4_kindIn 2 (some .int), Cond.static yX4_showingPlace, Cond.code yX4_showingPlace cX4_showingPlace 2 (some .int), Cond.static yX4_spotOf, Cond.code yX4_spotOf cX4_spotOf 2 (some .int), Cond.methodLink RX4 65 yX4_knotsIn, Cond.methodLink RX4 83 yX4_spotOf]
def wsL_unlike : List Cond := .codeWith yL_unlike cL_unlike 5 (some .int) [(0, 10, 13, 13), (0, 10, 17, 15)] :: ((wsL_unlike_r1 ++ wsL_unlike_r2) ++ wsX00 ++ wsX40 ++ (vx_atS RX4 100 "java/lang/IllegalArgumentException" ["java/lang/RuntimeException", "java/lang/Exception"]).filter goodWord ++ (vx_atN RX4 151).filter goodWord)
def wsL_see_r1 : List Cond := [Cond.classLink RL 13 "java/util/NoSuchElementException", Cond.classLink RL 15 "java/lang/IllegalArgumentException", Cond.methodLink RL 40 yX4_see, Cond.instanceMethod yX4_see, Cond.selects RX4 yX4_see yX4_see, Cond.initialized RX4, Cond.code yX4_see cX4_see 8 (some .int), Cond.methodLink RX4 106 yX4_pictureAt, Cond.instanceMethod yX4_pictureAt, Cond.selects RX4 yX4_pictureAt yX4_pictureAt, Cond.code yX4_pictureAt cX4_pictureAt 2 (some (.object "KnotBand$Picture")), Cond.fieldLink RX4 32 "KnotBand" "pictureCount" "I", Cond.fieldLink RX4 17 "KnotBand" "pictures" "[LKnotBand$Picture;", Cond.methodLink RX4 48 yX4_needElement, Cond.static yX4_needElement, Cond.code yX4_needElement cX4_needElement 2 none, Cond.classLink RX4 147 "java/util/NoSuchElementException", Cond.initialized "java/util/NoSuchElementException", Cond.methodLink RX4 65 yX4_knotsIn, Cond.static yX4_knotsIn, Cond.code yX4_knotsIn cX4_knotsIn 2 (some .int), Cond.methodLink RX4 52 yX4_needArgument, Cond.static yX4_needArgument, Cond.code yX4_needArgument cX4_needArgument 2 none]
def wsL_see_r2 : List Cond := [Cond.classLink RX4 96 "java/lang/IllegalArgumentException", Cond.initialized "java/lang/IllegalArgumentException", Cond.methodLink RX4 83 yX4_spotOf, Cond.static yX4_spotOf, Cond.code yX4_spotOf cX4_spotOf 2 (some .int)]
def wsL_see : List Cond := .codeWith yL_see cL_see 7 (some .int) [(0, 14, 17, 13), (0, 14, 21, 15)] :: ((wsL_see_r1 ++ wsL_see_r2) ++ wsX20 ++ wsX40 ++ (vx_atN RX4 151).filter goodWord ++ (vx_atS RX4 100 "java/lang/IllegalArgumentException" ["java/lang/RuntimeException", "java/lang/Exception"]).filter goodWord)
def wsL_must : List Cond := .codeWith yL_must cL_must 6 (some .int) [(0, 12, 15, 13), (0, 12, 19, 15)] :: ([.classLink RL 13 "java/util/NoSuchElementException", .classLink RL 15 "java/lang/IllegalArgumentException", .methodLink RL 43 yX4_must, .instanceMethod yX4_must, .selects RX4 yX4_must yX4_must, .initialized RX4, .code yX4_must cX4_must 6 (some .int), .methodLink RX4 106 yX4_pictureAt, .instanceMethod yX4_pictureAt, .selects RX4 yX4_pictureAt yX4_pictureAt, .code yX4_pictureAt cX4_pictureAt 2 (some (.object "KnotBand$Picture")), .fieldLink RX4 32 "KnotBand" "pictureCount" "I", .fieldLink RX4 17 "KnotBand" "pictures" "[LKnotBand$Picture;", .methodLink RX4 48 yX4_needElement, .static yX4_needElement, .code yX4_needElement cX4_needElement 2 none, .classLink RX4 147 "java/util/NoSuchElementException", .initialized "java/util/NoSuchElementException", .methodLink RX4 52 yX4_needArgument, .static yX4_needArgument, .code yX4_needArgument cX4_needArgument 2 none, .classLink RX4 96 "java/lang/IllegalArgumentException", .initialized "java/lang/IllegalArgumentException"] ++ wsX20 ++ wsX40 ++ (vx_atN RX4 151).filter goodWord ++ (vx_atS RX4 100 "java/lang/IllegalArgumentException" ["java/lang/RuntimeException", "java/lang/Exception"]).filter goodWord)
def wsL_copy_r1 : List Cond := [Cond.classLink RL 13 "java/util/NoSuchElementException", Cond.methodLink RL 46 yX4_copy, Cond.instanceMethod yX4_copy, Cond.selects RX4 yX4_copy yX4_copy, Cond.initialized RX4, Cond.code yX4_copy cX4_copy 6 (some .boolean), Cond.methodLink RX4 106 yX4_pictureAt, Cond.instanceMethod yX4_pictureAt, Cond.selects RX4 yX4_pictureAt yX4_pictureAt, Cond.code yX4_pictureAt cX4_pictureAt 2 (some (.object "KnotBand$Picture")), Cond.fieldLink RX4 32 "KnotBand" "pictureCount" "I", Cond.fieldLink RX4 17 "KnotBand" "pictures" "[LKnotBand$Picture;", Cond.methodLink RX4 48 yX4_needElement, Cond.static yX4_needElement, Cond.code yX4_needElement cX4_needElement 2 none, Cond.classLink RX4 147 "java/util/NoSuchElementException", Cond.initialized "java/util/NoSuchElementException", Cond.methodLink RX4 44 yX4_bandAt, Cond.instanceMethod yX4_bandAt, Cond.selects RX4 yX4_bandAt yX4_bandAt, Cond.code yX4_bandAt cX4_bandAt 2 (some (.object "KnotBand$Band")), Cond.fieldLink RX4 28 "KnotBand" "bandCount" "I", Cond.fieldLink RX4 11 "KnotBand" "bands" "[LKnotBand$Band;", Cond.methodLink RX4 76 yX0_walk]
def wsL_copy_r2 : List Cond := [Cond.instanceMethod yX0_walk, Cond.selects RX0 yX0_walk yX0_walk, Cond.initialized RX0, Cond.code yX0_walk cX0_walk 5 none, Cond.fieldLink RX0 18 "KnotBand$Band" "threads" "I", Cond.fieldLink RX0 25 "KnotBand$Band" "standing" "[I", Cond.fieldLink RX0 28 "KnotBand$Band" "spent" "[I", Cond.static yX4_knotsIn, Cond.code yX4_knotsIn cX4_knotsIn 2 (some .int), Cond.methodLink RX0 52 yX0_walkKnot, Cond.instanceMethod yX0_walkKnot, Cond.selects RX0 yX0_walkKnot yX0_walkKnot, Cond.code yX0_walkKnot cX0_walkKnot 9 none, Cond.fieldLink RX0 15 "KnotBand$Band" "kinds" "[I", Cond.fieldLink RX0 31 "KnotBand$Band" "shown" "[I", Cond.fieldLink RX0 9 "KnotBand$Band" "colours" "[I", Cond.static yX4_leftPlaceOf, Cond.code yX4_leftPlaceOf cX4_leftPlaceOf 2 (some .int), Cond.static yX4_kindIn, Cond.code yX4_kindIn cX4_kindIn 2 (some .int), Cond.static yX4_showingPlace, Cond.code yX4_showingPlace cX4_showingPlace 2 (some .int), Cond.static yX4_spotOf, Cond.code yX4_spotOf cX4_spotOf 2 (some .int)]
def wsL_copy : List Cond := .codeWith yL_copy cL_copy 5 (some .int) [(0, 17, 20, 13)] :: ((wsL_copy_r1 ++ wsL_copy_r2) ++ wsX20 ++ wsX00 ++ wsX40 ++ (vx_atN RX4 151).filter goodWord)
def wsL_starts_r1 : List Cond := [Cond.classLink RL 13 "java/util/NoSuchElementException", Cond.methodLink RL 50 yX4_starts, Cond.instanceMethod yX4_starts, Cond.selects RX4 yX4_starts yX4_starts, Cond.initialized RX4, Cond.code yX4_starts cX4_starts 2 (some .int), Cond.methodLink RX4 122 yX4_workedOutAt, Cond.instanceMethod yX4_workedOutAt, Cond.selects RX4 yX4_workedOutAt yX4_workedOutAt, Cond.code yX4_workedOutAt cX4_workedOutAt 3 (some (.object "KnotBand$Picture")), Cond.fieldLink RX4 24 "KnotBand" "loom" "LKnotBand$Loom;", Cond.methodLink RX4 106 yX4_pictureAt, Cond.instanceMethod yX4_pictureAt, Cond.selects RX4 yX4_pictureAt yX4_pictureAt, Cond.code yX4_pictureAt cX4_pictureAt 2 (some (.object "KnotBand$Picture")), Cond.fieldLink RX4 32 "KnotBand" "pictureCount" "I", Cond.fieldLink RX4 17 "KnotBand" "pictures" "[LKnotBand$Picture;", Cond.methodLink RX4 48 yX4_needElement, Cond.static yX4_needElement, Cond.code yX4_needElement cX4_needElement 2 none, Cond.classLink RX4 147 "java/util/NoSuchElementException", Cond.initialized "java/util/NoSuchElementException", Cond.methodLink RX4 144 yX1_workOut, Cond.instanceMethod yX1_workOut]
def wsL_starts_r2 : List Cond := [Cond.selects RX1 yX1_workOut yX1_workOut, Cond.initialized RX1, Cond.code yX1_workOut cX1_workOut 3 none, Cond.fieldLink RX1 32 "KnotBand$Loom" "now" "LKnotBand$Standings;", Cond.fieldLink RX1 27 "KnotBand$Loom" "ahead" "[LKnotBand$Standings;", Cond.methodLink RX1 36 yX1_listKnots, Cond.instanceMethod yX1_listKnots, Cond.selects RX1 yX1_listKnots yX1_listKnots, Cond.code yX1_listKnots cX1_listKnots 5 none, Cond.fieldLink RX1 21 "KnotBand$Loom" "knotCount" "I", Cond.fieldLink RX1 9 "KnotBand$Loom" "names" "[I", Cond.fieldLink RX1 15 "KnotBand$Loom" "lefts" "[I", Cond.fieldLink RX1 18 "KnotBand$Loom" "wished" "[I", Cond.static yX4_knotsIn, Cond.code yX4_knotsIn cX4_knotsIn 2 (some .int), Cond.static yX4_leftPlaceOf, Cond.code yX4_leftPlaceOf cX4_leftPlaceOf 2 (some .int), Cond.static yX4_spotOf, Cond.code yX4_spotOf cX4_spotOf 2 (some .int), Cond.methodLink RX1 40 yX1_workBackward, Cond.instanceMethod yX1_workBackward, Cond.selects RX1 yX1_workBackward yX1_workBackward, Cond.code yX1_workBackward cX1_workBackward 2 none, Cond.methodLink RX1 43 yX3_fill]
def wsL_starts_r3 : List Cond := [Cond.instanceMethod yX3_fill, Cond.selects RX3 yX3_fill yX3_fill, Cond.initialized RX3, Cond.code yX3_fill cX3_fill 2 none, Cond.fieldLink RX3 11 "KnotBand$Standings" "words" "[J", Cond.constantLong RX3 15 (-1), Cond.methodLink RX1 100 yX3_spread, Cond.instanceMethod yX3_spread, Cond.selects RX3 yX3_spread yX3_spread, Cond.code yX3_spread cX3_spread 3 none, Cond.fieldLink RX3 31 "KnotBand$Standings" "PLACE_3_LESS" "[J", Cond.fieldLink RX3 38 "KnotBand$Standings" "PLACE_4_LESS" "[J", Cond.methodLink RX3 27 yX3_spreadAcross, Cond.instanceMethod yX3_spreadAcross, Cond.selects RX3 yX3_spreadAcross yX3_spreadAcross, Cond.code yX3_spreadAcross cX3_spreadAcross 7 none, Cond.constantLong RX3 21 (65535), Cond.methodLink RX3 34 yX3_spreadInside, Cond.instanceMethod yX3_spreadInside, Cond.selects RX3 yX3_spreadInside yX3_spreadInside, Cond.code yX3_spreadInside cX3_spreadInside 11 none, Cond.methodLink RX3 41 yX3_spreadBetween, Cond.instanceMethod yX3_spreadBetween, Cond.selects RX3 yX3_spreadBetween yX3_spreadBetween]
def wsL_starts_r4 : List Cond := [Cond.code yX3_spreadBetween cX3_spreadBetween 4 none, Cond.static yX4_exchanged, Cond.code yX4_exchanged cX4_exchanged 3 (some .int), Cond.methodLink RX1 104 yX3_keepEither, Cond.instanceMethod yX3_keepEither, Cond.selects RX3 yX3_keepEither yX3_keepEither, Cond.code yX3_keepEither cX3_keepEither 4 none, Cond.methodLink RX3 17 yX3_having, Cond.static yX3_having, Cond.code yX3_having cX3_having 3 (some .long), Cond.constantLong RX3 23 (4222189076152335), Cond.constantLong RX3 25 (1229782938247303441), Cond.methodLink RX1 51 yX3_keep, Cond.instanceMethod yX3_keep, Cond.selects RX3 yX3_keep yX3_keep, Cond.code yX3_keep cX3_keep 4 none, Cond.methodLink RX1 58 yX3_countShared, Cond.instanceMethod yX3_countShared, Cond.selects RX3 yX3_countShared yX3_countShared, Cond.code yX3_countShared cX3_countShared 4 (some .int), Cond.methodLink RX3 49 yJ13_bitCount_95d88, Cond.static yJ13_bitCount_95d88, Cond.initialized RJ13, Cond.code yJ13_bitCount_95d88 cJ13_bitCount_95d88 2 (some .int)]
def wsL_starts_r5 : List Cond := [Cond.constantLong RJ13 314 (6148914691236517205), Cond.constantLong RJ13 316 (3689348814741910323), Cond.constantLong RJ13 318 (1085102592571150095), Cond.methodLink RX1 65 yX3_firstShared, Cond.instanceMethod yX3_firstShared, Cond.selects RX3 yX3_firstShared yX3_firstShared, Cond.code yX3_firstShared cX3_firstShared 6 (some .int), Cond.methodLink RX1 71 yX1_chooseKinds, Cond.instanceMethod yX1_chooseKinds, Cond.selects RX1 yX1_chooseKinds yX1_chooseKinds, Cond.code yX1_chooseKinds cX1_chooseKinds 6 none, Cond.methodLink RX1 107 yX1_leastKind, Cond.instanceMethod yX1_leastKind, Cond.selects RX1 yX1_leastKind yX1_leastKind, Cond.code yX1_leastKind cX1_leastKind 6 (some .int), Cond.static yX4_showingPlace, Cond.code yX4_showingPlace cX4_showingPlace 2 (some .int), Cond.static yX4_colourIn, Cond.code yX4_colourIn cX4_colourIn 2 (some .int), Cond.methodLink RX4 154 yX4_bitOf, Cond.static yX4_bitOf, Cond.code yX4_bitOf cX4_bitOf 1 (some .int), Cond.methodLink RX1 117 yX1_standingBehind, Cond.instanceMethod yX1_standingBehind]
def wsL_starts_r6 : List Cond := [Cond.selects RX1 yX1_standingBehind yX1_standingBehind, Cond.code yX1_standingBehind cX1_standingBehind 4 (some .int), Cond.methodLink RX1 126 yX3_has, Cond.instanceMethod yX3_has, Cond.selects RX3 yX3_has yX3_has, Cond.code yX3_has cX3_has 2 (some .boolean), Cond.static yX4_withKind, Cond.code yX4_withKind cX4_withKind 3 (some .int), Cond.methodLink RX1 74 yX1_findSuspects, Cond.instanceMethod yX1_findSuspects, Cond.selects RX1 yX1_findSuspects yX1_findSuspects, Cond.code yX1_findSuspects cX1_findSuspects 3 none]
def wsL_starts : List Cond := .codeWith yL_starts cL_starts 4 (some .int) [(0, 9, 12, 13)] :: ((wsL_starts_r1 ++ (wsL_starts_r2 ++ (wsL_starts_r3 ++ (wsL_starts_r4 ++ (wsL_starts_r5 ++ wsL_starts_r6))))) ++ wsX20 ++ wsX40 ++ wsX10 ++ wsX30 ++ (vx_atN RX4 151).filter goodWord)
def wsL_start_r1 : List Cond := [Cond.classLink RL 13 "java/util/NoSuchElementException", Cond.methodLink RL 54 yX4_start, Cond.instanceMethod yX4_start, Cond.selects RX4 yX4_start yX4_start, Cond.initialized RX4, Cond.code yX4_start cX4_start 4 (some .int), Cond.methodLink RX4 106 yX4_pictureAt, Cond.instanceMethod yX4_pictureAt, Cond.selects RX4 yX4_pictureAt yX4_pictureAt, Cond.code yX4_pictureAt cX4_pictureAt 2 (some (.object "KnotBand$Picture")), Cond.fieldLink RX4 32 "KnotBand" "pictureCount" "I", Cond.fieldLink RX4 17 "KnotBand" "pictures" "[LKnotBand$Picture;", Cond.methodLink RX4 48 yX4_needElement, Cond.static yX4_needElement, Cond.code yX4_needElement cX4_needElement 2 none, Cond.classLink RX4 147 "java/util/NoSuchElementException", Cond.initialized "java/util/NoSuchElementException", Cond.methodLink RX4 122 yX4_workedOutAt, Cond.instanceMethod yX4_workedOutAt, Cond.selects RX4 yX4_workedOutAt yX4_workedOutAt, Cond.code yX4_workedOutAt cX4_workedOutAt 3 (some (.object "KnotBand$Picture")), Cond.fieldLink RX4 24 "KnotBand" "loom" "LKnotBand$Loom;", Cond.methodLink RX4 144 yX1_workOut, Cond.instanceMethod yX1_workOut]
def wsL_start_r2 : List Cond := [Cond.selects RX1 yX1_workOut yX1_workOut, Cond.initialized RX1, Cond.code yX1_workOut cX1_workOut 3 none, Cond.fieldLink RX1 32 "KnotBand$Loom" "now" "LKnotBand$Standings;", Cond.fieldLink RX1 27 "KnotBand$Loom" "ahead" "[LKnotBand$Standings;", Cond.methodLink RX1 36 yX1_listKnots, Cond.instanceMethod yX1_listKnots, Cond.selects RX1 yX1_listKnots yX1_listKnots, Cond.code yX1_listKnots cX1_listKnots 5 none, Cond.fieldLink RX1 21 "KnotBand$Loom" "knotCount" "I", Cond.fieldLink RX1 9 "KnotBand$Loom" "names" "[I", Cond.fieldLink RX1 15 "KnotBand$Loom" "lefts" "[I", Cond.fieldLink RX1 18 "KnotBand$Loom" "wished" "[I", Cond.static yX4_knotsIn, Cond.code yX4_knotsIn cX4_knotsIn 2 (some .int), Cond.static yX4_leftPlaceOf, Cond.code yX4_leftPlaceOf cX4_leftPlaceOf 2 (some .int), Cond.static yX4_spotOf, Cond.code yX4_spotOf cX4_spotOf 2 (some .int), Cond.methodLink RX1 40 yX1_workBackward, Cond.instanceMethod yX1_workBackward, Cond.selects RX1 yX1_workBackward yX1_workBackward, Cond.code yX1_workBackward cX1_workBackward 2 none, Cond.methodLink RX1 43 yX3_fill]
def wsL_start_r3 : List Cond := [Cond.instanceMethod yX3_fill, Cond.selects RX3 yX3_fill yX3_fill, Cond.initialized RX3, Cond.code yX3_fill cX3_fill 2 none, Cond.fieldLink RX3 11 "KnotBand$Standings" "words" "[J", Cond.constantLong RX3 15 (-1), Cond.methodLink RX1 100 yX3_spread, Cond.instanceMethod yX3_spread, Cond.selects RX3 yX3_spread yX3_spread, Cond.code yX3_spread cX3_spread 3 none, Cond.fieldLink RX3 31 "KnotBand$Standings" "PLACE_3_LESS" "[J", Cond.fieldLink RX3 38 "KnotBand$Standings" "PLACE_4_LESS" "[J", Cond.methodLink RX3 27 yX3_spreadAcross, Cond.instanceMethod yX3_spreadAcross, Cond.selects RX3 yX3_spreadAcross yX3_spreadAcross, Cond.code yX3_spreadAcross cX3_spreadAcross 7 none, Cond.constantLong RX3 21 (65535), Cond.methodLink RX3 34 yX3_spreadInside, Cond.instanceMethod yX3_spreadInside, Cond.selects RX3 yX3_spreadInside yX3_spreadInside, Cond.code yX3_spreadInside cX3_spreadInside 11 none, Cond.methodLink RX3 41 yX3_spreadBetween, Cond.instanceMethod yX3_spreadBetween, Cond.selects RX3 yX3_spreadBetween yX3_spreadBetween]
def wsL_start_r4 : List Cond := [Cond.code yX3_spreadBetween cX3_spreadBetween 4 none, Cond.static yX4_exchanged, Cond.code yX4_exchanged cX4_exchanged 3 (some .int), Cond.methodLink RX1 104 yX3_keepEither, Cond.instanceMethod yX3_keepEither, Cond.selects RX3 yX3_keepEither yX3_keepEither, Cond.code yX3_keepEither cX3_keepEither 4 none, Cond.methodLink RX3 17 yX3_having, Cond.static yX3_having, Cond.code yX3_having cX3_having 3 (some .long), Cond.constantLong RX3 23 (4222189076152335), Cond.constantLong RX3 25 (1229782938247303441), Cond.methodLink RX1 51 yX3_keep, Cond.instanceMethod yX3_keep, Cond.selects RX3 yX3_keep yX3_keep, Cond.code yX3_keep cX3_keep 4 none, Cond.methodLink RX1 58 yX3_countShared, Cond.instanceMethod yX3_countShared, Cond.selects RX3 yX3_countShared yX3_countShared, Cond.code yX3_countShared cX3_countShared 4 (some .int), Cond.methodLink RX3 49 yJ13_bitCount_95d88, Cond.static yJ13_bitCount_95d88, Cond.initialized RJ13, Cond.code yJ13_bitCount_95d88 cJ13_bitCount_95d88 2 (some .int)]
def wsL_start_r5 : List Cond := [Cond.constantLong RJ13 314 (6148914691236517205), Cond.constantLong RJ13 316 (3689348814741910323), Cond.constantLong RJ13 318 (1085102592571150095), Cond.methodLink RX1 65 yX3_firstShared, Cond.instanceMethod yX3_firstShared, Cond.selects RX3 yX3_firstShared yX3_firstShared, Cond.code yX3_firstShared cX3_firstShared 6 (some .int), Cond.methodLink RX1 71 yX1_chooseKinds, Cond.instanceMethod yX1_chooseKinds, Cond.selects RX1 yX1_chooseKinds yX1_chooseKinds, Cond.code yX1_chooseKinds cX1_chooseKinds 6 none, Cond.methodLink RX1 107 yX1_leastKind, Cond.instanceMethod yX1_leastKind, Cond.selects RX1 yX1_leastKind yX1_leastKind, Cond.code yX1_leastKind cX1_leastKind 6 (some .int), Cond.static yX4_showingPlace, Cond.code yX4_showingPlace cX4_showingPlace 2 (some .int), Cond.static yX4_colourIn, Cond.code yX4_colourIn cX4_colourIn 2 (some .int), Cond.methodLink RX4 154 yX4_bitOf, Cond.static yX4_bitOf, Cond.code yX4_bitOf cX4_bitOf 1 (some .int), Cond.methodLink RX1 117 yX1_standingBehind, Cond.instanceMethod yX1_standingBehind]
def wsL_start_r6 : List Cond := [Cond.selects RX1 yX1_standingBehind yX1_standingBehind, Cond.code yX1_standingBehind cX1_standingBehind 4 (some .int), Cond.methodLink RX1 126 yX3_has, Cond.instanceMethod yX3_has, Cond.selects RX3 yX3_has yX3_has, Cond.code yX3_has cX3_has 2 (some .boolean), Cond.static yX4_withKind, Cond.code yX4_withKind cX4_withKind 3 (some .int), Cond.methodLink RX1 74 yX1_findSuspects, Cond.instanceMethod yX1_findSuspects, Cond.selects RX1 yX1_findSuspects yX1_findSuspects, Cond.code yX1_findSuspects cX1_findSuspects 3 none, Cond.methodLink RX4 131 yX4_colourIn]
def wsL_start : List Cond := .codeWith yL_start cL_start 5 (some .int) [(0, 10, 13, 13)] :: ((wsL_start_r1 ++ (wsL_start_r2 ++ (wsL_start_r3 ++ (wsL_start_r4 ++ (wsL_start_r5 ++ wsL_start_r6))))) ++ wsX20 ++ wsX40 ++ wsX10 ++ wsX30 ++ (vx_atN RX4 151).filter goodWord)
def wsL_tie_r1 : List Cond := [Cond.classLink RL 13 "java/util/NoSuchElementException", Cond.methodLink RL 57 yX4_tie, Cond.instanceMethod yX4_tie, Cond.selects RX4 yX4_tie yX4_tie, Cond.initialized RX4, Cond.code yX4_tie cX4_tie 3 (some .int), Cond.fieldLink RX4 28 "KnotBand" "bandCount" "I", Cond.fieldLink RX4 11 "KnotBand" "bands" "[LKnotBand$Band;", Cond.methodLink RX4 122 yX4_workedOutAt, Cond.instanceMethod yX4_workedOutAt, Cond.selects RX4 yX4_workedOutAt yX4_workedOutAt, Cond.code yX4_workedOutAt cX4_workedOutAt 3 (some (.object "KnotBand$Picture")), Cond.fieldLink RX4 24 "KnotBand" "loom" "LKnotBand$Loom;", Cond.methodLink RX4 106 yX4_pictureAt, Cond.instanceMethod yX4_pictureAt, Cond.selects RX4 yX4_pictureAt yX4_pictureAt, Cond.code yX4_pictureAt cX4_pictureAt 2 (some (.object "KnotBand$Picture")), Cond.fieldLink RX4 32 "KnotBand" "pictureCount" "I", Cond.fieldLink RX4 17 "KnotBand" "pictures" "[LKnotBand$Picture;", Cond.methodLink RX4 48 yX4_needElement, Cond.static yX4_needElement, Cond.code yX4_needElement cX4_needElement 2 none, Cond.classLink RX4 147 "java/util/NoSuchElementException", Cond.initialized "java/util/NoSuchElementException"]
def wsL_tie_r2 : List Cond := [Cond.methodLink RX4 144 yX1_workOut, Cond.instanceMethod yX1_workOut, Cond.selects RX1 yX1_workOut yX1_workOut, Cond.initialized RX1, Cond.code yX1_workOut cX1_workOut 3 none, Cond.fieldLink RX1 32 "KnotBand$Loom" "now" "LKnotBand$Standings;", Cond.fieldLink RX1 27 "KnotBand$Loom" "ahead" "[LKnotBand$Standings;", Cond.methodLink RX1 36 yX1_listKnots, Cond.instanceMethod yX1_listKnots, Cond.selects RX1 yX1_listKnots yX1_listKnots, Cond.code yX1_listKnots cX1_listKnots 5 none, Cond.fieldLink RX1 21 "KnotBand$Loom" "knotCount" "I", Cond.fieldLink RX1 9 "KnotBand$Loom" "names" "[I", Cond.fieldLink RX1 15 "KnotBand$Loom" "lefts" "[I", Cond.fieldLink RX1 18 "KnotBand$Loom" "wished" "[I", Cond.static yX4_knotsIn, Cond.code yX4_knotsIn cX4_knotsIn 2 (some .int), Cond.static yX4_leftPlaceOf, Cond.code yX4_leftPlaceOf cX4_leftPlaceOf 2 (some .int), Cond.static yX4_spotOf, Cond.code yX4_spotOf cX4_spotOf 2 (some .int), Cond.methodLink RX1 40 yX1_workBackward, Cond.instanceMethod yX1_workBackward, Cond.selects RX1 yX1_workBackward yX1_workBackward]
def wsL_tie_r3 : List Cond := [Cond.code yX1_workBackward cX1_workBackward 2 none, Cond.methodLink RX1 43 yX3_fill, Cond.instanceMethod yX3_fill, Cond.selects RX3 yX3_fill yX3_fill, Cond.initialized RX3, Cond.code yX3_fill cX3_fill 2 none, Cond.fieldLink RX3 11 "KnotBand$Standings" "words" "[J", Cond.constantLong RX3 15 (-1), Cond.methodLink RX1 100 yX3_spread, Cond.instanceMethod yX3_spread, Cond.selects RX3 yX3_spread yX3_spread, Cond.code yX3_spread cX3_spread 3 none, Cond.fieldLink RX3 31 "KnotBand$Standings" "PLACE_3_LESS" "[J", Cond.fieldLink RX3 38 "KnotBand$Standings" "PLACE_4_LESS" "[J", Cond.methodLink RX3 27 yX3_spreadAcross, Cond.instanceMethod yX3_spreadAcross, Cond.selects RX3 yX3_spreadAcross yX3_spreadAcross, Cond.code yX3_spreadAcross cX3_spreadAcross 7 none, Cond.constantLong RX3 21 (65535), Cond.methodLink RX3 34 yX3_spreadInside, Cond.instanceMethod yX3_spreadInside, Cond.selects RX3 yX3_spreadInside yX3_spreadInside, Cond.code yX3_spreadInside cX3_spreadInside 11 none, Cond.methodLink RX3 41 yX3_spreadBetween]
def wsL_tie_r4 : List Cond := [Cond.instanceMethod yX3_spreadBetween, Cond.selects RX3 yX3_spreadBetween yX3_spreadBetween, Cond.code yX3_spreadBetween cX3_spreadBetween 4 none, Cond.static yX4_exchanged, Cond.code yX4_exchanged cX4_exchanged 3 (some .int), Cond.methodLink RX1 104 yX3_keepEither, Cond.instanceMethod yX3_keepEither, Cond.selects RX3 yX3_keepEither yX3_keepEither, Cond.code yX3_keepEither cX3_keepEither 4 none, Cond.methodLink RX3 17 yX3_having, Cond.static yX3_having, Cond.code yX3_having cX3_having 3 (some .long), Cond.constantLong RX3 23 (4222189076152335), Cond.constantLong RX3 25 (1229782938247303441), Cond.methodLink RX1 51 yX3_keep, Cond.instanceMethod yX3_keep, Cond.selects RX3 yX3_keep yX3_keep, Cond.code yX3_keep cX3_keep 4 none, Cond.methodLink RX1 58 yX3_countShared, Cond.instanceMethod yX3_countShared, Cond.selects RX3 yX3_countShared yX3_countShared, Cond.code yX3_countShared cX3_countShared 4 (some .int), Cond.methodLink RX3 49 yJ13_bitCount_95d88, Cond.static yJ13_bitCount_95d88]
def wsL_tie_r5 : List Cond := [Cond.initialized RJ13, Cond.code yJ13_bitCount_95d88 cJ13_bitCount_95d88 2 (some .int), Cond.constantLong RJ13 314 (6148914691236517205), Cond.constantLong RJ13 316 (3689348814741910323), Cond.constantLong RJ13 318 (1085102592571150095), Cond.methodLink RX1 65 yX3_firstShared, Cond.instanceMethod yX3_firstShared, Cond.selects RX3 yX3_firstShared yX3_firstShared, Cond.code yX3_firstShared cX3_firstShared 6 (some .int), Cond.methodLink RX1 71 yX1_chooseKinds, Cond.instanceMethod yX1_chooseKinds, Cond.selects RX1 yX1_chooseKinds yX1_chooseKinds, Cond.code yX1_chooseKinds cX1_chooseKinds 6 none, Cond.methodLink RX1 107 yX1_leastKind, Cond.instanceMethod yX1_leastKind, Cond.selects RX1 yX1_leastKind yX1_leastKind, Cond.code yX1_leastKind cX1_leastKind 6 (some .int), Cond.static yX4_showingPlace, Cond.code yX4_showingPlace cX4_showingPlace 2 (some .int), Cond.static yX4_colourIn, Cond.code yX4_colourIn cX4_colourIn 2 (some .int), Cond.methodLink RX4 154 yX4_bitOf, Cond.static yX4_bitOf, Cond.code yX4_bitOf cX4_bitOf 1 (some .int)]
def wsL_tie_r6 : List Cond := [Cond.methodLink RX1 117 yX1_standingBehind, Cond.instanceMethod yX1_standingBehind, Cond.selects RX1 yX1_standingBehind yX1_standingBehind, Cond.code yX1_standingBehind cX1_standingBehind 4 (some .int), Cond.methodLink RX1 126 yX3_has, Cond.instanceMethod yX3_has, Cond.selects RX3 yX3_has yX3_has, Cond.code yX3_has cX3_has 2 (some .boolean), Cond.static yX4_withKind, Cond.code yX4_withKind cX4_withKind 3 (some .int), Cond.methodLink RX1 74 yX1_findSuspects, Cond.instanceMethod yX1_findSuspects, Cond.selects RX1 yX1_findSuspects yX1_findSuspects, Cond.code yX1_findSuspects cX1_findSuspects 3 none, Cond.methodLink RX4 134 yX0_become, Cond.instanceMethod yX0_become, Cond.selects RX0 yX0_become yX0_become, Cond.initialized RX0, Cond.code yX0_become cX0_become 3 none, Cond.fieldLink RX0 18 "KnotBand$Band" "threads" "I", Cond.fieldLink RX0 22 "KnotBand$Band" "rows" "I", Cond.fieldLink RX0 9 "KnotBand$Band" "colours" "[I", Cond.fieldLink RX0 15 "KnotBand$Band" "kinds" "[I"]
def wsL_tie : List Cond := .codeWith yL_tie cL_tie 4 (some .int) [(0, 9, 12, 13)] :: ((wsL_tie_r1 ++ (wsL_tie_r2 ++ (wsL_tie_r3 ++ (wsL_tie_r4 ++ (wsL_tie_r5 ++ wsL_tie_r6))))) ++ wsX20 ++ wsX40 ++ wsX10 ++ wsX30 ++ wsX00 ++ (vx_atN RX4 151).filter goodWord)
def wsL_suspect_r1 : List Cond := [Cond.classLink RL 13 "java/util/NoSuchElementException", Cond.methodLink RL 60 yX4_suspect, Cond.instanceMethod yX4_suspect, Cond.selects RX4 yX4_suspect yX4_suspect, Cond.initialized RX4, Cond.code yX4_suspect cX4_suspect 4 (some .int), Cond.methodLink RX4 122 yX4_workedOutAt, Cond.instanceMethod yX4_workedOutAt, Cond.selects RX4 yX4_workedOutAt yX4_workedOutAt, Cond.code yX4_workedOutAt cX4_workedOutAt 3 (some (.object "KnotBand$Picture")), Cond.fieldLink RX4 24 "KnotBand" "loom" "LKnotBand$Loom;", Cond.methodLink RX4 106 yX4_pictureAt, Cond.instanceMethod yX4_pictureAt, Cond.selects RX4 yX4_pictureAt yX4_pictureAt, Cond.code yX4_pictureAt cX4_pictureAt 2 (some (.object "KnotBand$Picture")), Cond.fieldLink RX4 32 "KnotBand" "pictureCount" "I", Cond.fieldLink RX4 17 "KnotBand" "pictures" "[LKnotBand$Picture;", Cond.methodLink RX4 48 yX4_needElement, Cond.static yX4_needElement, Cond.code yX4_needElement cX4_needElement 2 none, Cond.classLink RX4 147 "java/util/NoSuchElementException", Cond.initialized "java/util/NoSuchElementException", Cond.methodLink RX4 144 yX1_workOut, Cond.instanceMethod yX1_workOut]
def wsL_suspect_r2 : List Cond := [Cond.selects RX1 yX1_workOut yX1_workOut, Cond.initialized RX1, Cond.code yX1_workOut cX1_workOut 3 none, Cond.fieldLink RX1 32 "KnotBand$Loom" "now" "LKnotBand$Standings;", Cond.fieldLink RX1 27 "KnotBand$Loom" "ahead" "[LKnotBand$Standings;", Cond.methodLink RX1 36 yX1_listKnots, Cond.instanceMethod yX1_listKnots, Cond.selects RX1 yX1_listKnots yX1_listKnots, Cond.code yX1_listKnots cX1_listKnots 5 none, Cond.fieldLink RX1 21 "KnotBand$Loom" "knotCount" "I", Cond.fieldLink RX1 9 "KnotBand$Loom" "names" "[I", Cond.fieldLink RX1 15 "KnotBand$Loom" "lefts" "[I", Cond.fieldLink RX1 18 "KnotBand$Loom" "wished" "[I", Cond.static yX4_knotsIn, Cond.code yX4_knotsIn cX4_knotsIn 2 (some .int), Cond.static yX4_leftPlaceOf, Cond.code yX4_leftPlaceOf cX4_leftPlaceOf 2 (some .int), Cond.static yX4_spotOf, Cond.code yX4_spotOf cX4_spotOf 2 (some .int), Cond.methodLink RX1 40 yX1_workBackward, Cond.instanceMethod yX1_workBackward, Cond.selects RX1 yX1_workBackward yX1_workBackward, Cond.code yX1_workBackward cX1_workBackward 2 none, Cond.methodLink RX1 43 yX3_fill]
def wsL_suspect_r3 : List Cond := [Cond.instanceMethod yX3_fill, Cond.selects RX3 yX3_fill yX3_fill, Cond.initialized RX3, Cond.code yX3_fill cX3_fill 2 none, Cond.fieldLink RX3 11 "KnotBand$Standings" "words" "[J", Cond.constantLong RX3 15 (-1), Cond.methodLink RX1 100 yX3_spread, Cond.instanceMethod yX3_spread, Cond.selects RX3 yX3_spread yX3_spread, Cond.code yX3_spread cX3_spread 3 none, Cond.fieldLink RX3 31 "KnotBand$Standings" "PLACE_3_LESS" "[J", Cond.fieldLink RX3 38 "KnotBand$Standings" "PLACE_4_LESS" "[J", Cond.methodLink RX3 27 yX3_spreadAcross, Cond.instanceMethod yX3_spreadAcross, Cond.selects RX3 yX3_spreadAcross yX3_spreadAcross, Cond.code yX3_spreadAcross cX3_spreadAcross 7 none, Cond.constantLong RX3 21 (65535), Cond.methodLink RX3 34 yX3_spreadInside, Cond.instanceMethod yX3_spreadInside, Cond.selects RX3 yX3_spreadInside yX3_spreadInside, Cond.code yX3_spreadInside cX3_spreadInside 11 none, Cond.methodLink RX3 41 yX3_spreadBetween, Cond.instanceMethod yX3_spreadBetween, Cond.selects RX3 yX3_spreadBetween yX3_spreadBetween]
def wsL_suspect_r4 : List Cond := [Cond.code yX3_spreadBetween cX3_spreadBetween 4 none, Cond.static yX4_exchanged, Cond.code yX4_exchanged cX4_exchanged 3 (some .int), Cond.methodLink RX1 104 yX3_keepEither, Cond.instanceMethod yX3_keepEither, Cond.selects RX3 yX3_keepEither yX3_keepEither, Cond.code yX3_keepEither cX3_keepEither 4 none, Cond.methodLink RX3 17 yX3_having, Cond.static yX3_having, Cond.code yX3_having cX3_having 3 (some .long), Cond.constantLong RX3 23 (4222189076152335), Cond.constantLong RX3 25 (1229782938247303441), Cond.methodLink RX1 51 yX3_keep, Cond.instanceMethod yX3_keep, Cond.selects RX3 yX3_keep yX3_keep, Cond.code yX3_keep cX3_keep 4 none, Cond.methodLink RX1 58 yX3_countShared, Cond.instanceMethod yX3_countShared, Cond.selects RX3 yX3_countShared yX3_countShared, Cond.code yX3_countShared cX3_countShared 4 (some .int), Cond.methodLink RX3 49 yJ13_bitCount_95d88, Cond.static yJ13_bitCount_95d88, Cond.initialized RJ13, Cond.code yJ13_bitCount_95d88 cJ13_bitCount_95d88 2 (some .int)]
def wsL_suspect_r5 : List Cond := [Cond.constantLong RJ13 314 (6148914691236517205), Cond.constantLong RJ13 316 (3689348814741910323), Cond.constantLong RJ13 318 (1085102592571150095), Cond.methodLink RX1 65 yX3_firstShared, Cond.instanceMethod yX3_firstShared, Cond.selects RX3 yX3_firstShared yX3_firstShared, Cond.code yX3_firstShared cX3_firstShared 6 (some .int), Cond.methodLink RX1 71 yX1_chooseKinds, Cond.instanceMethod yX1_chooseKinds, Cond.selects RX1 yX1_chooseKinds yX1_chooseKinds, Cond.code yX1_chooseKinds cX1_chooseKinds 6 none, Cond.methodLink RX1 107 yX1_leastKind, Cond.instanceMethod yX1_leastKind, Cond.selects RX1 yX1_leastKind yX1_leastKind, Cond.code yX1_leastKind cX1_leastKind 6 (some .int), Cond.static yX4_showingPlace, Cond.code yX4_showingPlace cX4_showingPlace 2 (some .int), Cond.static yX4_colourIn, Cond.code yX4_colourIn cX4_colourIn 2 (some .int), Cond.methodLink RX4 154 yX4_bitOf, Cond.static yX4_bitOf, Cond.code yX4_bitOf cX4_bitOf 1 (some .int), Cond.methodLink RX1 117 yX1_standingBehind, Cond.instanceMethod yX1_standingBehind]
def wsL_suspect_r6 : List Cond := [Cond.selects RX1 yX1_standingBehind yX1_standingBehind, Cond.code yX1_standingBehind cX1_standingBehind 4 (some .int), Cond.methodLink RX1 126 yX3_has, Cond.instanceMethod yX3_has, Cond.selects RX3 yX3_has yX3_has, Cond.code yX3_has cX3_has 2 (some .boolean), Cond.static yX4_withKind, Cond.code yX4_withKind cX4_withKind 3 (some .int), Cond.methodLink RX1 74 yX1_findSuspects, Cond.instanceMethod yX1_findSuspects, Cond.selects RX1 yX1_findSuspects yX1_findSuspects, Cond.code yX1_findSuspects cX1_findSuspects 3 none]
def wsL_suspect : List Cond := .codeWith yL_suspect cL_suspect 5 (some .int) [(0, 10, 13, 13)] :: ((wsL_suspect_r1 ++ (wsL_suspect_r2 ++ (wsL_suspect_r3 ++ (wsL_suspect_r4 ++ (wsL_suspect_r5 ++ wsL_suspect_r6))))) ++ wsX20 ++ wsX40 ++ wsX10 ++ wsX30 ++ (vx_atN RX4 151).filter goodWord)
def wsL_count : List Cond := .codeWith yL_count cL_count 4 (some .int) [(0, 9, 12, 13)] :: ([.classLink RL 13 "java/util/NoSuchElementException", .methodLink RL 63 yX4_count, .instanceMethod yX4_count, .selects RX4 yX4_count yX4_count, .initialized RX4, .code yX4_count cX4_count 2 (some .int), .fieldLink RX4 28 "KnotBand" "bandCount" "I", .fieldLink RX4 32 "KnotBand" "pictureCount" "I", .methodLink RX4 48 yX4_needElement, .static yX4_needElement, .code yX4_needElement cX4_needElement 2 none, .classLink RX4 147 "java/util/NoSuchElementException", .initialized "java/util/NoSuchElementException"] ++ wsX40 ++ (vx_atN RX4 151).filter goodWord)
def wsL_law0_r1 : List Cond := [Cond.classLink RL 8 RX4, Cond.instantiable RX4 5, Cond.initialized RX4, Cond.classLink RL 67 RX5, Cond.instantiable RX5 15, Cond.initialized RX5, Cond.arrayClass .long, Cond.methodLink RL 66 yX4_init, Cond.instanceMethod yX4_init, Cond.code yX4_init cX4_init 2 none, Cond.methodLink RX4 3 objectInit, Cond.instanceMethod objectInit, Cond.code objectInit ⟨#[0xb1]⟩ 1 none, Cond.classLink RX4 9 RX0, Cond.fieldLink RX4 11 "KnotBand" "bands" "[LKnotBand$Band;", Cond.classLink RX4 15 RX2, Cond.fieldLink RX4 17 "KnotBand" "pictures" "[LKnotBand$Picture;", Cond.classLink RX4 21 RX1, Cond.instantiable RX1 6, Cond.initialized RX1, Cond.fieldLink RX4 24 "KnotBand" "loom" "LKnotBand$Loom;", Cond.fieldLink RX4 28 "KnotBand" "bandCount" "I", Cond.fieldLink RX4 32 "KnotBand" "pictureCount" "I", Cond.instantiable RX0 8]
def wsL_law0_r2 : List Cond := [Cond.initialized RX0, Cond.instantiable RX2 10, Cond.initialized RX2, Cond.methodLink RX4 23 yX1_init, Cond.instanceMethod yX1_init, Cond.code yX1_init cX1_init 2 none, Cond.methodLink RX1 3 objectInit, Cond.arrayClass .int, Cond.fieldLink RX1 9 "KnotBand$Loom" "names" "[I", Cond.fieldLink RX1 15 "KnotBand$Loom" "lefts" "[I", Cond.fieldLink RX1 18 "KnotBand$Loom" "wished" "[I", Cond.fieldLink RX1 21 "KnotBand$Loom" "knotCount" "I", Cond.classLink RX1 25 RX3, Cond.fieldLink RX1 27 "KnotBand$Loom" "ahead" "[LKnotBand$Standings;", Cond.instantiable RX3 1, Cond.initialized RX3, Cond.fieldLink RX1 32 "KnotBand$Loom" "now" "LKnotBand$Standings;", Cond.instanceMethod yX3_init, Cond.code yX3_init cX3_init 1 none, Cond.methodLink RX3 5 objectInit, Cond.fieldLink RX3 11 "KnotBand$Standings" "words" "[J", Cond.instanceMethod yX0_init, Cond.code yX0_init cX0_init 1 none, Cond.methodLink RX0 3 objectInit]
def wsL_law0_r3 : List Cond := [Cond.fieldLink RX0 9 "KnotBand$Band" "colours" "[I", Cond.fieldLink RX0 15 "KnotBand$Band" "kinds" "[I", Cond.fieldLink RX0 18 "KnotBand$Band" "threads" "I", Cond.fieldLink RX0 22 "KnotBand$Band" "rows" "I", Cond.fieldLink RX0 25 "KnotBand$Band" "standing" "[I", Cond.fieldLink RX0 28 "KnotBand$Band" "spent" "[I", Cond.fieldLink RX0 31 "KnotBand$Band" "shown" "[I", Cond.fieldLink RX0 34 "KnotBand$Band" "repeated" "[I", Cond.instanceMethod yX2_init, Cond.code yX2_init cX2_init 1 none, Cond.methodLink RX2 3 objectInit, Cond.fieldLink RX2 9 "KnotBand$Picture" "told" "[I", Cond.fieldLink RX2 15 "KnotBand$Picture" "toldAtFirst" "[I", Cond.fieldLink RX2 18 "KnotBand$Picture" "threads" "I", Cond.fieldLink RX2 22 "KnotBand$Picture" "rows" "I", Cond.fieldLink RX2 25 "KnotBand$Picture" "workedOut" "Z", Cond.fieldLink RX2 29 "KnotBand$Picture" "startCount" "I", Cond.fieldLink RX2 32 "KnotBand$Picture" "firstStart" "I", Cond.fieldLink RX2 35 "KnotBand$Picture" "kinds" "[I", Cond.fieldLink RX2 38 "KnotBand$Picture" "suspects" "[I", Cond.fieldLink RX2 41 "KnotBand$Picture" "suspectCount" "I", Cond.methodLink RL 69 yX5_init, Cond.instanceMethod yX5_init, Cond.code yX5_init cX5_init 1 none]
def wsL_law0_r4 : List Cond := [Cond.methodLink RX5 1 objectInit, Cond.fieldLink RX5 7 "KnotBandModel" "threads" "[I", Cond.fieldLink RX5 13 "KnotBandModel" "rows" "[I", Cond.fieldLink RX5 16 "KnotBandModel" "colours" "[I", Cond.fieldLink RX5 19 "KnotBandModel" "kinds" "[I", Cond.fieldLink RX5 22 "KnotBandModel" "width" "[I", Cond.fieldLink RX5 25 "KnotBandModel" "high" "[I", Cond.fieldLink RX5 28 "KnotBandModel" "seen" "[I", Cond.fieldLink RX5 31 "KnotBandModel" "must" "[I", Cond.fieldLink RX5 34 "KnotBandModel" "at" "[I", Cond.fieldLink RX5 37 "KnotBandModel" "now" "[I", Cond.fieldLink RX5 40 "KnotBandModel" "then" "[I", Cond.constant RX5 43 (69632), Cond.arrayClass .boolean, Cond.fieldLink RX5 44 "KnotBandModel" "can" "[Z", Cond.methodLink RL 70 yX4_band, Cond.instanceMethod yX4_band, Cond.selects RX4 yX4_band yX4_band, Cond.code yX4_band cX4_band 2 (some .int), Cond.methodLink RX4 37 yX4_mayBeThreads, Cond.static yX4_mayBeThreads, Cond.code yX4_mayBeThreads cX4_mayBeThreads 1 (some .boolean), Cond.methodLink RL 73 yX5_band, Cond.instanceMethod yX5_band]
def wsL_law0_r5 : List Cond := [Cond.selects RX5 yX5_band yX5_band, Cond.code yX5_band cX5_band 2 (some .int), Cond.fieldLink RX5 48 "KnotBandModel" "thrown" "I", Cond.fieldLink RX5 52 "KnotBandModel" "bands" "I", Cond.methodLink RL 74 yL_colour, Cond.static yL_colour, Cond.initialized RL, Cond.codeWith yL_colour cL_colour 6 (some .int) [(0, 12, 15, 13), (0, 12, 19, 15)], Cond.classLink RL 13 "java/util/NoSuchElementException", Cond.classLink RL 15 "java/lang/IllegalArgumentException", Cond.methodLink RL 7 yX4_colour, Cond.instanceMethod yX4_colour, Cond.selects RX4 yX4_colour yX4_colour, Cond.code yX4_colour cX4_colour 6 (some .int), Cond.methodLink RX4 44 yX4_bandAt, Cond.instanceMethod yX4_bandAt, Cond.selects RX4 yX4_bandAt yX4_bandAt, Cond.code yX4_bandAt cX4_bandAt 2 (some (.object "KnotBand$Band")), Cond.methodLink RX4 48 yX4_needElement, Cond.static yX4_needElement, Cond.code yX4_needElement cX4_needElement 2 none, Cond.classLink RX4 147 "java/util/NoSuchElementException", Cond.initialized "java/util/NoSuchElementException", Cond.methodLink RX4 52 yX4_needArgument]
def wsL_law0_r6 : List Cond := [Cond.static yX4_needArgument, Cond.code yX4_needArgument cX4_needArgument 2 none, Cond.classLink RX4 96 "java/lang/IllegalArgumentException", Cond.initialized "java/lang/IllegalArgumentException", Cond.methodLink RL 79 yX5_colour, Cond.instanceMethod yX5_colour, Cond.selects RX5 yX5_colour yX5_colour, Cond.code yX5_colour cX5_colour 5 (some .int), Cond.methodLink RX5 59 yX5_isBand, Cond.instanceMethod yX5_isBand, Cond.selects RX5 yX5_isBand yX5_isBand, Cond.code yX5_isBand cX5_isBand 2 (some .boolean), Cond.methodLink RX5 55 yX5_right, Cond.instanceMethod yX5_right, Cond.selects RX5 yX5_right yX5_right, Cond.code yX5_right cX5_right 3 (some .boolean), Cond.methodLink RL 80 yX5_thrown, Cond.instanceMethod yX5_thrown, Cond.selects RX5 yX5_thrown yX5_thrown, Cond.code yX5_thrown cX5_thrown 1 (some .int), Cond.methodLink RL 84 yL_row, Cond.static yL_row, Cond.codeWith yL_row cL_row 5 (some .int) [(0, 10, 13, 13)], Cond.methodLink RL 17 yX4_row]
def wsL_law0_r7 : List Cond := [Cond.instanceMethod yX4_row, Cond.selects RX4 yX4_row yX4_row, Cond.code yX4_row cX4_row 4 (some .int), Cond.methodLink RL 87 yX5_row, Cond.instanceMethod yX5_row, Cond.selects RX5 yX5_row yX5_row, Cond.code yX5_row cX5_row 4 (some .int), Cond.methodLink RL 88 yL_knot, Cond.static yL_knot, Cond.codeWith yL_knot cL_knot 7 (some .int) [(0, 14, 17, 13), (0, 14, 21, 15)], Cond.methodLink RL 21 yX4_knot, Cond.instanceMethod yX4_knot, Cond.selects RX4 yX4_knot yX4_knot, Cond.code yX4_knot cX4_knot 7 (some .int), Cond.methodLink RX4 65 yX4_knotsIn, Cond.static yX4_knotsIn, Cond.code yX4_knotsIn cX4_knotsIn 2 (some .int), Cond.methodLink RX4 69 yX4_kindIn, Cond.static yX4_kindIn, Cond.code yX4_kindIn cX4_kindIn 2 (some .int), Cond.methodLink RX4 72 yX4_withKind, Cond.static yX4_withKind, Cond.code yX4_withKind cX4_withKind 3 (some .int), Cond.methodLink RL 91 yX5_knot]
def wsL_law0_r8 : List Cond := [Cond.instanceMethod yX5_knot, Cond.selects RX5 yX5_knot yX5_knot, Cond.code yX5_knot cX5_knot 6 (some .int), Cond.methodLink RX5 67 yX5_isKnot, Cond.instanceMethod yX5_isKnot, Cond.selects RX5 yX5_isKnot yX5_isKnot, Cond.code yX5_isKnot cX5_isKnot 4 (some .boolean), Cond.methodLink RX5 63 yX5_knots, Cond.static yX5_knots, Cond.code yX5_knots cX5_knots 2 (some .int), Cond.methodLink RL 92 yL_shows, Cond.static yL_shows, Cond.codeWith yL_shows cL_shows 6 (some .int) [(0, 12, 15, 13)], Cond.methodLink RL 25 yX4_shows, Cond.instanceMethod yX4_shows, Cond.selects RX4 yX4_shows yX4_shows, Cond.code yX4_shows cX4_shows 5 (some .int), Cond.methodLink RX4 76 yX0_walk, Cond.instanceMethod yX0_walk, Cond.selects RX0 yX0_walk yX0_walk, Cond.code yX0_walk cX0_walk 5 none, Cond.methodLink RX0 52 yX0_walkKnot, Cond.instanceMethod yX0_walkKnot, Cond.selects RX0 yX0_walkKnot yX0_walkKnot]
def wsL_law0_r9 : List Cond := [Cond.code yX0_walkKnot cX0_walkKnot 9 none, Cond.static yX4_leftPlaceOf, Cond.code yX4_leftPlaceOf cX4_leftPlaceOf 2 (some .int), Cond.static yX4_showingPlace, Cond.code yX4_showingPlace cX4_showingPlace 2 (some .int), Cond.static yX4_spotOf, Cond.code yX4_spotOf cX4_spotOf 2 (some .int), Cond.methodLink RX4 83 yX4_spotOf, Cond.methodLink RL 94 yX5_shows, Cond.instanceMethod yX5_shows, Cond.selects RX5 yX5_shows yX5_shows, Cond.code yX5_shows cX5_shows 4 (some .int), Cond.methodLink RX5 82 yX5_showsOf, Cond.instanceMethod yX5_showsOf, Cond.selects RX5 yX5_showsOf yX5_showsOf, Cond.code yX5_showsOf cX5_showsOf 4 (some .int), Cond.methodLink RX5 74 yX5_stands, Cond.instanceMethod yX5_stands, Cond.selects RX5 yX5_stands yX5_stands, Cond.code yX5_stands cX5_stands 7 none, Cond.methodLink RX5 71 yX5_left, Cond.static yX5_left, Cond.code yX5_left cX5_left 2 (some .int), Cond.methodLink RX5 78 yX5_of]
def wsL_law0_r10 : List Cond := [Cond.instanceMethod yX5_of, Cond.selects RX5 yX5_of yX5_of, Cond.code yX5_of cX5_of 6 (some .int), Cond.methodLink RL 95 yL_thread, Cond.static yL_thread, Cond.codeWith yL_thread cL_thread 6 (some .int) [(0, 12, 15, 13)], Cond.methodLink RL 28 yX4_thread, Cond.instanceMethod yX4_thread, Cond.selects RX4 yX4_thread yX4_thread, Cond.code yX4_thread cX4_thread 5 (some .int), Cond.methodLink RL 97 yX5_thread, Cond.instanceMethod yX5_thread, Cond.selects RX5 yX5_thread yX5_thread, Cond.code yX5_thread cX5_thread 4 (some .int), Cond.methodLink RL 98 yL_used, Cond.static yL_used, Cond.codeWith yL_used cL_used 5 (some .int) [(0, 10, 13, 13)], Cond.methodLink RL 31 yX4_used, Cond.instanceMethod yX4_used, Cond.selects RX4 yX4_used yX4_used, Cond.code yX4_used cX4_used 4 (some .int), Cond.methodLink RL 100 yX5_used, Cond.instanceMethod yX5_used, Cond.selects RX5 yX5_used yX5_used]
def wsL_law0_r11 : List Cond := [Cond.code yX5_used cX5_used 6 (some .int), Cond.methodLink RL 101 yL_home, Cond.static yL_home, Cond.codeWith yL_home cL_home 5 (some .int) [(0, 10, 13, 13)], Cond.methodLink RL 34 yX4_home, Cond.instanceMethod yX4_home, Cond.selects RX4 yX4_home yX4_home, Cond.code yX4_home cX4_home 4 (some .int), Cond.methodLink RX4 92 yX0_timesToHome, Cond.instanceMethod yX0_timesToHome, Cond.selects RX0 yX0_timesToHome yX0_timesToHome, Cond.code yX0_timesToHome cX0_timesToHome 4 (some .int), Cond.methodLink RX0 68 yX0_walk, Cond.methodLink RX0 72 yX0_isHome, Cond.instanceMethod yX0_isHome, Cond.selects RX0 yX0_isHome yX0_isHome, Cond.code yX0_isHome cX0_isHome 5 (some .boolean), Cond.methodLink RL 103 yX5_home, Cond.instanceMethod yX5_home, Cond.selects RX5 yX5_home yX5_home, Cond.code yX5_home cX5_home 6 (some .int), Cond.methodLink RL 104 yL_unlike, Cond.static yL_unlike, Cond.codeWith yL_unlike cL_unlike 5 (some .int) [(0, 10, 13, 13), (0, 10, 17, 15)]]
def wsL_law0_r12 : List Cond := [Cond.methodLink RL 37 yX4_unlike, Cond.instanceMethod yX4_unlike, Cond.selects RX4 yX4_unlike yX4_unlike, Cond.code yX4_unlike cX4_unlike 10 (some .int), Cond.methodLink RL 106 yX5_unlike, Cond.instanceMethod yX5_unlike, Cond.selects RX5 yX5_unlike yX5_unlike, Cond.code yX5_unlike cX5_unlike 6 (some .int), Cond.methodLink RL 107 yX4_picture, Cond.instanceMethod yX4_picture, Cond.selects RX4 yX4_picture yX4_picture, Cond.code yX4_picture cX4_picture 3 (some .int), Cond.methodLink RX4 103 yX2_begin, Cond.instanceMethod yX2_begin, Cond.selects RX2 yX2_begin yX2_begin, Cond.code yX2_begin cX2_begin 4 none, Cond.methodLink RL 110 yX5_picture, Cond.instanceMethod yX5_picture, Cond.selects RX5 yX5_picture yX5_picture, Cond.code yX5_picture cX5_picture 4 (some .int), Cond.fieldLink RX5 86 "KnotBandModel" "pictures" "I", Cond.methodLink RL 111 yL_see, Cond.static yL_see, Cond.codeWith yL_see cL_see 7 (some .int) [(0, 14, 17, 13), (0, 14, 21, 15)]]
def wsL_law0_r13 : List Cond := [Cond.methodLink RL 40 yX4_see, Cond.instanceMethod yX4_see, Cond.selects RX4 yX4_see yX4_see, Cond.code yX4_see cX4_see 8 (some .int), Cond.methodLink RX4 106 yX4_pictureAt, Cond.instanceMethod yX4_pictureAt, Cond.selects RX4 yX4_pictureAt yX4_pictureAt, Cond.code yX4_pictureAt cX4_pictureAt 2 (some (.object "KnotBand$Picture")), Cond.methodLink RL 113 yX5_see, Cond.instanceMethod yX5_see, Cond.selects RX5 yX5_see yX5_see, Cond.code yX5_see cX5_see 6 (some .int), Cond.methodLink RX5 89 yX5_isPicture, Cond.instanceMethod yX5_isPicture, Cond.selects RX5 yX5_isPicture yX5_isPicture, Cond.code yX5_isPicture cX5_isPicture 2 (some .boolean), Cond.methodLink RL 114 yL_must, Cond.static yL_must, Cond.codeWith yL_must cL_must 6 (some .int) [(0, 12, 15, 13), (0, 12, 19, 15)], Cond.methodLink RL 43 yX4_must, Cond.instanceMethod yX4_must, Cond.selects RX4 yX4_must yX4_must, Cond.code yX4_must cX4_must 6 (some .int), Cond.methodLink RL 116 yX5_must]
def wsL_law0_r14 : List Cond := [Cond.instanceMethod yX5_must, Cond.selects RX5 yX5_must yX5_must, Cond.code yX5_must cX5_must 5 (some .int), Cond.methodLink RL 117 yL_copy, Cond.static yL_copy, Cond.codeWith yL_copy cL_copy 5 (some .int) [(0, 17, 20, 13)], Cond.methodLink RL 46 yX4_copy, Cond.instanceMethod yX4_copy, Cond.selects RX4 yX4_copy yX4_copy, Cond.code yX4_copy cX4_copy 6 (some .boolean), Cond.methodLink RL 119 yX5_copy, Cond.instanceMethod yX5_copy, Cond.selects RX5 yX5_copy yX5_copy, Cond.code yX5_copy cX5_copy 5 (some .boolean), Cond.methodLink RL 120 yL_starts, Cond.static yL_starts, Cond.codeWith yL_starts cL_starts 4 (some .int) [(0, 9, 12, 13)], Cond.methodLink RL 50 yX4_starts, Cond.instanceMethod yX4_starts, Cond.selects RX4 yX4_starts yX4_starts, Cond.code yX4_starts cX4_starts 2 (some .int), Cond.methodLink RX4 122 yX4_workedOutAt, Cond.instanceMethod yX4_workedOutAt, Cond.selects RX4 yX4_workedOutAt yX4_workedOutAt]
def wsL_law0_r15 : List Cond := [Cond.code yX4_workedOutAt cX4_workedOutAt 3 (some (.object "KnotBand$Picture")), Cond.methodLink RX4 144 yX1_workOut, Cond.instanceMethod yX1_workOut, Cond.selects RX1 yX1_workOut yX1_workOut, Cond.code yX1_workOut cX1_workOut 3 none, Cond.methodLink RX1 36 yX1_listKnots, Cond.instanceMethod yX1_listKnots, Cond.selects RX1 yX1_listKnots yX1_listKnots, Cond.code yX1_listKnots cX1_listKnots 5 none, Cond.methodLink RX1 40 yX1_workBackward, Cond.instanceMethod yX1_workBackward, Cond.selects RX1 yX1_workBackward yX1_workBackward, Cond.code yX1_workBackward cX1_workBackward 2 none, Cond.methodLink RX1 43 yX3_fill, Cond.instanceMethod yX3_fill, Cond.selects RX3 yX3_fill yX3_fill, Cond.code yX3_fill cX3_fill 2 none, Cond.constantLong RX3 15 (-1), Cond.methodLink RX1 100 yX3_spread, Cond.instanceMethod yX3_spread, Cond.selects RX3 yX3_spread yX3_spread, Cond.code yX3_spread cX3_spread 3 none, Cond.fieldLink RX3 31 "KnotBand$Standings" "PLACE_3_LESS" "[J", Cond.fieldLink RX3 38 "KnotBand$Standings" "PLACE_4_LESS" "[J"]
def wsL_law0_r16 : List Cond := [Cond.methodLink RX3 27 yX3_spreadAcross, Cond.instanceMethod yX3_spreadAcross, Cond.selects RX3 yX3_spreadAcross yX3_spreadAcross, Cond.code yX3_spreadAcross cX3_spreadAcross 7 none, Cond.constantLong RX3 21 (65535), Cond.methodLink RX3 34 yX3_spreadInside, Cond.instanceMethod yX3_spreadInside, Cond.selects RX3 yX3_spreadInside yX3_spreadInside, Cond.code yX3_spreadInside cX3_spreadInside 11 none, Cond.methodLink RX3 41 yX3_spreadBetween, Cond.instanceMethod yX3_spreadBetween, Cond.selects RX3 yX3_spreadBetween yX3_spreadBetween, Cond.code yX3_spreadBetween cX3_spreadBetween 4 none, Cond.static yX4_exchanged, Cond.code yX4_exchanged cX4_exchanged 3 (some .int), Cond.methodLink RX1 104 yX3_keepEither, Cond.instanceMethod yX3_keepEither, Cond.selects RX3 yX3_keepEither yX3_keepEither, Cond.code yX3_keepEither cX3_keepEither 4 none, Cond.methodLink RX3 17 yX3_having, Cond.static yX3_having, Cond.code yX3_having cX3_having 3 (some .long), Cond.constantLong RX3 23 (4222189076152335), Cond.constantLong RX3 25 (1229782938247303441)]
def wsL_law0_r17 : List Cond := [Cond.methodLink RX1 51 yX3_keep, Cond.instanceMethod yX3_keep, Cond.selects RX3 yX3_keep yX3_keep, Cond.code yX3_keep cX3_keep 4 none, Cond.methodLink RX1 58 yX3_countShared, Cond.instanceMethod yX3_countShared, Cond.selects RX3 yX3_countShared yX3_countShared, Cond.code yX3_countShared cX3_countShared 4 (some .int), Cond.methodLink RX3 49 yJ13_bitCount_95d88, Cond.static yJ13_bitCount_95d88, Cond.initialized RJ13, Cond.code yJ13_bitCount_95d88 cJ13_bitCount_95d88 2 (some .int), Cond.constantLong RJ13 314 (6148914691236517205), Cond.constantLong RJ13 316 (3689348814741910323), Cond.constantLong RJ13 318 (1085102592571150095), Cond.methodLink RX1 65 yX3_firstShared, Cond.instanceMethod yX3_firstShared, Cond.selects RX3 yX3_firstShared yX3_firstShared, Cond.code yX3_firstShared cX3_firstShared 6 (some .int), Cond.methodLink RX1 71 yX1_chooseKinds, Cond.instanceMethod yX1_chooseKinds, Cond.selects RX1 yX1_chooseKinds yX1_chooseKinds, Cond.code yX1_chooseKinds cX1_chooseKinds 6 none, Cond.methodLink RX1 107 yX1_leastKind]
def wsL_law0_r18 : List Cond := [Cond.instanceMethod yX1_leastKind, Cond.selects RX1 yX1_leastKind yX1_leastKind, Cond.code yX1_leastKind cX1_leastKind 6 (some .int), Cond.static yX4_colourIn, Cond.code yX4_colourIn cX4_colourIn 2 (some .int), Cond.methodLink RX4 154 yX4_bitOf, Cond.static yX4_bitOf, Cond.code yX4_bitOf cX4_bitOf 1 (some .int), Cond.methodLink RX1 117 yX1_standingBehind, Cond.instanceMethod yX1_standingBehind, Cond.selects RX1 yX1_standingBehind yX1_standingBehind, Cond.code yX1_standingBehind cX1_standingBehind 4 (some .int), Cond.methodLink RX1 126 yX3_has, Cond.instanceMethod yX3_has, Cond.selects RX3 yX3_has yX3_has, Cond.code yX3_has cX3_has 2 (some .boolean), Cond.methodLink RX1 74 yX1_findSuspects, Cond.instanceMethod yX1_findSuspects, Cond.selects RX1 yX1_findSuspects yX1_findSuspects, Cond.code yX1_findSuspects cX1_findSuspects 3 none, Cond.methodLink RL 123 yX5_starts, Cond.instanceMethod yX5_starts, Cond.selects RX5 yX5_starts yX5_starts, Cond.code yX5_starts cX5_starts 4 (some .int)]
def wsL_law0_r19 : List Cond := [Cond.methodLink RX5 109 yX5_leadsBack, Cond.instanceMethod yX5_leadsBack, Cond.selects RX5 yX5_leadsBack yX5_leadsBack, Cond.code yX5_leadsBack cX5_leadsBack 6 none, Cond.methodLink RX5 98 yX5_states, Cond.instanceMethod yX5_states, Cond.selects RX5 yX5_states yX5_states, Cond.code yX5_states cX5_states 2 (some .int), Cond.methodLink RX5 102 yX5_fits, Cond.instanceMethod yX5_fits, Cond.selects RX5 yX5_fits yX5_fits, Cond.code yX5_fits cX5_fits 7 (some .boolean), Cond.methodLink RX5 95 yX5_digit, Cond.static yX5_digit, Cond.code yX5_digit cX5_digit 3 (some .int), Cond.methodLink RX5 105 yX5_changed, Cond.static yX5_changed, Cond.code yX5_changed cX5_changed 6 (some .int), Cond.methodLink RX5 92 yX5_swapped, Cond.static yX5_swapped, Cond.code yX5_swapped cX5_swapped 6 (some .int), Cond.methodLink RX5 113 yX5_isStart, Cond.instanceMethod yX5_isStart, Cond.selects RX5 yX5_isStart yX5_isStart]
def wsL_law0_r20 : List Cond := [Cond.code yX5_isStart cX5_isStart 5 (some .boolean), Cond.methodLink RL 124 yL_start, Cond.static yL_start, Cond.codeWith yL_start cL_start 5 (some .int) [(0, 10, 13, 13)], Cond.methodLink RL 54 yX4_start, Cond.instanceMethod yX4_start, Cond.selects RX4 yX4_start yX4_start, Cond.code yX4_start cX4_start 4 (some .int), Cond.methodLink RX4 131 yX4_colourIn, Cond.methodLink RL 126 yX5_start, Cond.instanceMethod yX5_start, Cond.selects RX5 yX5_start yX5_start, Cond.code yX5_start cX5_start 4 (some .int), Cond.methodLink RX5 117 yX5_first, Cond.instanceMethod yX5_first, Cond.selects RX5 yX5_first yX5_first, Cond.code yX5_first cX5_first 3 (some .int), Cond.methodLink RL 127 yL_tie, Cond.static yL_tie, Cond.codeWith yL_tie cL_tie 4 (some .int) [(0, 9, 12, 13)], Cond.methodLink RL 57 yX4_tie, Cond.instanceMethod yX4_tie, Cond.selects RX4 yX4_tie yX4_tie, Cond.code yX4_tie cX4_tie 3 (some .int)]
def wsL_law0_r21 : List Cond := [Cond.methodLink RX4 134 yX0_become, Cond.instanceMethod yX0_become, Cond.selects RX0 yX0_become yX0_become, Cond.code yX0_become cX0_become 3 none, Cond.methodLink RL 129 yX5_tie, Cond.instanceMethod yX5_tie, Cond.selects RX5 yX5_tie yX5_tie, Cond.code yX5_tie cX5_tie 10 (some .int), Cond.methodLink RX5 120 yX5_isKind, Cond.instanceMethod yX5_isKind, Cond.selects RX5 yX5_isKind yX5_isKind, Cond.code yX5_isKind cX5_isKind 7 (some .boolean), Cond.methodLink RX5 124 yX5_isOpen, Cond.instanceMethod yX5_isOpen, Cond.selects RX5 yX5_isOpen yX5_isOpen, Cond.code yX5_isOpen cX5_isOpen 7 (some .boolean), Cond.methodLink RL 130 yL_suspect, Cond.static yL_suspect, Cond.codeWith yL_suspect cL_suspect 5 (some .int) [(0, 10, 13, 13)], Cond.methodLink RL 60 yX4_suspect, Cond.instanceMethod yX4_suspect, Cond.selects RX4 yX4_suspect yX4_suspect, Cond.code yX4_suspect cX4_suspect 4 (some .int), Cond.methodLink RL 132 yX5_suspect]
def wsL_law0_r22 : List Cond := [Cond.instanceMethod yX5_suspect, Cond.selects RX5 yX5_suspect yX5_suspect, Cond.code yX5_suspect cX5_suspect 10 (some .int), Cond.methodLink RL 133 yL_count, Cond.static yL_count, Cond.codeWith yL_count cL_count 4 (some .int) [(0, 9, 12, 13)], Cond.methodLink RL 63 yX4_count, Cond.instanceMethod yX4_count, Cond.selects RX4 yX4_count yX4_count, Cond.code yX4_count cX4_count 2 (some .int), Cond.methodLink RL 135 yX5_count, Cond.instanceMethod yX5_count, Cond.selects RX5 yX5_count yX5_count, Cond.code yX5_count cX5_count 2 (some .int)]
def wsL_law0 : List Cond := (wsL_law0_r1 ++ (wsL_law0_r2 ++ (wsL_law0_r3 ++ (wsL_law0_r4 ++ (wsL_law0_r5 ++ (wsL_law0_r6 ++ (wsL_law0_r7 ++ (wsL_law0_r8 ++ (wsL_law0_r9 ++ (wsL_law0_r10 ++ (wsL_law0_r11 ++ (wsL_law0_r12 ++ (wsL_law0_r13 ++ (wsL_law0_r14 ++ (wsL_law0_r15 ++ (wsL_law0_r16 ++ (wsL_law0_r17 ++ (wsL_law0_r18 ++ (wsL_law0_r19 ++ (wsL_law0_r20 ++ (wsL_law0_r21 ++ wsL_law0_r22))))))))))))))))))))) ++ wsX40 ++ wsX50 ++ wsX10 ++ wsX00 ++ wsX20 ++ wsX30 ++ ([] : List Cond)
def wsL_law : List Cond := wsL_law0 ++ (vx_atN RX4 151).filter goodWord ++ (vx_atS RX4 100 "java/lang/IllegalArgumentException" ["java/lang/RuntimeException", "java/lang/Exception"]).filter goodWord
theorem inlX0 : ∀ w ∈ wsX00, w ∈ wsL_law := fun _ h => List.mem_append_left _ (List.mem_append_left _ (List.mem_append_left _ (List.mem_append_left _ (List.mem_append_left _ (List.mem_append_right _ h)))))
theorem inlX1 : ∀ w ∈ wsX10, w ∈ wsL_law := fun _ h => List.mem_append_left _ (List.mem_append_left _ (List.mem_append_left _ (List.mem_append_left _ (List.mem_append_left _ (List.mem_append_left _ (List.mem_append_right _ h))))))
theorem inlX2 : ∀ w ∈ wsX20, w ∈ wsL_law := fun _ h => List.mem_append_left _ (List.mem_append_left _ (List.mem_append_left _ (List.mem_append_left _ (List.mem_append_right _ h))))
theorem inlX3 : ∀ w ∈ wsX30, w ∈ wsL_law := fun _ h => List.mem_append_left _ (List.mem_append_left _ (List.mem_append_left _ (List.mem_append_right _ h)))
theorem inlX4 : ∀ w ∈ wsX40, w ∈ wsL_law := fun _ h => List.mem_append_left _ (List.mem_append_left _ (List.mem_append_left _ (List.mem_append_left _ (List.mem_append_left _ (List.mem_append_left _ (List.mem_append_left _ (List.mem_append_left _ (List.mem_append_right _ h))))))))
theorem inlX5 : ∀ w ∈ wsX50, w ∈ wsL_law := fun _ h => List.mem_append_left _ (List.mem_append_left _ (List.mem_append_left _ (List.mem_append_left _ (List.mem_append_left _ (List.mem_append_left _ (List.mem_append_left _ (List.mem_append_right _ h)))))))
theorem dX0_init_0 : decode cX0_init 0 = .ok (.aload_n 0, 1) := by decide +kernel
theorem dX0_init_1 : decode cX0_init 1 = .ok (.invokespecial 3, 3) := by decide +kernel
theorem dX0_init_4 : decode cX0_init 4 = .ok (.aload_n 0, 1) := by decide +kernel
theorem dX0_init_5 : decode cX0_init 5 = .ok (.bipush 6, 2) := by decide +kernel
theorem dX0_init_7 : decode cX0_init 7 = .ok (.newarray .int, 2) := by decide +kernel
theorem dX0_init_9 : decode cX0_init 9 = .ok (.putfield 9, 3) := by decide +kernel
theorem dX0_init_12 : decode cX0_init 12 = .ok (.aload_n 0, 1) := by decide +kernel
theorem dX0_init_13 : decode cX0_init 13 = .ok (.bipush 16, 2) := by decide +kernel
theorem dX0_init_15 : decode cX0_init 15 = .ok (.newarray .int, 2) := by decide +kernel
theorem dX0_init_17 : decode cX0_init 17 = .ok (.putfield 15, 3) := by decide +kernel
theorem dX0_init_20 : decode cX0_init 20 = .ok (.aload_n 0, 1) := by decide +kernel
theorem dX0_init_21 : decode cX0_init 21 = .ok (.iconst 0, 1) := by decide +kernel
theorem dX0_init_22 : decode cX0_init 22 = .ok (.putfield 18, 3) := by decide +kernel
theorem dX0_init_25 : decode cX0_init 25 = .ok (.aload_n 0, 1) := by decide +kernel
theorem dX0_init_26 : decode cX0_init 26 = .ok (.iconst 0, 1) := by decide +kernel
theorem dX0_init_27 : decode cX0_init 27 = .ok (.putfield 22, 3) := by decide +kernel
theorem dX0_init_30 : decode cX0_init 30 = .ok (.aload_n 0, 1) := by decide +kernel
theorem dX0_init_31 : decode cX0_init 31 = .ok (.bipush 6, 2) := by decide +kernel
theorem dX0_init_33 : decode cX0_init 33 = .ok (.newarray .int, 2) := by decide +kernel
theorem dX0_init_35 : decode cX0_init 35 = .ok (.putfield 25, 3) := by decide +kernel
theorem dX0_init_38 : decode cX0_init 38 = .ok (.aload_n 0, 1) := by decide +kernel
theorem dX0_init_39 : decode cX0_init 39 = .ok (.bipush 6, 2) := by decide +kernel
theorem dX0_init_41 : decode cX0_init 41 = .ok (.newarray .int, 2) := by decide +kernel
theorem dX0_init_43 : decode cX0_init 43 = .ok (.putfield 28, 3) := by decide +kernel
theorem dX0_init_46 : decode cX0_init 46 = .ok (.aload_n 0, 1) := by decide +kernel
theorem dX0_init_47 : decode cX0_init 47 = .ok (.bipush 48, 2) := by decide +kernel
theorem dX0_init_49 : decode cX0_init 49 = .ok (.newarray .int, 2) := by decide +kernel
theorem dX0_init_51 : decode cX0_init 51 = .ok (.putfield 31, 3) := by decide +kernel
theorem dX0_init_54 : decode cX0_init 54 = .ok (.aload_n 0, 1) := by decide +kernel
theorem dX0_init_55 : decode cX0_init 55 = .ok (.bipush 6, 2) := by decide +kernel
theorem dX0_init_57 : decode cX0_init 57 = .ok (.newarray .int, 2) := by decide +kernel
theorem dX0_init_59 : decode cX0_init 59 = .ok (.putfield 34, 3) := by decide +kernel
theorem dX0_init_62 : decode cX0_init 62 = .ok (.return_, 1) := by decide +kernel
set_option maxRecDepth 20000 in
theorem ggX0_become_X4_colourIn : GoodIn wsX0_become wsX4_colourIn := goodIn_r _ [7, 8, 9, 6, 10] (by decide +kernel) (by decide +kernel)
set_option maxRecDepth 20000 in
theorem gX0_become_X4_colourIn_n44 : GoodIn wsX0_become (wsX4_colourIn) := ggX0_become_X4_colourIn
theorem dX0_become_0 : decode cX0_become 0 = .ok (.aload_n 0, 1) := by decide +kernel
theorem dX0_become_1 : decode cX0_become 1 = .ok (.aload_n 1, 1) := by decide +kernel
theorem dX0_become_2 : decode cX0_become 2 = .ok (.getfield 37, 3) := by decide +kernel
theorem dX0_become_5 : decode cX0_become 5 = .ok (.putfield 18, 3) := by decide +kernel
theorem dX0_become_8 : decode cX0_become 8 = .ok (.aload_n 0, 1) := by decide +kernel
theorem dX0_become_9 : decode cX0_become 9 = .ok (.aload_n 1, 1) := by decide +kernel
theorem dX0_become_10 : decode cX0_become 10 = .ok (.getfield 40, 3) := by decide +kernel
theorem dX0_become_13 : decode cX0_become 13 = .ok (.putfield 22, 3) := by decide +kernel
theorem dX0_become_16 : decode cX0_become 16 = .ok (.iconst 0, 1) := by decide +kernel
theorem dX0_become_17 : decode cX0_become 17 = .ok (.istore_n 2, 1) := by decide +kernel
theorem dX0_become_18 : decode cX0_become 18 = .ok (.iload_n 2, 1) := by decide +kernel
theorem dX0_become_19 : decode cX0_become 19 = .ok (.aload_n 0, 1) := by decide +kernel
theorem dX0_become_20 : decode cX0_become 20 = .ok (.getfield 18, 3) := by decide +kernel
theorem dX0_become_23 : decode cX0_become 23 = .ok (.if_icmp .ge 23, 3) := by decide +kernel
theorem dX0_become_26 : decode cX0_become 26 = .ok (.aload_n 0, 1) := by decide +kernel
theorem dX0_become_27 : decode cX0_become 27 = .ok (.getfield 9, 3) := by decide +kernel
theorem dX0_become_30 : decode cX0_become 30 = .ok (.iload_n 2, 1) := by decide +kernel
theorem dX0_become_31 : decode cX0_become 31 = .ok (.aload_n 1, 1) := by decide +kernel
theorem dX0_become_32 : decode cX0_become 32 = .ok (.getfield 41, 3) := by decide +kernel
theorem dX0_become_35 : decode cX0_become 35 = .ok (.iload_n 2, 1) := by decide +kernel
theorem dX0_become_36 : decode cX0_become 36 = .ok (.invokestatic 44, 3) := by decide +kernel
theorem dX0_become_39 : decode cX0_become 39 = .ok (.iastore, 1) := by decide +kernel
theorem dX0_become_40 : decode cX0_become 40 = .ok (.iinc 2 1, 3) := by decide +kernel
theorem dX0_become_43 : decode cX0_become 43 = .ok (.goto (-25), 3) := by decide +kernel
theorem dX0_become_46 : decode cX0_become 46 = .ok (.iconst 0, 1) := by decide +kernel
theorem dX0_become_47 : decode cX0_become 47 = .ok (.istore_n 2, 1) := by decide +kernel
theorem dX0_become_48 : decode cX0_become 48 = .ok (.iload_n 2, 1) := by decide +kernel
theorem dX0_become_49 : decode cX0_become 49 = .ok (.aload_n 0, 1) := by decide +kernel
theorem dX0_become_50 : decode cX0_become 50 = .ok (.getfield 22, 3) := by decide +kernel
theorem dX0_become_53 : decode cX0_become 53 = .ok (.if_icmp .ge 21, 3) := by decide +kernel
theorem dX0_become_56 : decode cX0_become 56 = .ok (.aload_n 0, 1) := by decide +kernel
theorem dX0_become_57 : decode cX0_become 57 = .ok (.getfield 15, 3) := by decide +kernel
theorem dX0_become_60 : decode cX0_become 60 = .ok (.iload_n 2, 1) := by decide +kernel
theorem dX0_become_61 : decode cX0_become 61 = .ok (.aload_n 1, 1) := by decide +kernel
theorem dX0_become_62 : decode cX0_become 62 = .ok (.getfield 48, 3) := by decide +kernel
theorem dX0_become_65 : decode cX0_become 65 = .ok (.iload_n 2, 1) := by decide +kernel
theorem dX0_become_66 : decode cX0_become 66 = .ok (.iaload, 1) := by decide +kernel
theorem dX0_become_67 : decode cX0_become 67 = .ok (.iastore, 1) := by decide +kernel
theorem dX0_become_68 : decode cX0_become 68 = .ok (.iinc 2 1, 3) := by decide +kernel
theorem dX0_become_71 : decode cX0_become 71 = .ok (.goto (-23), 3) := by decide +kernel
theorem dX0_become_74 : decode cX0_become 74 = .ok (.return_, 1) := by decide +kernel
set_option maxRecDepth 20000 in
theorem ggX0_walk_X4_knotsIn : GoodIn wsX0_walk wsX4_knotsIn := goodIn_r _ [6] (by decide +kernel) (by decide +kernel)
set_option maxRecDepth 20000 in
theorem gX0_walk_X4_knotsIn_n49 : GoodIn wsX0_walk (wsX4_knotsIn) := ggX0_walk_X4_knotsIn
set_option maxRecDepth 20000 in
theorem ggX0_walk_X0_walkKnot : GoodIn wsX0_walk wsX0_walkKnot := goodIn_r _ [11, 12, 2, 13, 14, 3, 15, 5, 16, 17, 18, 19, 20, 21, 22, 23, 24, 25, 26, 27, 28, 29, 30] (by decide +kernel) (by decide +kernel)
set_option maxRecDepth 20000 in
theorem gX0_walk_X0_walkKnot : GoodIn wsX0_walk (wsV RX0 52 RX0 yX0_walkKnot wsX0_walkKnot) := goodIn_app (goodIn_of _ (by decide +kernel)) ggX0_walk_X0_walkKnot
theorem dX0_walk_0 : decode cX0_walk 0 = .ok (.iconst 0, 1) := by decide +kernel
theorem dX0_walk_1 : decode cX0_walk 1 = .ok (.istore_n 2, 1) := by decide +kernel
theorem dX0_walk_2 : decode cX0_walk 2 = .ok (.iload_n 2, 1) := by decide +kernel
theorem dX0_walk_3 : decode cX0_walk 3 = .ok (.aload_n 0, 1) := by decide +kernel
theorem dX0_walk_4 : decode cX0_walk 4 = .ok (.getfield 18, 3) := by decide +kernel
theorem dX0_walk_7 : decode cX0_walk 7 = .ok (.if_icmp .ge 23, 3) := by decide +kernel
theorem dX0_walk_10 : decode cX0_walk 10 = .ok (.aload_n 0, 1) := by decide +kernel
theorem dX0_walk_11 : decode cX0_walk 11 = .ok (.getfield 25, 3) := by decide +kernel
theorem dX0_walk_14 : decode cX0_walk 14 = .ok (.iload_n 2, 1) := by decide +kernel
theorem dX0_walk_15 : decode cX0_walk 15 = .ok (.iload_n 2, 1) := by decide +kernel
theorem dX0_walk_16 : decode cX0_walk 16 = .ok (.iastore, 1) := by decide +kernel
theorem dX0_walk_17 : decode cX0_walk 17 = .ok (.aload_n 0, 1) := by decide +kernel
theorem dX0_walk_18 : decode cX0_walk 18 = .ok (.getfield 28, 3) := by decide +kernel
theorem dX0_walk_21 : decode cX0_walk 21 = .ok (.iload_n 2, 1) := by decide +kernel
theorem dX0_walk_22 : decode cX0_walk 22 = .ok (.iconst 0, 1) := by decide +kernel
theorem dX0_walk_23 : decode cX0_walk 23 = .ok (.iastore, 1) := by decide +kernel
theorem dX0_walk_24 : decode cX0_walk 24 = .ok (.iinc 2 1, 3) := by decide +kernel
theorem dX0_walk_27 : decode cX0_walk 27 = .ok (.goto (-25), 3) := by decide +kernel
theorem dX0_walk_30 : decode cX0_walk 30 = .ok (.iconst 0, 1) := by decide +kernel
theorem dX0_walk_31 : decode cX0_walk 31 = .ok (.istore_n 2, 1) := by decide +kernel
theorem dX0_walk_32 : decode cX0_walk 32 = .ok (.iload_n 2, 1) := by decide +kernel
theorem dX0_walk_33 : decode cX0_walk 33 = .ok (.iload_n 1, 1) := by decide +kernel
theorem dX0_walk_34 : decode cX0_walk 34 = .ok (.if_icmp .ge 40, 3) := by decide +kernel
theorem dX0_walk_37 : decode cX0_walk 37 = .ok (.aload_n 0, 1) := by decide +kernel
theorem dX0_walk_38 : decode cX0_walk 38 = .ok (.getfield 18, 3) := by decide +kernel
theorem dX0_walk_41 : decode cX0_walk 41 = .ok (.iload_n 2, 1) := by decide +kernel
theorem dX0_walk_42 : decode cX0_walk 42 = .ok (.invokestatic 49, 3) := by decide +kernel
theorem dX0_walk_45 : decode cX0_walk 45 = .ok (.istore_n 3, 1) := by decide +kernel
theorem dX0_walk_46 : decode cX0_walk 46 = .ok (.iconst 0, 1) := by decide +kernel
theorem dX0_walk_47 : decode cX0_walk 47 = .ok (.istore 4, 2) := by decide +kernel
theorem dX0_walk_49 : decode cX0_walk 49 = .ok (.iload 4, 2) := by decide +kernel
theorem dX0_walk_51 : decode cX0_walk 51 = .ok (.iload_n 3, 1) := by decide +kernel
theorem dX0_walk_52 : decode cX0_walk 52 = .ok (.if_icmp .ge 16, 3) := by decide +kernel
theorem dX0_walk_55 : decode cX0_walk 55 = .ok (.aload_n 0, 1) := by decide +kernel
theorem dX0_walk_56 : decode cX0_walk 56 = .ok (.iload_n 2, 1) := by decide +kernel
theorem dX0_walk_57 : decode cX0_walk 57 = .ok (.iload 4, 2) := by decide +kernel
theorem dX0_walk_59 : decode cX0_walk 59 = .ok (.invokevirtual 52, 3) := by decide +kernel
theorem dX0_walk_62 : decode cX0_walk 62 = .ok (.iinc 4 1, 3) := by decide +kernel
theorem dX0_walk_65 : decode cX0_walk 65 = .ok (.goto (-16), 3) := by decide +kernel
theorem dX0_walk_68 : decode cX0_walk 68 = .ok (.iinc 2 1, 3) := by decide +kernel
theorem dX0_walk_71 : decode cX0_walk 71 = .ok (.goto (-39), 3) := by decide +kernel
theorem dX0_walk_74 : decode cX0_walk 74 = .ok (.return_, 1) := by decide +kernel
set_option maxRecDepth 20000 in
theorem ggX0_walkKnot_X4_leftPlaceOf : GoodIn wsX0_walkKnot wsX4_leftPlaceOf := goodIn_r _ [8] (by decide +kernel) (by decide +kernel)
set_option maxRecDepth 20000 in
theorem gX0_walkKnot_X4_leftPlaceOf_n56 : GoodIn wsX0_walkKnot (wsX4_leftPlaceOf) := ggX0_walkKnot_X4_leftPlaceOf
set_option maxRecDepth 20000 in
theorem ggX0_walkKnot_X4_kindIn : GoodIn wsX0_walkKnot wsX4_kindIn := goodIn_r _ [10] (by decide +kernel) (by decide +kernel)
set_option maxRecDepth 20000 in
theorem gX0_walkKnot_X4_kindIn_n59 : GoodIn wsX0_walkKnot (wsX4_kindIn) := ggX0_walkKnot_X4_kindIn
set_option maxRecDepth 20000 in
theorem ggX0_walkKnot_X4_showingPlace : GoodIn wsX0_walkKnot wsX4_showingPlace := goodIn_r _ [12] (by decide +kernel) (by decide +kernel)
set_option maxRecDepth 20000 in
theorem gX0_walkKnot_X4_showingPlace_n62 : GoodIn wsX0_walkKnot (wsX4_showingPlace) := ggX0_walkKnot_X4_showingPlace
set_option maxRecDepth 20000 in
theorem ggX0_walkKnot_X4_spotOf : GoodIn wsX0_walkKnot wsX4_spotOf := goodIn_r _ [14] (by decide +kernel) (by decide +kernel)
set_option maxRecDepth 20000 in
theorem gX0_walkKnot_X4_spotOf_n65 : GoodIn wsX0_walkKnot (wsX4_spotOf) := ggX0_walkKnot_X4_spotOf
theorem dX0_walkKnot_0 : decode cX0_walkKnot 0 = .ok (.iload_n 1, 1) := by decide +kernel
theorem dX0_walkKnot_1 : decode cX0_walkKnot 1 = .ok (.iload_n 2, 1) := by decide +kernel
theorem dX0_walkKnot_2 : decode cX0_walkKnot 2 = .ok (.invokestatic 56, 3) := by decide +kernel
theorem dX0_walkKnot_5 : decode cX0_walkKnot 5 = .ok (.istore_n 3, 1) := by decide +kernel
theorem dX0_walkKnot_6 : decode cX0_walkKnot 6 = .ok (.aload_n 0, 1) := by decide +kernel
theorem dX0_walkKnot_7 : decode cX0_walkKnot 7 = .ok (.getfield 15, 3) := by decide +kernel
theorem dX0_walkKnot_10 : decode cX0_walkKnot 10 = .ok (.iload_n 1, 1) := by decide +kernel
theorem dX0_walkKnot_11 : decode cX0_walkKnot 11 = .ok (.iaload, 1) := by decide +kernel
theorem dX0_walkKnot_12 : decode cX0_walkKnot 12 = .ok (.iload_n 2, 1) := by decide +kernel
theorem dX0_walkKnot_13 : decode cX0_walkKnot 13 = .ok (.invokestatic 59, 3) := by decide +kernel
theorem dX0_walkKnot_16 : decode cX0_walkKnot 16 = .ok (.istore 4, 2) := by decide +kernel
theorem dX0_walkKnot_18 : decode cX0_walkKnot 18 = .ok (.aload_n 0, 1) := by decide +kernel
theorem dX0_walkKnot_19 : decode cX0_walkKnot 19 = .ok (.getfield 25, 3) := by decide +kernel
theorem dX0_walkKnot_22 : decode cX0_walkKnot 22 = .ok (.iload_n 3, 1) := by decide +kernel
theorem dX0_walkKnot_23 : decode cX0_walkKnot 23 = .ok (.iaload, 1) := by decide +kernel
theorem dX0_walkKnot_24 : decode cX0_walkKnot 24 = .ok (.istore 5, 2) := by decide +kernel
theorem dX0_walkKnot_26 : decode cX0_walkKnot 26 = .ok (.aload_n 0, 1) := by decide +kernel
theorem dX0_walkKnot_27 : decode cX0_walkKnot 27 = .ok (.getfield 25, 3) := by decide +kernel
theorem dX0_walkKnot_30 : decode cX0_walkKnot 30 = .ok (.iload_n 3, 1) := by decide +kernel
theorem dX0_walkKnot_31 : decode cX0_walkKnot 31 = .ok (.iconst 1, 1) := by decide +kernel
theorem dX0_walkKnot_32 : decode cX0_walkKnot 32 = .ok (.iadd, 1) := by decide +kernel
theorem dX0_walkKnot_33 : decode cX0_walkKnot 33 = .ok (.iaload, 1) := by decide +kernel
theorem dX0_walkKnot_34 : decode cX0_walkKnot 34 = .ok (.istore 6, 2) := by decide +kernel
theorem dX0_walkKnot_36 : decode cX0_walkKnot 36 = .ok (.aload_n 0, 1) := by decide +kernel
theorem dX0_walkKnot_37 : decode cX0_walkKnot 37 = .ok (.getfield 25, 3) := by decide +kernel
theorem dX0_walkKnot_40 : decode cX0_walkKnot 40 = .ok (.iload_n 3, 1) := by decide +kernel
theorem dX0_walkKnot_41 : decode cX0_walkKnot 41 = .ok (.iload 4, 2) := by decide +kernel
theorem dX0_walkKnot_43 : decode cX0_walkKnot 43 = .ok (.invokestatic 62, 3) := by decide +kernel
theorem dX0_walkKnot_46 : decode cX0_walkKnot 46 = .ok (.iaload, 1) := by decide +kernel
theorem dX0_walkKnot_47 : decode cX0_walkKnot 47 = .ok (.istore 7, 2) := by decide +kernel
theorem dX0_walkKnot_49 : decode cX0_walkKnot 49 = .ok (.iload 7, 2) := by decide +kernel
theorem dX0_walkKnot_51 : decode cX0_walkKnot 51 = .ok (.iload 5, 2) := by decide +kernel
theorem dX0_walkKnot_53 : decode cX0_walkKnot 53 = .ok (.if_icmp .ne 8, 3) := by decide +kernel
theorem dX0_walkKnot_56 : decode cX0_walkKnot 56 = .ok (.iload 6, 2) := by decide +kernel
theorem dX0_walkKnot_58 : decode cX0_walkKnot 58 = .ok (.goto 5, 3) := by decide +kernel
theorem dX0_walkKnot_61 : decode cX0_walkKnot 61 = .ok (.iload 5, 2) := by decide +kernel
theorem dX0_walkKnot_63 : decode cX0_walkKnot 63 = .ok (.istore 8, 2) := by decide +kernel
theorem dX0_walkKnot_65 : decode cX0_walkKnot 65 = .ok (.aload_n 0, 1) := by decide +kernel
theorem dX0_walkKnot_66 : decode cX0_walkKnot 66 = .ok (.getfield 31, 3) := by decide +kernel
theorem dX0_walkKnot_69 : decode cX0_walkKnot 69 = .ok (.iload_n 1, 1) := by decide +kernel
theorem dX0_walkKnot_70 : decode cX0_walkKnot 70 = .ok (.iload_n 2, 1) := by decide +kernel
theorem dX0_walkKnot_71 : decode cX0_walkKnot 71 = .ok (.invokestatic 65, 3) := by decide +kernel
theorem dX0_walkKnot_74 : decode cX0_walkKnot 74 = .ok (.aload_n 0, 1) := by decide +kernel
theorem dX0_walkKnot_75 : decode cX0_walkKnot 75 = .ok (.getfield 9, 3) := by decide +kernel
theorem dX0_walkKnot_78 : decode cX0_walkKnot 78 = .ok (.iload 7, 2) := by decide +kernel
theorem dX0_walkKnot_80 : decode cX0_walkKnot 80 = .ok (.iaload, 1) := by decide +kernel
theorem dX0_walkKnot_81 : decode cX0_walkKnot 81 = .ok (.iastore, 1) := by decide +kernel
theorem dX0_walkKnot_82 : decode cX0_walkKnot 82 = .ok (.aload_n 0, 1) := by decide +kernel
theorem dX0_walkKnot_83 : decode cX0_walkKnot 83 = .ok (.getfield 28, 3) := by decide +kernel
theorem dX0_walkKnot_86 : decode cX0_walkKnot 86 = .ok (.iload 7, 2) := by decide +kernel
theorem dX0_walkKnot_88 : decode cX0_walkKnot 88 = .ok (.dup2, 1) := by decide +kernel
theorem dX0_walkKnot_89 : decode cX0_walkKnot 89 = .ok (.iaload, 1) := by decide +kernel
theorem dX0_walkKnot_90 : decode cX0_walkKnot 90 = .ok (.iconst 5, 1) := by decide +kernel
theorem dX0_walkKnot_91 : decode cX0_walkKnot 91 = .ok (.iadd, 1) := by decide +kernel
theorem dX0_walkKnot_92 : decode cX0_walkKnot 92 = .ok (.iastore, 1) := by decide +kernel
theorem dX0_walkKnot_93 : decode cX0_walkKnot 93 = .ok (.aload_n 0, 1) := by decide +kernel
theorem dX0_walkKnot_94 : decode cX0_walkKnot 94 = .ok (.getfield 28, 3) := by decide +kernel
theorem dX0_walkKnot_97 : decode cX0_walkKnot 97 = .ok (.iload 8, 2) := by decide +kernel
theorem dX0_walkKnot_99 : decode cX0_walkKnot 99 = .ok (.dup2, 1) := by decide +kernel
theorem dX0_walkKnot_100 : decode cX0_walkKnot 100 = .ok (.iaload, 1) := by decide +kernel
theorem dX0_walkKnot_101 : decode cX0_walkKnot 101 = .ok (.iconst 1, 1) := by decide +kernel
theorem dX0_walkKnot_102 : decode cX0_walkKnot 102 = .ok (.iadd, 1) := by decide +kernel
theorem dX0_walkKnot_103 : decode cX0_walkKnot 103 = .ok (.iastore, 1) := by decide +kernel
theorem dX0_walkKnot_104 : decode cX0_walkKnot 104 = .ok (.iload 4, 2) := by decide +kernel
theorem dX0_walkKnot_106 : decode cX0_walkKnot 106 = .ok (.iconst 2, 1) := by decide +kernel
theorem dX0_walkKnot_107 : decode cX0_walkKnot 107 = .ok (.if_icmp .ge 21, 3) := by decide +kernel
theorem dX0_walkKnot_110 : decode cX0_walkKnot 110 = .ok (.aload_n 0, 1) := by decide +kernel
theorem dX0_walkKnot_111 : decode cX0_walkKnot 111 = .ok (.getfield 25, 3) := by decide +kernel
theorem dX0_walkKnot_114 : decode cX0_walkKnot 114 = .ok (.iload_n 3, 1) := by decide +kernel
theorem dX0_walkKnot_115 : decode cX0_walkKnot 115 = .ok (.iload 6, 2) := by decide +kernel
theorem dX0_walkKnot_117 : decode cX0_walkKnot 117 = .ok (.iastore, 1) := by decide +kernel
theorem dX0_walkKnot_118 : decode cX0_walkKnot 118 = .ok (.aload_n 0, 1) := by decide +kernel
theorem dX0_walkKnot_119 : decode cX0_walkKnot 119 = .ok (.getfield 25, 3) := by decide +kernel
theorem dX0_walkKnot_122 : decode cX0_walkKnot 122 = .ok (.iload_n 3, 1) := by decide +kernel
theorem dX0_walkKnot_123 : decode cX0_walkKnot 123 = .ok (.iconst 1, 1) := by decide +kernel
theorem dX0_walkKnot_124 : decode cX0_walkKnot 124 = .ok (.iadd, 1) := by decide +kernel
theorem dX0_walkKnot_125 : decode cX0_walkKnot 125 = .ok (.iload 5, 2) := by decide +kernel
theorem dX0_walkKnot_127 : decode cX0_walkKnot 127 = .ok (.iastore, 1) := by decide +kernel
theorem dX0_walkKnot_128 : decode cX0_walkKnot 128 = .ok (.return_, 1) := by decide +kernel
set_option maxRecDepth 20000 in
theorem ggX0_timesToHome_X0_walk : GoodIn wsX0_timesToHome wsX0_walk := goodIn_r _ [9, 2, 4, 10, 11, 12, 13, 14, 15, 16, 8, 17, 18, 19, 20, 21, 22, 23, 24, 25, 26, 27, 28, 33, 34, 35, 36, 37, 38, 39, 40] (by decide +kernel) (by decide +kernel)
set_option maxRecDepth 20000 in
theorem gX0_timesToHome_X0_walk : GoodIn wsX0_timesToHome (wsV RX0 68 RX0 yX0_walk wsX0_walk) := goodIn_app (goodIn_of _ (by decide +kernel)) ggX0_timesToHome_X0_walk
set_option maxRecDepth 20000 in
theorem ggX0_timesToHome_X0_isHome : GoodIn wsX0_timesToHome wsX0_isHome := goodIn_r _ [32, 2, 3, 20, 33, 34, 35, 36, 37, 38, 39, 40] (by decide +kernel) (by decide +kernel)
set_option maxRecDepth 20000 in
theorem gX0_timesToHome_X0_isHome : GoodIn wsX0_timesToHome (wsV RX0 72 RX0 yX0_isHome wsX0_isHome) := goodIn_app (goodIn_of _ (by decide +kernel)) ggX0_timesToHome_X0_isHome
theorem dX0_timesToHome_0 : decode cX0_timesToHome 0 = .ok (.aload_n 0, 1) := by decide +kernel
theorem dX0_timesToHome_1 : decode cX0_timesToHome 1 = .ok (.aload_n 0, 1) := by decide +kernel
theorem dX0_timesToHome_2 : decode cX0_timesToHome 2 = .ok (.getfield 22, 3) := by decide +kernel
theorem dX0_timesToHome_5 : decode cX0_timesToHome 5 = .ok (.invokevirtual 68, 3) := by decide +kernel
theorem dX0_timesToHome_8 : decode cX0_timesToHome 8 = .ok (.iconst 0, 1) := by decide +kernel
theorem dX0_timesToHome_9 : decode cX0_timesToHome 9 = .ok (.istore_n 2, 1) := by decide +kernel
theorem dX0_timesToHome_10 : decode cX0_timesToHome 10 = .ok (.iload_n 2, 1) := by decide +kernel
theorem dX0_timesToHome_11 : decode cX0_timesToHome 11 = .ok (.aload_n 0, 1) := by decide +kernel
theorem dX0_timesToHome_12 : decode cX0_timesToHome 12 = .ok (.getfield 18, 3) := by decide +kernel
theorem dX0_timesToHome_15 : decode cX0_timesToHome 15 = .ok (.if_icmp .ge 21, 3) := by decide +kernel
theorem dX0_timesToHome_18 : decode cX0_timesToHome 18 = .ok (.aload_n 0, 1) := by decide +kernel
theorem dX0_timesToHome_19 : decode cX0_timesToHome 19 = .ok (.getfield 34, 3) := by decide +kernel
theorem dX0_timesToHome_22 : decode cX0_timesToHome 22 = .ok (.iload_n 2, 1) := by decide +kernel
theorem dX0_timesToHome_23 : decode cX0_timesToHome 23 = .ok (.aload_n 0, 1) := by decide +kernel
theorem dX0_timesToHome_24 : decode cX0_timesToHome 24 = .ok (.getfield 25, 3) := by decide +kernel
theorem dX0_timesToHome_27 : decode cX0_timesToHome 27 = .ok (.iload_n 2, 1) := by decide +kernel
theorem dX0_timesToHome_28 : decode cX0_timesToHome 28 = .ok (.iaload, 1) := by decide +kernel
theorem dX0_timesToHome_29 : decode cX0_timesToHome 29 = .ok (.iastore, 1) := by decide +kernel
theorem dX0_timesToHome_30 : decode cX0_timesToHome 30 = .ok (.iinc 2 1, 3) := by decide +kernel
theorem dX0_timesToHome_33 : decode cX0_timesToHome 33 = .ok (.goto (-23), 3) := by decide +kernel
theorem dX0_timesToHome_36 : decode cX0_timesToHome 36 = .ok (.iconst 1, 1) := by decide +kernel
theorem dX0_timesToHome_37 : decode cX0_timesToHome 37 = .ok (.istore_n 2, 1) := by decide +kernel
theorem dX0_timesToHome_38 : decode cX0_timesToHome 38 = .ok (.iload_n 2, 1) := by decide +kernel
theorem dX0_timesToHome_39 : decode cX0_timesToHome 39 = .ok (.bipush 6, 2) := by decide +kernel
theorem dX0_timesToHome_41 : decode cX0_timesToHome 41 = .ok (.if_icmp .ge 52, 3) := by decide +kernel
theorem dX0_timesToHome_44 : decode cX0_timesToHome 44 = .ok (.aload_n 0, 1) := by decide +kernel
theorem dX0_timesToHome_45 : decode cX0_timesToHome 45 = .ok (.iload_n 1, 1) := by decide +kernel
theorem dX0_timesToHome_46 : decode cX0_timesToHome 46 = .ok (.invokevirtual 72, 3) := by decide +kernel
theorem dX0_timesToHome_49 : decode cX0_timesToHome 49 = .ok (.ifCond .eq 5, 3) := by decide +kernel
theorem dX0_timesToHome_52 : decode cX0_timesToHome 52 = .ok (.iload_n 2, 1) := by decide +kernel
theorem dX0_timesToHome_53 : decode cX0_timesToHome 53 = .ok (.ireturn, 1) := by decide +kernel
theorem dX0_timesToHome_54 : decode cX0_timesToHome 54 = .ok (.iconst 0, 1) := by decide +kernel
theorem dX0_timesToHome_55 : decode cX0_timesToHome 55 = .ok (.istore_n 3, 1) := by decide +kernel
theorem dX0_timesToHome_56 : decode cX0_timesToHome 56 = .ok (.iload_n 3, 1) := by decide +kernel
theorem dX0_timesToHome_57 : decode cX0_timesToHome 57 = .ok (.aload_n 0, 1) := by decide +kernel
theorem dX0_timesToHome_58 : decode cX0_timesToHome 58 = .ok (.getfield 18, 3) := by decide +kernel
theorem dX0_timesToHome_61 : decode cX0_timesToHome 61 = .ok (.if_icmp .ge 26, 3) := by decide +kernel
theorem dX0_timesToHome_64 : decode cX0_timesToHome 64 = .ok (.aload_n 0, 1) := by decide +kernel
theorem dX0_timesToHome_65 : decode cX0_timesToHome 65 = .ok (.getfield 34, 3) := by decide +kernel
theorem dX0_timesToHome_68 : decode cX0_timesToHome 68 = .ok (.iload_n 3, 1) := by decide +kernel
theorem dX0_timesToHome_69 : decode cX0_timesToHome 69 = .ok (.aload_n 0, 1) := by decide +kernel
theorem dX0_timesToHome_70 : decode cX0_timesToHome 70 = .ok (.getfield 25, 3) := by decide +kernel
theorem dX0_timesToHome_73 : decode cX0_timesToHome 73 = .ok (.aload_n 0, 1) := by decide +kernel
theorem dX0_timesToHome_74 : decode cX0_timesToHome 74 = .ok (.getfield 34, 3) := by decide +kernel
theorem dX0_timesToHome_77 : decode cX0_timesToHome 77 = .ok (.iload_n 3, 1) := by decide +kernel
theorem dX0_timesToHome_78 : decode cX0_timesToHome 78 = .ok (.iaload, 1) := by decide +kernel
theorem dX0_timesToHome_79 : decode cX0_timesToHome 79 = .ok (.iaload, 1) := by decide +kernel
theorem dX0_timesToHome_80 : decode cX0_timesToHome 80 = .ok (.iastore, 1) := by decide +kernel
theorem dX0_timesToHome_81 : decode cX0_timesToHome 81 = .ok (.iinc 3 1, 3) := by decide +kernel
theorem dX0_timesToHome_84 : decode cX0_timesToHome 84 = .ok (.goto (-28), 3) := by decide +kernel
theorem dX0_timesToHome_87 : decode cX0_timesToHome 87 = .ok (.iinc 2 1, 3) := by decide +kernel
theorem dX0_timesToHome_90 : decode cX0_timesToHome 90 = .ok (.goto (-52), 3) := by decide +kernel
theorem dX0_timesToHome_93 : decode cX0_timesToHome 93 = .ok (.bipush 6, 2) := by decide +kernel
theorem dX0_timesToHome_95 : decode cX0_timesToHome 95 = .ok (.ireturn, 1) := by decide +kernel
theorem dX0_isHome_0 : decode cX0_isHome 0 = .ok (.iconst 0, 1) := by decide +kernel
theorem dX0_isHome_1 : decode cX0_isHome 1 = .ok (.istore_n 2, 1) := by decide +kernel
theorem dX0_isHome_2 : decode cX0_isHome 2 = .ok (.iload_n 2, 1) := by decide +kernel
theorem dX0_isHome_3 : decode cX0_isHome 3 = .ok (.aload_n 0, 1) := by decide +kernel
theorem dX0_isHome_4 : decode cX0_isHome 4 = .ok (.getfield 18, 3) := by decide +kernel
theorem dX0_isHome_7 : decode cX0_isHome 7 = .ok (.if_icmp .ge 62, 3) := by decide +kernel
theorem dX0_isHome_10 : decode cX0_isHome 10 = .ok (.aload_n 0, 1) := by decide +kernel
theorem dX0_isHome_11 : decode cX0_isHome 11 = .ok (.getfield 34, 3) := by decide +kernel
theorem dX0_isHome_14 : decode cX0_isHome 14 = .ok (.iload_n 2, 1) := by decide +kernel
theorem dX0_isHome_15 : decode cX0_isHome 15 = .ok (.iaload, 1) := by decide +kernel
theorem dX0_isHome_16 : decode cX0_isHome 16 = .ok (.istore_n 3, 1) := by decide +kernel
theorem dX0_isHome_17 : decode cX0_isHome 17 = .ok (.iload_n 1, 1) := by decide +kernel
theorem dX0_isHome_18 : decode cX0_isHome 18 = .ok (.ifCond .eq 26, 3) := by decide +kernel
theorem dX0_isHome_21 : decode cX0_isHome 21 = .ok (.aload_n 0, 1) := by decide +kernel
theorem dX0_isHome_22 : decode cX0_isHome 22 = .ok (.getfield 9, 3) := by decide +kernel
theorem dX0_isHome_25 : decode cX0_isHome 25 = .ok (.iload_n 3, 1) := by decide +kernel
theorem dX0_isHome_26 : decode cX0_isHome 26 = .ok (.iaload, 1) := by decide +kernel
theorem dX0_isHome_27 : decode cX0_isHome 27 = .ok (.aload_n 0, 1) := by decide +kernel
theorem dX0_isHome_28 : decode cX0_isHome 28 = .ok (.getfield 9, 3) := by decide +kernel
theorem dX0_isHome_31 : decode cX0_isHome 31 = .ok (.iload_n 2, 1) := by decide +kernel
theorem dX0_isHome_32 : decode cX0_isHome 32 = .ok (.iaload, 1) := by decide +kernel
theorem dX0_isHome_33 : decode cX0_isHome 33 = .ok (.if_icmp .ne 7, 3) := by decide +kernel
theorem dX0_isHome_36 : decode cX0_isHome 36 = .ok (.iconst 1, 1) := by decide +kernel
theorem dX0_isHome_37 : decode cX0_isHome 37 = .ok (.goto 17, 3) := by decide +kernel
theorem dX0_isHome_40 : decode cX0_isHome 40 = .ok (.iconst 0, 1) := by decide +kernel
theorem dX0_isHome_41 : decode cX0_isHome 41 = .ok (.goto 13, 3) := by decide +kernel
theorem dX0_isHome_44 : decode cX0_isHome 44 = .ok (.iload_n 3, 1) := by decide +kernel
theorem dX0_isHome_45 : decode cX0_isHome 45 = .ok (.iload_n 2, 1) := by decide +kernel
theorem dX0_isHome_46 : decode cX0_isHome 46 = .ok (.if_icmp .ne 7, 3) := by decide +kernel
theorem dX0_isHome_49 : decode cX0_isHome 49 = .ok (.iconst 1, 1) := by decide +kernel
theorem dX0_isHome_50 : decode cX0_isHome 50 = .ok (.goto 4, 3) := by decide +kernel
theorem dX0_isHome_53 : decode cX0_isHome 53 = .ok (.iconst 0, 1) := by decide +kernel
theorem dX0_isHome_54 : decode cX0_isHome 54 = .ok (.istore 4, 2) := by decide +kernel
theorem dX0_isHome_56 : decode cX0_isHome 56 = .ok (.iload 4, 2) := by decide +kernel
theorem dX0_isHome_58 : decode cX0_isHome 58 = .ok (.ifCond .ne 5, 3) := by decide +kernel
theorem dX0_isHome_61 : decode cX0_isHome 61 = .ok (.iconst 0, 1) := by decide +kernel
theorem dX0_isHome_62 : decode cX0_isHome 62 = .ok (.ireturn, 1) := by decide +kernel
theorem dX0_isHome_63 : decode cX0_isHome 63 = .ok (.iinc 2 1, 3) := by decide +kernel
theorem dX0_isHome_66 : decode cX0_isHome 66 = .ok (.goto (-64), 3) := by decide +kernel
theorem dX0_isHome_69 : decode cX0_isHome 69 = .ok (.iconst 1, 1) := by decide +kernel
theorem dX0_isHome_70 : decode cX0_isHome 70 = .ok (.ireturn, 1) := by decide +kernel
set_option maxRecDepth 20000 in
theorem ggX1_init_X3_init : GoodIn wsX1_init wsX3_init := goodIn_r _ [15, 16, 2, 3, 17, 18, 25] (by decide +kernel) (by decide +kernel)
set_option maxRecDepth 20000 in
theorem gX1_init_X3_init_n31 : GoodIn wsX1_init (wsX3_init) := ggX1_init_X3_init
theorem dX1_init_0 : decode cX1_init 0 = .ok (.aload_n 0, 1) := by decide +kernel
theorem dX1_init_1 : decode cX1_init 1 = .ok (.invokespecial 3, 3) := by decide +kernel
theorem dX1_init_4 : decode cX1_init 4 = .ok (.aload_n 0, 1) := by decide +kernel
theorem dX1_init_5 : decode cX1_init 5 = .ok (.bipush 40, 2) := by decide +kernel
theorem dX1_init_7 : decode cX1_init 7 = .ok (.newarray .int, 2) := by decide +kernel
theorem dX1_init_9 : decode cX1_init 9 = .ok (.putfield 9, 3) := by decide +kernel
theorem dX1_init_12 : decode cX1_init 12 = .ok (.aload_n 0, 1) := by decide +kernel
theorem dX1_init_13 : decode cX1_init 13 = .ok (.bipush 40, 2) := by decide +kernel
theorem dX1_init_15 : decode cX1_init 15 = .ok (.newarray .int, 2) := by decide +kernel
theorem dX1_init_17 : decode cX1_init 17 = .ok (.putfield 15, 3) := by decide +kernel
theorem dX1_init_20 : decode cX1_init 20 = .ok (.aload_n 0, 1) := by decide +kernel
theorem dX1_init_21 : decode cX1_init 21 = .ok (.bipush 40, 2) := by decide +kernel
theorem dX1_init_23 : decode cX1_init 23 = .ok (.newarray .int, 2) := by decide +kernel
theorem dX1_init_25 : decode cX1_init 25 = .ok (.putfield 18, 3) := by decide +kernel
theorem dX1_init_28 : decode cX1_init 28 = .ok (.aload_n 0, 1) := by decide +kernel
theorem dX1_init_29 : decode cX1_init 29 = .ok (.iconst 0, 1) := by decide +kernel
theorem dX1_init_30 : decode cX1_init 30 = .ok (.putfield 21, 3) := by decide +kernel
theorem dX1_init_33 : decode cX1_init 33 = .ok (.aload_n 0, 1) := by decide +kernel
theorem dX1_init_34 : decode cX1_init 34 = .ok (.bipush 41, 2) := by decide +kernel
theorem dX1_init_36 : decode cX1_init 36 = .ok (.anewarray 25, 3) := by decide +kernel
theorem dX1_init_39 : decode cX1_init 39 = .ok (.putfield 27, 3) := by decide +kernel
theorem dX1_init_42 : decode cX1_init 42 = .ok (.aload_n 0, 1) := by decide +kernel
theorem dX1_init_43 : decode cX1_init 43 = .ok (.new 25, 3) := by decide +kernel
theorem dX1_init_46 : decode cX1_init 46 = .ok (.dup, 1) := by decide +kernel
theorem dX1_init_47 : decode cX1_init 47 = .ok (.invokespecial 31, 3) := by decide +kernel
theorem dX1_init_50 : decode cX1_init 50 = .ok (.putfield 32, 3) := by decide +kernel
theorem dX1_init_53 : decode cX1_init 53 = .ok (.iconst 0, 1) := by decide +kernel
theorem dX1_init_54 : decode cX1_init 54 = .ok (.istore_n 1, 1) := by decide +kernel
theorem dX1_init_55 : decode cX1_init 55 = .ok (.iload_n 1, 1) := by decide +kernel
theorem dX1_init_56 : decode cX1_init 56 = .ok (.bipush 40, 2) := by decide +kernel
theorem dX1_init_58 : decode cX1_init 58 = .ok (.if_icmp .gt 22, 3) := by decide +kernel
theorem dX1_init_61 : decode cX1_init 61 = .ok (.aload_n 0, 1) := by decide +kernel
theorem dX1_init_62 : decode cX1_init 62 = .ok (.getfield 27, 3) := by decide +kernel
theorem dX1_init_65 : decode cX1_init 65 = .ok (.iload_n 1, 1) := by decide +kernel
theorem dX1_init_66 : decode cX1_init 66 = .ok (.new 25, 3) := by decide +kernel
theorem dX1_init_69 : decode cX1_init 69 = .ok (.dup, 1) := by decide +kernel
theorem dX1_init_70 : decode cX1_init 70 = .ok (.invokespecial 31, 3) := by decide +kernel
theorem dX1_init_73 : decode cX1_init 73 = .ok (.aastore, 1) := by decide +kernel
theorem dX1_init_74 : decode cX1_init 74 = .ok (.iinc 1 1, 3) := by decide +kernel
theorem dX1_init_77 : decode cX1_init 77 = .ok (.goto (-22), 3) := by decide +kernel
theorem dX1_init_80 : decode cX1_init 80 = .ok (.return_, 1) := by decide +kernel
set_option maxRecDepth 20000 in
theorem ggX1_workOut_X1_listKnots : GoodIn wsX1_workOut wsX1_listKnots := goodIn_r _ [7, 8, 9, 10, 11, 12, 13, 14, 15, 16, 17, 18, 108, 109, 110, 111, 112, 113, 114, 115, 116, 117, 118, 119, 120, 121, 122, 123] (by decide +kernel) (by decide +kernel)
set_option maxRecDepth 20000 in
theorem gX1_workOut_X1_listKnots : GoodIn wsX1_workOut (wsV RX1 36 RX1 yX1_listKnots wsX1_listKnots) := goodIn_app (goodIn_of _ (by decide +kernel)) ggX1_workOut_X1_listKnots
set_option maxRecDepth 20000 in
theorem ggX1_workOut_X1_workBackward : GoodIn wsX1_workOut wsX1_workBackward := goodIn_r _ [22, 2, 8, 10, 11, 23, 24, 25, 26, 27, 28, 29, 30, 31, 32, 33, 34, 35, 36, 37, 38, 39, 40, 41, 42, 43, 44, 45, 46, 47, 48, 49, 13, 50, 51, 52, 53, 54, 55, 56, 57, 58, 59, 108, 109, 110, 111, 112, 113, 124] (by decide +kernel) (by decide +kernel)
set_option maxRecDepth 20000 in
theorem gX1_workOut_X1_workBackward : GoodIn wsX1_workOut (wsV RX1 40 RX1 yX1_workBackward wsX1_workBackward) := goodIn_app (goodIn_of _ (by decide +kernel)) ggX1_workOut_X1_workBackward
set_option maxRecDepth 20000 in
theorem ggX1_workOut_X3_fill : GoodIn wsX1_workOut wsX3_fill := goodIn_r _ [27, 28, 29, 124] (by decide +kernel) (by decide +kernel)
set_option maxRecDepth 20000 in
theorem gX1_workOut_X3_fill : GoodIn wsX1_workOut (wsV RX1 43 RX3 yX3_fill wsX3_fill) := goodIn_app (goodIn_of _ (by decide +kernel)) ggX1_workOut_X3_fill
set_option maxRecDepth 20000 in
theorem ggX1_workOut_X3_keep : GoodIn wsX1_workOut wsX3_keep := goodIn_r _ [63, 28, 55, 56, 26, 57, 40, 58, 59, 29, 124] (by decide +kernel) (by decide +kernel)
set_option maxRecDepth 20000 in
theorem gX1_workOut_X3_keep : GoodIn wsX1_workOut (wsV RX1 51 RX3 yX3_keep wsX3_keep) := goodIn_app (goodIn_of _ (by decide +kernel)) ggX1_workOut_X3_keep
set_option maxRecDepth 20000 in
theorem ggX1_workOut_X3_countShared : GoodIn wsX1_workOut wsX3_countShared := goodIn_r _ [67, 28, 68, 69, 70, 71, 72, 73, 74, 124] (by decide +kernel) (by decide +kernel)
set_option maxRecDepth 20000 in
theorem gX1_workOut_X3_countShared : GoodIn wsX1_workOut (wsV RX1 58 RX3 yX3_countShared wsX3_countShared) := goodIn_app (goodIn_of _ (by decide +kernel)) ggX1_workOut_X3_countShared
set_option maxRecDepth 20000 in
theorem ggX1_workOut_X3_firstShared : GoodIn wsX1_workOut wsX3_firstShared := goodIn_r _ [78, 28, 124] (by decide +kernel) (by decide +kernel)
set_option maxRecDepth 20000 in
theorem gX1_workOut_X3_firstShared : GoodIn wsX1_workOut (wsV RX1 65 RX3 yX3_firstShared wsX3_firstShared) := goodIn_app (goodIn_of _ (by decide +kernel)) ggX1_workOut_X3_firstShared
set_option maxRecDepth 20000 in
theorem ggX1_workOut_X1_chooseKinds : GoodIn wsX1_workOut wsX1_chooseKinds := goodIn_r _ [82, 8, 9, 83, 84, 85, 6, 86, 10, 11, 2, 87, 13, 88, 89, 90, 91, 92, 93, 94, 95, 96, 97, 49, 50, 98, 99, 100, 26, 101, 28, 102, 103, 114, 115, 116, 117, 118, 119, 120, 121, 122, 123, 108, 109, 110, 111, 112, 113, 124] (by decide +kernel) (by decide +kernel)
set_option maxRecDepth 20000 in
theorem gX1_workOut_X1_chooseKinds : GoodIn wsX1_workOut (wsV RX1 71 RX1 yX1_chooseKinds wsX1_chooseKinds) := goodIn_app (goodIn_of _ (by decide +kernel)) ggX1_workOut_X1_chooseKinds
set_option maxRecDepth 20000 in
theorem ggX1_workOut_X1_findSuspects : GoodIn wsX1_workOut wsX1_findSuspects := goodIn_r _ [107, 8, 1, 10, 11, 2, 9, 30, 31, 32, 26, 33, 28, 34, 35, 36, 37, 38, 39, 40, 41, 42, 43, 44, 45, 46, 47, 48, 49, 13, 50, 75, 76, 77, 78, 51, 52, 53, 54, 55, 56, 57, 58, 59, 29, 108, 109, 110, 111, 112, 113, 114, 115, 116, 117, 118, 119, 120, 121, 122, 123, 124] (by decide +kernel) (by decide +kernel)
set_option maxRecDepth 20000 in
theorem gX1_workOut_X1_findSuspects : GoodIn wsX1_workOut (wsV RX1 74 RX1 yX1_findSuspects wsX1_findSuspects) := goodIn_app (goodIn_of _ (by decide +kernel)) ggX1_workOut_X1_findSuspects
theorem dX1_workOut_0 : decode cX1_workOut 0 = .ok (.aload_n 0, 1) := by decide +kernel
theorem dX1_workOut_1 : decode cX1_workOut 1 = .ok (.aload_n 1, 1) := by decide +kernel
theorem dX1_workOut_2 : decode cX1_workOut 2 = .ok (.invokevirtual 36, 3) := by decide +kernel
theorem dX1_workOut_5 : decode cX1_workOut 5 = .ok (.aload_n 0, 1) := by decide +kernel
theorem dX1_workOut_6 : decode cX1_workOut 6 = .ok (.invokevirtual 40, 3) := by decide +kernel
theorem dX1_workOut_9 : decode cX1_workOut 9 = .ok (.aload_n 0, 1) := by decide +kernel
theorem dX1_workOut_10 : decode cX1_workOut 10 = .ok (.getfield 32, 3) := by decide +kernel
theorem dX1_workOut_13 : decode cX1_workOut 13 = .ok (.invokevirtual 43, 3) := by decide +kernel
theorem dX1_workOut_16 : decode cX1_workOut 16 = .ok (.iconst 0, 1) := by decide +kernel
theorem dX1_workOut_17 : decode cX1_workOut 17 = .ok (.istore_n 2, 1) := by decide +kernel
theorem dX1_workOut_18 : decode cX1_workOut 18 = .ok (.iload_n 2, 1) := by decide +kernel
theorem dX1_workOut_19 : decode cX1_workOut 19 = .ok (.bipush 6, 2) := by decide +kernel
theorem dX1_workOut_21 : decode cX1_workOut 21 = .ok (.if_icmp .ge 33, 3) := by decide +kernel
theorem dX1_workOut_24 : decode cX1_workOut 24 = .ok (.aload_n 1, 1) := by decide +kernel
theorem dX1_workOut_25 : decode cX1_workOut 25 = .ok (.getfield 46, 3) := by decide +kernel
theorem dX1_workOut_28 : decode cX1_workOut 28 = .ok (.iload_n 2, 1) := by decide +kernel
theorem dX1_workOut_29 : decode cX1_workOut 29 = .ok (.iaload, 1) := by decide +kernel
theorem dX1_workOut_30 : decode cX1_workOut 30 = .ok (.iconst 4, 1) := by decide +kernel
theorem dX1_workOut_31 : decode cX1_workOut 31 = .ok (.if_icmp .eq 17, 3) := by decide +kernel
theorem dX1_workOut_34 : decode cX1_workOut 34 = .ok (.aload_n 0, 1) := by decide +kernel
theorem dX1_workOut_35 : decode cX1_workOut 35 = .ok (.getfield 32, 3) := by decide +kernel
theorem dX1_workOut_38 : decode cX1_workOut 38 = .ok (.iload_n 2, 1) := by decide +kernel
theorem dX1_workOut_39 : decode cX1_workOut 39 = .ok (.aload_n 1, 1) := by decide +kernel
theorem dX1_workOut_40 : decode cX1_workOut 40 = .ok (.getfield 46, 3) := by decide +kernel
theorem dX1_workOut_43 : decode cX1_workOut 43 = .ok (.iload_n 2, 1) := by decide +kernel
theorem dX1_workOut_44 : decode cX1_workOut 44 = .ok (.iaload, 1) := by decide +kernel
theorem dX1_workOut_45 : decode cX1_workOut 45 = .ok (.invokevirtual 51, 3) := by decide +kernel
theorem dX1_workOut_48 : decode cX1_workOut 48 = .ok (.iinc 2 1, 3) := by decide +kernel
theorem dX1_workOut_51 : decode cX1_workOut 51 = .ok (.goto (-33), 3) := by decide +kernel
theorem dX1_workOut_54 : decode cX1_workOut 54 = .ok (.aload_n 1, 1) := by decide +kernel
theorem dX1_workOut_55 : decode cX1_workOut 55 = .ok (.iconst 0, 1) := by decide +kernel
theorem dX1_workOut_56 : decode cX1_workOut 56 = .ok (.putfield 55, 3) := by decide +kernel
theorem dX1_workOut_59 : decode cX1_workOut 59 = .ok (.aload_n 1, 1) := by decide +kernel
theorem dX1_workOut_60 : decode cX1_workOut 60 = .ok (.aload_n 0, 1) := by decide +kernel
theorem dX1_workOut_61 : decode cX1_workOut 61 = .ok (.getfield 32, 3) := by decide +kernel
theorem dX1_workOut_64 : decode cX1_workOut 64 = .ok (.aload_n 0, 1) := by decide +kernel
theorem dX1_workOut_65 : decode cX1_workOut 65 = .ok (.getfield 27, 3) := by decide +kernel
theorem dX1_workOut_68 : decode cX1_workOut 68 = .ok (.iconst 0, 1) := by decide +kernel
theorem dX1_workOut_69 : decode cX1_workOut 69 = .ok (.aaload, 1) := by decide +kernel
theorem dX1_workOut_70 : decode cX1_workOut 70 = .ok (.invokevirtual 58, 3) := by decide +kernel
theorem dX1_workOut_73 : decode cX1_workOut 73 = .ok (.putfield 62, 3) := by decide +kernel
theorem dX1_workOut_76 : decode cX1_workOut 76 = .ok (.aload_n 1, 1) := by decide +kernel
theorem dX1_workOut_77 : decode cX1_workOut 77 = .ok (.aload_n 0, 1) := by decide +kernel
theorem dX1_workOut_78 : decode cX1_workOut 78 = .ok (.getfield 32, 3) := by decide +kernel
theorem dX1_workOut_81 : decode cX1_workOut 81 = .ok (.aload_n 0, 1) := by decide +kernel
theorem dX1_workOut_82 : decode cX1_workOut 82 = .ok (.getfield 27, 3) := by decide +kernel
theorem dX1_workOut_85 : decode cX1_workOut 85 = .ok (.iconst 0, 1) := by decide +kernel
theorem dX1_workOut_86 : decode cX1_workOut 86 = .ok (.aaload, 1) := by decide +kernel
theorem dX1_workOut_87 : decode cX1_workOut 87 = .ok (.invokevirtual 65, 3) := by decide +kernel
theorem dX1_workOut_90 : decode cX1_workOut 90 = .ok (.putfield 68, 3) := by decide +kernel
theorem dX1_workOut_93 : decode cX1_workOut 93 = .ok (.aload_n 1, 1) := by decide +kernel
theorem dX1_workOut_94 : decode cX1_workOut 94 = .ok (.getfield 62, 3) := by decide +kernel
theorem dX1_workOut_97 : decode cX1_workOut 97 = .ok (.ifCond .le 11, 3) := by decide +kernel
theorem dX1_workOut_100 : decode cX1_workOut 100 = .ok (.aload_n 0, 1) := by decide +kernel
theorem dX1_workOut_101 : decode cX1_workOut 101 = .ok (.aload_n 1, 1) := by decide +kernel
theorem dX1_workOut_102 : decode cX1_workOut 102 = .ok (.invokevirtual 71, 3) := by decide +kernel
theorem dX1_workOut_105 : decode cX1_workOut 105 = .ok (.goto 8, 3) := by decide +kernel
theorem dX1_workOut_108 : decode cX1_workOut 108 = .ok (.aload_n 0, 1) := by decide +kernel
theorem dX1_workOut_109 : decode cX1_workOut 109 = .ok (.aload_n 1, 1) := by decide +kernel
theorem dX1_workOut_110 : decode cX1_workOut 110 = .ok (.invokevirtual 74, 3) := by decide +kernel
theorem dX1_workOut_113 : decode cX1_workOut 113 = .ok (.aload_n 1, 1) := by decide +kernel
theorem dX1_workOut_114 : decode cX1_workOut 114 = .ok (.iconst 1, 1) := by decide +kernel
theorem dX1_workOut_115 : decode cX1_workOut 115 = .ok (.putfield 77, 3) := by decide +kernel
theorem dX1_workOut_118 : decode cX1_workOut 118 = .ok (.return_, 1) := by decide +kernel
set_option maxRecDepth 20000 in
theorem ggX1_listKnots_X4_knotsIn : GoodIn wsX1_listKnots wsX4_knotsIn := goodIn_r _ [7] (by decide +kernel) (by decide +kernel)
set_option maxRecDepth 20000 in
theorem gX1_listKnots_X4_knotsIn_n87 : GoodIn wsX1_listKnots (wsX4_knotsIn) := ggX1_listKnots_X4_knotsIn
set_option maxRecDepth 20000 in
theorem ggX1_listKnots_X4_leftPlaceOf : GoodIn wsX1_listKnots wsX4_leftPlaceOf := goodIn_r _ [9] (by decide +kernel) (by decide +kernel)
set_option maxRecDepth 20000 in
theorem gX1_listKnots_X4_leftPlaceOf_n91 : GoodIn wsX1_listKnots (wsX4_leftPlaceOf) := ggX1_listKnots_X4_leftPlaceOf
set_option maxRecDepth 20000 in
theorem ggX1_listKnots_X4_spotOf : GoodIn wsX1_listKnots wsX4_spotOf := goodIn_r _ [11] (by decide +kernel) (by decide +kernel)
set_option maxRecDepth 20000 in
theorem gX1_listKnots_X4_spotOf_n97 : GoodIn wsX1_listKnots (wsX4_spotOf) := ggX1_listKnots_X4_spotOf
theorem dX1_listKnots_0 : decode cX1_listKnots 0 = .ok (.aload_n 0, 1) := by decide +kernel
theorem dX1_listKnots_1 : decode cX1_listKnots 1 = .ok (.iconst 0, 1) := by decide +kernel
theorem dX1_listKnots_2 : decode cX1_listKnots 2 = .ok (.putfield 21, 3) := by decide +kernel
theorem dX1_listKnots_5 : decode cX1_listKnots 5 = .ok (.iconst 0, 1) := by decide +kernel
theorem dX1_listKnots_6 : decode cX1_listKnots 6 = .ok (.istore_n 2, 1) := by decide +kernel
theorem dX1_listKnots_7 : decode cX1_listKnots 7 = .ok (.iload_n 2, 1) := by decide +kernel
theorem dX1_listKnots_8 : decode cX1_listKnots 8 = .ok (.aload_n 1, 1) := by decide +kernel
theorem dX1_listKnots_9 : decode cX1_listKnots 9 = .ok (.getfield 81, 3) := by decide +kernel
theorem dX1_listKnots_12 : decode cX1_listKnots 12 = .ok (.if_icmp .ge 94, 3) := by decide +kernel
theorem dX1_listKnots_15 : decode cX1_listKnots 15 = .ok (.aload_n 1, 1) := by decide +kernel
theorem dX1_listKnots_16 : decode cX1_listKnots 16 = .ok (.getfield 84, 3) := by decide +kernel
theorem dX1_listKnots_19 : decode cX1_listKnots 19 = .ok (.iload_n 2, 1) := by decide +kernel
theorem dX1_listKnots_20 : decode cX1_listKnots 20 = .ok (.invokestatic 87, 3) := by decide +kernel
theorem dX1_listKnots_23 : decode cX1_listKnots 23 = .ok (.istore_n 3, 1) := by decide +kernel
theorem dX1_listKnots_24 : decode cX1_listKnots 24 = .ok (.iconst 0, 1) := by decide +kernel
theorem dX1_listKnots_25 : decode cX1_listKnots 25 = .ok (.istore 4, 2) := by decide +kernel
theorem dX1_listKnots_27 : decode cX1_listKnots 27 = .ok (.iload 4, 2) := by decide +kernel
theorem dX1_listKnots_29 : decode cX1_listKnots 29 = .ok (.iload_n 3, 1) := by decide +kernel
theorem dX1_listKnots_30 : decode cX1_listKnots 30 = .ok (.if_icmp .ge 70, 3) := by decide +kernel
theorem dX1_listKnots_33 : decode cX1_listKnots 33 = .ok (.aload_n 0, 1) := by decide +kernel
theorem dX1_listKnots_34 : decode cX1_listKnots 34 = .ok (.getfield 9, 3) := by decide +kernel
theorem dX1_listKnots_37 : decode cX1_listKnots 37 = .ok (.aload_n 0, 1) := by decide +kernel
theorem dX1_listKnots_38 : decode cX1_listKnots 38 = .ok (.getfield 21, 3) := by decide +kernel
theorem dX1_listKnots_41 : decode cX1_listKnots 41 = .ok (.bipush 8, 2) := by decide +kernel
theorem dX1_listKnots_43 : decode cX1_listKnots 43 = .ok (.iload_n 2, 1) := by decide +kernel
theorem dX1_listKnots_44 : decode cX1_listKnots 44 = .ok (.imul, 1) := by decide +kernel
theorem dX1_listKnots_45 : decode cX1_listKnots 45 = .ok (.iload 4, 2) := by decide +kernel
theorem dX1_listKnots_47 : decode cX1_listKnots 47 = .ok (.iadd, 1) := by decide +kernel
theorem dX1_listKnots_48 : decode cX1_listKnots 48 = .ok (.iastore, 1) := by decide +kernel
theorem dX1_listKnots_49 : decode cX1_listKnots 49 = .ok (.aload_n 0, 1) := by decide +kernel
theorem dX1_listKnots_50 : decode cX1_listKnots 50 = .ok (.getfield 15, 3) := by decide +kernel
theorem dX1_listKnots_53 : decode cX1_listKnots 53 = .ok (.aload_n 0, 1) := by decide +kernel
theorem dX1_listKnots_54 : decode cX1_listKnots 54 = .ok (.getfield 21, 3) := by decide +kernel
theorem dX1_listKnots_57 : decode cX1_listKnots 57 = .ok (.iload_n 2, 1) := by decide +kernel
theorem dX1_listKnots_58 : decode cX1_listKnots 58 = .ok (.iload 4, 2) := by decide +kernel
theorem dX1_listKnots_60 : decode cX1_listKnots 60 = .ok (.invokestatic 91, 3) := by decide +kernel
theorem dX1_listKnots_63 : decode cX1_listKnots 63 = .ok (.iastore, 1) := by decide +kernel
theorem dX1_listKnots_64 : decode cX1_listKnots 64 = .ok (.aload_n 0, 1) := by decide +kernel
theorem dX1_listKnots_65 : decode cX1_listKnots 65 = .ok (.getfield 18, 3) := by decide +kernel
theorem dX1_listKnots_68 : decode cX1_listKnots 68 = .ok (.aload_n 0, 1) := by decide +kernel
theorem dX1_listKnots_69 : decode cX1_listKnots 69 = .ok (.getfield 21, 3) := by decide +kernel
theorem dX1_listKnots_72 : decode cX1_listKnots 72 = .ok (.aload_n 1, 1) := by decide +kernel
theorem dX1_listKnots_73 : decode cX1_listKnots 73 = .ok (.getfield 94, 3) := by decide +kernel
theorem dX1_listKnots_76 : decode cX1_listKnots 76 = .ok (.iload_n 2, 1) := by decide +kernel
theorem dX1_listKnots_77 : decode cX1_listKnots 77 = .ok (.iload 4, 2) := by decide +kernel
theorem dX1_listKnots_79 : decode cX1_listKnots 79 = .ok (.invokestatic 97, 3) := by decide +kernel
theorem dX1_listKnots_82 : decode cX1_listKnots 82 = .ok (.iaload, 1) := by decide +kernel
theorem dX1_listKnots_83 : decode cX1_listKnots 83 = .ok (.iastore, 1) := by decide +kernel
theorem dX1_listKnots_84 : decode cX1_listKnots 84 = .ok (.aload_n 0, 1) := by decide +kernel
theorem dX1_listKnots_85 : decode cX1_listKnots 85 = .ok (.dup, 1) := by decide +kernel
theorem dX1_listKnots_86 : decode cX1_listKnots 86 = .ok (.getfield 21, 3) := by decide +kernel
theorem dX1_listKnots_89 : decode cX1_listKnots 89 = .ok (.iconst 1, 1) := by decide +kernel
theorem dX1_listKnots_90 : decode cX1_listKnots 90 = .ok (.iadd, 1) := by decide +kernel
theorem dX1_listKnots_91 : decode cX1_listKnots 91 = .ok (.putfield 21, 3) := by decide +kernel
theorem dX1_listKnots_94 : decode cX1_listKnots 94 = .ok (.iinc 4 1, 3) := by decide +kernel
theorem dX1_listKnots_97 : decode cX1_listKnots 97 = .ok (.goto (-70), 3) := by decide +kernel
theorem dX1_listKnots_100 : decode cX1_listKnots 100 = .ok (.iinc 2 1, 3) := by decide +kernel
theorem dX1_listKnots_103 : decode cX1_listKnots 103 = .ok (.goto (-96), 3) := by decide +kernel
theorem dX1_listKnots_106 : decode cX1_listKnots 106 = .ok (.return_, 1) := by decide +kernel
set_option maxRecDepth 20000 in
theorem ggX1_workBackward_X3_fill : GoodIn wsX1_workBackward wsX3_fill := goodIn_r _ [9, 10, 11, 49] (by decide +kernel) (by decide +kernel)
set_option maxRecDepth 20000 in
theorem gX1_workBackward_X3_fill : GoodIn wsX1_workBackward (wsV RX1 43 RX3 yX3_fill wsX3_fill) := goodIn_app (goodIn_of _ (by decide +kernel)) ggX1_workBackward_X3_fill
set_option maxRecDepth 20000 in
theorem ggX1_workBackward_X3_spread : GoodIn wsX1_workBackward wsX3_spread := goodIn_r _ [15, 10, 16, 17, 18, 19, 20, 8, 21, 22, 23, 24, 25, 26, 27, 28, 29, 30, 31, 32, 33, 49] (by decide +kernel) (by decide +kernel)
set_option maxRecDepth 20000 in
theorem gX1_workBackward_X3_spread : GoodIn wsX1_workBackward (wsV RX1 100 RX3 yX3_spread wsX3_spread) := goodIn_app (goodIn_of _ (by decide +kernel)) ggX1_workBackward_X3_spread
set_option maxRecDepth 20000 in
theorem ggX1_workBackward_X3_keepEither : GoodIn wsX1_workBackward wsX3_keepEither := goodIn_r _ [37, 10, 38, 39, 8, 40, 22, 41, 42, 11, 49] (by decide +kernel) (by decide +kernel)
set_option maxRecDepth 20000 in
theorem gX1_workBackward_X3_keepEither : GoodIn wsX1_workBackward (wsV RX1 104 RX3 yX3_keepEither wsX3_keepEither) := goodIn_app (goodIn_of _ (by decide +kernel)) ggX1_workBackward_X3_keepEither
theorem dX1_workBackward_0 : decode cX1_workBackward 0 = .ok (.aload_n 0, 1) := by decide +kernel
theorem dX1_workBackward_1 : decode cX1_workBackward 1 = .ok (.getfield 27, 3) := by decide +kernel
theorem dX1_workBackward_4 : decode cX1_workBackward 4 = .ok (.aload_n 0, 1) := by decide +kernel
theorem dX1_workBackward_5 : decode cX1_workBackward 5 = .ok (.getfield 21, 3) := by decide +kernel
theorem dX1_workBackward_8 : decode cX1_workBackward 8 = .ok (.aaload, 1) := by decide +kernel
theorem dX1_workBackward_9 : decode cX1_workBackward 9 = .ok (.invokevirtual 43, 3) := by decide +kernel
theorem dX1_workBackward_12 : decode cX1_workBackward 12 = .ok (.aload_n 0, 1) := by decide +kernel
theorem dX1_workBackward_13 : decode cX1_workBackward 13 = .ok (.getfield 21, 3) := by decide +kernel
theorem dX1_workBackward_16 : decode cX1_workBackward 16 = .ok (.iconst 1, 1) := by decide +kernel
theorem dX1_workBackward_17 : decode cX1_workBackward 17 = .ok (.isub, 1) := by decide +kernel
theorem dX1_workBackward_18 : decode cX1_workBackward 18 = .ok (.istore_n 1, 1) := by decide +kernel
theorem dX1_workBackward_19 : decode cX1_workBackward 19 = .ok (.iload_n 1, 1) := by decide +kernel
theorem dX1_workBackward_20 : decode cX1_workBackward 20 = .ok (.ifCond .lt 63, 3) := by decide +kernel
theorem dX1_workBackward_23 : decode cX1_workBackward 23 = .ok (.aload_n 0, 1) := by decide +kernel
theorem dX1_workBackward_24 : decode cX1_workBackward 24 = .ok (.getfield 27, 3) := by decide +kernel
theorem dX1_workBackward_27 : decode cX1_workBackward 27 = .ok (.iload_n 1, 1) := by decide +kernel
theorem dX1_workBackward_28 : decode cX1_workBackward 28 = .ok (.aaload, 1) := by decide +kernel
theorem dX1_workBackward_29 : decode cX1_workBackward 29 = .ok (.aload_n 0, 1) := by decide +kernel
theorem dX1_workBackward_30 : decode cX1_workBackward 30 = .ok (.getfield 27, 3) := by decide +kernel
theorem dX1_workBackward_33 : decode cX1_workBackward 33 = .ok (.iload_n 1, 1) := by decide +kernel
theorem dX1_workBackward_34 : decode cX1_workBackward 34 = .ok (.iconst 1, 1) := by decide +kernel
theorem dX1_workBackward_35 : decode cX1_workBackward 35 = .ok (.iadd, 1) := by decide +kernel
theorem dX1_workBackward_36 : decode cX1_workBackward 36 = .ok (.aaload, 1) := by decide +kernel
theorem dX1_workBackward_37 : decode cX1_workBackward 37 = .ok (.aload_n 0, 1) := by decide +kernel
theorem dX1_workBackward_38 : decode cX1_workBackward 38 = .ok (.getfield 15, 3) := by decide +kernel
theorem dX1_workBackward_41 : decode cX1_workBackward 41 = .ok (.iload_n 1, 1) := by decide +kernel
theorem dX1_workBackward_42 : decode cX1_workBackward 42 = .ok (.iaload, 1) := by decide +kernel
theorem dX1_workBackward_43 : decode cX1_workBackward 43 = .ok (.invokevirtual 100, 3) := by decide +kernel
theorem dX1_workBackward_46 : decode cX1_workBackward 46 = .ok (.aload_n 0, 1) := by decide +kernel
theorem dX1_workBackward_47 : decode cX1_workBackward 47 = .ok (.getfield 18, 3) := by decide +kernel
theorem dX1_workBackward_50 : decode cX1_workBackward 50 = .ok (.iload_n 1, 1) := by decide +kernel
theorem dX1_workBackward_51 : decode cX1_workBackward 51 = .ok (.iaload, 1) := by decide +kernel
theorem dX1_workBackward_52 : decode cX1_workBackward 52 = .ok (.iconst 4, 1) := by decide +kernel
theorem dX1_workBackward_53 : decode cX1_workBackward 53 = .ok (.if_icmp .eq 24, 3) := by decide +kernel
theorem dX1_workBackward_56 : decode cX1_workBackward 56 = .ok (.aload_n 0, 1) := by decide +kernel
theorem dX1_workBackward_57 : decode cX1_workBackward 57 = .ok (.getfield 27, 3) := by decide +kernel
theorem dX1_workBackward_60 : decode cX1_workBackward 60 = .ok (.iload_n 1, 1) := by decide +kernel
theorem dX1_workBackward_61 : decode cX1_workBackward 61 = .ok (.aaload, 1) := by decide +kernel
theorem dX1_workBackward_62 : decode cX1_workBackward 62 = .ok (.aload_n 0, 1) := by decide +kernel
theorem dX1_workBackward_63 : decode cX1_workBackward 63 = .ok (.getfield 15, 3) := by decide +kernel
theorem dX1_workBackward_66 : decode cX1_workBackward 66 = .ok (.iload_n 1, 1) := by decide +kernel
theorem dX1_workBackward_67 : decode cX1_workBackward 67 = .ok (.iaload, 1) := by decide +kernel
theorem dX1_workBackward_68 : decode cX1_workBackward 68 = .ok (.aload_n 0, 1) := by decide +kernel
theorem dX1_workBackward_69 : decode cX1_workBackward 69 = .ok (.getfield 18, 3) := by decide +kernel
theorem dX1_workBackward_72 : decode cX1_workBackward 72 = .ok (.iload_n 1, 1) := by decide +kernel
theorem dX1_workBackward_73 : decode cX1_workBackward 73 = .ok (.iaload, 1) := by decide +kernel
theorem dX1_workBackward_74 : decode cX1_workBackward 74 = .ok (.invokevirtual 104, 3) := by decide +kernel
theorem dX1_workBackward_77 : decode cX1_workBackward 77 = .ok (.iinc 1 (-1), 3) := by decide +kernel
theorem dX1_workBackward_80 : decode cX1_workBackward 80 = .ok (.goto (-61), 3) := by decide +kernel
theorem dX1_workBackward_83 : decode cX1_workBackward 83 = .ok (.return_, 1) := by decide +kernel
set_option maxRecDepth 20000 in
theorem ggX1_chooseKinds_X1_leastKind : GoodIn wsX1_chooseKinds wsX1_leastKind := goodIn_r _ [7, 8, 9, 10, 11, 12, 13, 14, 15, 16, 17, 18, 19, 20, 21, 6, 22, 23, 24, 25, 26, 27, 28, 29, 30, 43, 44, 45, 46, 47, 48, 49] (by decide +kernel) (by decide +kernel)
set_option maxRecDepth 20000 in
theorem gX1_chooseKinds_X1_leastKind : GoodIn wsX1_chooseKinds (wsV RX1 107 RX1 yX1_leastKind wsX1_leastKind) := goodIn_app (goodIn_of _ (by decide +kernel)) ggX1_chooseKinds_X1_leastKind
set_option maxRecDepth 20000 in
theorem ggX1_chooseKinds_X4_withKind : GoodIn wsX1_chooseKinds wsX4_withKind := goodIn_r _ [32] (by decide +kernel) (by decide +kernel)
set_option maxRecDepth 20000 in
theorem gX1_chooseKinds_X4_withKind_n113 : GoodIn wsX1_chooseKinds (wsX4_withKind) := ggX1_chooseKinds_X4_withKind
set_option maxRecDepth 20000 in
theorem ggX1_chooseKinds_X1_standingBehind : GoodIn wsX1_chooseKinds wsX1_standingBehind := goodIn_r _ [22, 8, 17, 12, 18, 23, 24, 43, 44, 45, 46, 47, 48] (by decide +kernel) (by decide +kernel)
set_option maxRecDepth 20000 in
theorem gX1_chooseKinds_X1_standingBehind : GoodIn wsX1_chooseKinds (wsV RX1 117 RX1 yX1_standingBehind wsX1_standingBehind) := goodIn_app (goodIn_of _ (by decide +kernel)) ggX1_chooseKinds_X1_standingBehind
theorem dX1_chooseKinds_0 : decode cX1_chooseKinds 0 = .ok (.aload_n 1, 1) := by decide +kernel
theorem dX1_chooseKinds_1 : decode cX1_chooseKinds 1 = .ok (.getfield 68, 3) := by decide +kernel
theorem dX1_chooseKinds_4 : decode cX1_chooseKinds 4 = .ok (.istore_n 2, 1) := by decide +kernel
theorem dX1_chooseKinds_5 : decode cX1_chooseKinds 5 = .ok (.iconst 0, 1) := by decide +kernel
theorem dX1_chooseKinds_6 : decode cX1_chooseKinds 6 = .ok (.istore_n 3, 1) := by decide +kernel
theorem dX1_chooseKinds_7 : decode cX1_chooseKinds 7 = .ok (.iload_n 3, 1) := by decide +kernel
theorem dX1_chooseKinds_8 : decode cX1_chooseKinds 8 = .ok (.aload_n 0, 1) := by decide +kernel
theorem dX1_chooseKinds_9 : decode cX1_chooseKinds 9 = .ok (.getfield 21, 3) := by decide +kernel
theorem dX1_chooseKinds_12 : decode cX1_chooseKinds 12 = .ok (.if_icmp .ge 64, 3) := by decide +kernel
theorem dX1_chooseKinds_15 : decode cX1_chooseKinds 15 = .ok (.aload_n 0, 1) := by decide +kernel
theorem dX1_chooseKinds_16 : decode cX1_chooseKinds 16 = .ok (.iload_n 3, 1) := by decide +kernel
theorem dX1_chooseKinds_17 : decode cX1_chooseKinds 17 = .ok (.iload_n 2, 1) := by decide +kernel
theorem dX1_chooseKinds_18 : decode cX1_chooseKinds 18 = .ok (.invokevirtual 107, 3) := by decide +kernel
theorem dX1_chooseKinds_21 : decode cX1_chooseKinds 21 = .ok (.istore 4, 2) := by decide +kernel
theorem dX1_chooseKinds_23 : decode cX1_chooseKinds 23 = .ok (.aload_n 0, 1) := by decide +kernel
theorem dX1_chooseKinds_24 : decode cX1_chooseKinds 24 = .ok (.getfield 9, 3) := by decide +kernel
theorem dX1_chooseKinds_27 : decode cX1_chooseKinds 27 = .ok (.iload_n 3, 1) := by decide +kernel
theorem dX1_chooseKinds_28 : decode cX1_chooseKinds 28 = .ok (.iaload, 1) := by decide +kernel
theorem dX1_chooseKinds_29 : decode cX1_chooseKinds 29 = .ok (.iconst 3, 1) := by decide +kernel
theorem dX1_chooseKinds_30 : decode cX1_chooseKinds 30 = .ok (.ishr, 1) := by decide +kernel
theorem dX1_chooseKinds_31 : decode cX1_chooseKinds 31 = .ok (.istore 5, 2) := by decide +kernel
theorem dX1_chooseKinds_33 : decode cX1_chooseKinds 33 = .ok (.aload_n 1, 1) := by decide +kernel
theorem dX1_chooseKinds_34 : decode cX1_chooseKinds 34 = .ok (.getfield 110, 3) := by decide +kernel
theorem dX1_chooseKinds_37 : decode cX1_chooseKinds 37 = .ok (.iload 5, 2) := by decide +kernel
theorem dX1_chooseKinds_39 : decode cX1_chooseKinds 39 = .ok (.aload_n 1, 1) := by decide +kernel
theorem dX1_chooseKinds_40 : decode cX1_chooseKinds 40 = .ok (.getfield 110, 3) := by decide +kernel
theorem dX1_chooseKinds_43 : decode cX1_chooseKinds 43 = .ok (.iload 5, 2) := by decide +kernel
theorem dX1_chooseKinds_45 : decode cX1_chooseKinds 45 = .ok (.iaload, 1) := by decide +kernel
theorem dX1_chooseKinds_46 : decode cX1_chooseKinds 46 = .ok (.aload_n 0, 1) := by decide +kernel
theorem dX1_chooseKinds_47 : decode cX1_chooseKinds 47 = .ok (.getfield 9, 3) := by decide +kernel
theorem dX1_chooseKinds_50 : decode cX1_chooseKinds 50 = .ok (.iload_n 3, 1) := by decide +kernel
theorem dX1_chooseKinds_51 : decode cX1_chooseKinds 51 = .ok (.iaload, 1) := by decide +kernel
theorem dX1_chooseKinds_52 : decode cX1_chooseKinds 52 = .ok (.bipush 7, 2) := by decide +kernel
theorem dX1_chooseKinds_54 : decode cX1_chooseKinds 54 = .ok (.iand, 1) := by decide +kernel
theorem dX1_chooseKinds_55 : decode cX1_chooseKinds 55 = .ok (.iload 4, 2) := by decide +kernel
theorem dX1_chooseKinds_57 : decode cX1_chooseKinds 57 = .ok (.invokestatic 113, 3) := by decide +kernel
theorem dX1_chooseKinds_60 : decode cX1_chooseKinds 60 = .ok (.iastore, 1) := by decide +kernel
theorem dX1_chooseKinds_61 : decode cX1_chooseKinds 61 = .ok (.aload_n 0, 1) := by decide +kernel
theorem dX1_chooseKinds_62 : decode cX1_chooseKinds 62 = .ok (.iload_n 3, 1) := by decide +kernel
theorem dX1_chooseKinds_63 : decode cX1_chooseKinds 63 = .ok (.iload_n 2, 1) := by decide +kernel
theorem dX1_chooseKinds_64 : decode cX1_chooseKinds 64 = .ok (.iload 4, 2) := by decide +kernel
theorem dX1_chooseKinds_66 : decode cX1_chooseKinds 66 = .ok (.invokevirtual 117, 3) := by decide +kernel
theorem dX1_chooseKinds_69 : decode cX1_chooseKinds 69 = .ok (.istore_n 2, 1) := by decide +kernel
theorem dX1_chooseKinds_70 : decode cX1_chooseKinds 70 = .ok (.iinc 3 1, 3) := by decide +kernel
theorem dX1_chooseKinds_73 : decode cX1_chooseKinds 73 = .ok (.goto (-66), 3) := by decide +kernel
theorem dX1_chooseKinds_76 : decode cX1_chooseKinds 76 = .ok (.return_, 1) := by decide +kernel
set_option maxRecDepth 20000 in
theorem ggX1_leastKind_X4_showingPlace : GoodIn wsX1_leastKind wsX4_showingPlace := goodIn_r _ [6] (by decide +kernel) (by decide +kernel)
set_option maxRecDepth 20000 in
theorem gX1_leastKind_X4_showingPlace_n120 : GoodIn wsX1_leastKind (wsX4_showingPlace) := ggX1_leastKind_X4_showingPlace
set_option maxRecDepth 20000 in
theorem ggX1_leastKind_X4_colourIn : GoodIn wsX1_leastKind wsX4_colourIn := goodIn_r _ [8, 9, 10, 5, 11] (by decide +kernel) (by decide +kernel)
set_option maxRecDepth 20000 in
theorem gX1_leastKind_X4_colourIn_n123 : GoodIn wsX1_leastKind (wsX4_colourIn) := ggX1_leastKind_X4_colourIn
set_option maxRecDepth 20000 in
theorem ggX1_leastKind_X1_standingBehind : GoodIn wsX1_leastKind wsX1_standingBehind := goodIn_r _ [16, 1, 10, 5, 11, 17, 18, 25, 26, 27, 28, 29, 30] (by decide +kernel) (by decide +kernel)
set_option maxRecDepth 20000 in
theorem gX1_leastKind_X1_standingBehind : GoodIn wsX1_leastKind (wsV RX1 117 RX1 yX1_standingBehind wsX1_standingBehind) := goodIn_app (goodIn_of _ (by decide +kernel)) ggX1_leastKind_X1_standingBehind
set_option maxRecDepth 20000 in
theorem ggX1_leastKind_X3_has : GoodIn wsX1_leastKind wsX3_has := goodIn_r _ [23, 24, 31] (by decide +kernel) (by decide +kernel)
set_option maxRecDepth 20000 in
theorem gX1_leastKind_X3_has : GoodIn wsX1_leastKind (wsV RX1 126 RX3 yX3_has wsX3_has) := goodIn_app (goodIn_of _ (by decide +kernel)) ggX1_leastKind_X3_has
theorem dX1_leastKind_0 : decode cX1_leastKind 0 = .ok (.iconst 0, 1) := by decide +kernel
theorem dX1_leastKind_1 : decode cX1_leastKind 1 = .ok (.istore_n 3, 1) := by decide +kernel
theorem dX1_leastKind_2 : decode cX1_leastKind 2 = .ok (.iload_n 3, 1) := by decide +kernel
theorem dX1_leastKind_3 : decode cX1_leastKind 3 = .ok (.iconst 3, 1) := by decide +kernel
theorem dX1_leastKind_4 : decode cX1_leastKind 4 = .ok (.if_icmp .ge 81, 3) := by decide +kernel
theorem dX1_leastKind_7 : decode cX1_leastKind 7 = .ok (.iload_n 2, 1) := by decide +kernel
theorem dX1_leastKind_8 : decode cX1_leastKind 8 = .ok (.aload_n 0, 1) := by decide +kernel
theorem dX1_leastKind_9 : decode cX1_leastKind 9 = .ok (.getfield 15, 3) := by decide +kernel
theorem dX1_leastKind_12 : decode cX1_leastKind 12 = .ok (.iload_n 1, 1) := by decide +kernel
theorem dX1_leastKind_13 : decode cX1_leastKind 13 = .ok (.iaload, 1) := by decide +kernel
theorem dX1_leastKind_14 : decode cX1_leastKind 14 = .ok (.iload_n 3, 1) := by decide +kernel
theorem dX1_leastKind_15 : decode cX1_leastKind 15 = .ok (.invokestatic 120, 3) := by decide +kernel
theorem dX1_leastKind_18 : decode cX1_leastKind 18 = .ok (.invokestatic 123, 3) := by decide +kernel
theorem dX1_leastKind_21 : decode cX1_leastKind 21 = .ok (.istore 4, 2) := by decide +kernel
theorem dX1_leastKind_23 : decode cX1_leastKind 23 = .ok (.aload_n 0, 1) := by decide +kernel
theorem dX1_leastKind_24 : decode cX1_leastKind 24 = .ok (.getfield 18, 3) := by decide +kernel
theorem dX1_leastKind_27 : decode cX1_leastKind 27 = .ok (.iload_n 1, 1) := by decide +kernel
theorem dX1_leastKind_28 : decode cX1_leastKind 28 = .ok (.iaload, 1) := by decide +kernel
theorem dX1_leastKind_29 : decode cX1_leastKind 29 = .ok (.iconst 4, 1) := by decide +kernel
theorem dX1_leastKind_30 : decode cX1_leastKind 30 = .ok (.if_icmp .eq 14, 3) := by decide +kernel
theorem dX1_leastKind_33 : decode cX1_leastKind 33 = .ok (.aload_n 0, 1) := by decide +kernel
theorem dX1_leastKind_34 : decode cX1_leastKind 34 = .ok (.getfield 18, 3) := by decide +kernel
theorem dX1_leastKind_37 : decode cX1_leastKind 37 = .ok (.iload_n 1, 1) := by decide +kernel
theorem dX1_leastKind_38 : decode cX1_leastKind 38 = .ok (.iaload, 1) := by decide +kernel
theorem dX1_leastKind_39 : decode cX1_leastKind 39 = .ok (.iload 4, 2) := by decide +kernel
theorem dX1_leastKind_41 : decode cX1_leastKind 41 = .ok (.if_icmp .ne 7, 3) := by decide +kernel
theorem dX1_leastKind_44 : decode cX1_leastKind 44 = .ok (.iconst 1, 1) := by decide +kernel
theorem dX1_leastKind_45 : decode cX1_leastKind 45 = .ok (.goto 4, 3) := by decide +kernel
theorem dX1_leastKind_48 : decode cX1_leastKind 48 = .ok (.iconst 0, 1) := by decide +kernel
theorem dX1_leastKind_49 : decode cX1_leastKind 49 = .ok (.istore 5, 2) := by decide +kernel
theorem dX1_leastKind_51 : decode cX1_leastKind 51 = .ok (.iload 5, 2) := by decide +kernel
theorem dX1_leastKind_53 : decode cX1_leastKind 53 = .ok (.ifCond .eq 26, 3) := by decide +kernel
theorem dX1_leastKind_56 : decode cX1_leastKind 56 = .ok (.aload_n 0, 1) := by decide +kernel
theorem dX1_leastKind_57 : decode cX1_leastKind 57 = .ok (.getfield 27, 3) := by decide +kernel
theorem dX1_leastKind_60 : decode cX1_leastKind 60 = .ok (.iload_n 1, 1) := by decide +kernel
theorem dX1_leastKind_61 : decode cX1_leastKind 61 = .ok (.iconst 1, 1) := by decide +kernel
theorem dX1_leastKind_62 : decode cX1_leastKind 62 = .ok (.iadd, 1) := by decide +kernel
theorem dX1_leastKind_63 : decode cX1_leastKind 63 = .ok (.aaload, 1) := by decide +kernel
theorem dX1_leastKind_64 : decode cX1_leastKind 64 = .ok (.aload_n 0, 1) := by decide +kernel
theorem dX1_leastKind_65 : decode cX1_leastKind 65 = .ok (.iload_n 1, 1) := by decide +kernel
theorem dX1_leastKind_66 : decode cX1_leastKind 66 = .ok (.iload_n 2, 1) := by decide +kernel
theorem dX1_leastKind_67 : decode cX1_leastKind 67 = .ok (.iload_n 3, 1) := by decide +kernel
theorem dX1_leastKind_68 : decode cX1_leastKind 68 = .ok (.invokevirtual 117, 3) := by decide +kernel
theorem dX1_leastKind_71 : decode cX1_leastKind 71 = .ok (.invokevirtual 126, 3) := by decide +kernel
theorem dX1_leastKind_74 : decode cX1_leastKind 74 = .ok (.ifCond .eq 5, 3) := by decide +kernel
theorem dX1_leastKind_77 : decode cX1_leastKind 77 = .ok (.iload_n 3, 1) := by decide +kernel
theorem dX1_leastKind_78 : decode cX1_leastKind 78 = .ok (.ireturn, 1) := by decide +kernel
theorem dX1_leastKind_79 : decode cX1_leastKind 79 = .ok (.iinc 3 1, 3) := by decide +kernel
theorem dX1_leastKind_82 : decode cX1_leastKind 82 = .ok (.goto (-80), 3) := by decide +kernel
theorem dX1_leastKind_85 : decode cX1_leastKind 85 = .ok (.iconst 3, 1) := by decide +kernel
theorem dX1_leastKind_86 : decode cX1_leastKind 86 = .ok (.ireturn, 1) := by decide +kernel
set_option maxRecDepth 20000 in
theorem ggX1_standingBehind_X4_bitOf : GoodIn wsX1_standingBehind wsX4_bitOf := goodIn_r _ [4] (by decide +kernel) (by decide +kernel)
set_option maxRecDepth 20000 in
theorem gX1_standingBehind_X4_bitOf_n130 : GoodIn wsX1_standingBehind (wsX4_bitOf) := ggX1_standingBehind_X4_bitOf
set_option maxRecDepth 20000 in
theorem ggX1_standingBehind_X4_exchanged : GoodIn wsX1_standingBehind wsX4_exchanged := goodIn_r _ [6] (by decide +kernel) (by decide +kernel)
set_option maxRecDepth 20000 in
theorem gX1_standingBehind_X4_exchanged_n134 : GoodIn wsX1_standingBehind (wsX4_exchanged) := ggX1_standingBehind_X4_exchanged
theorem dX1_standingBehind_0 : decode cX1_standingBehind 0 = .ok (.iload_n 3, 1) := by decide +kernel
theorem dX1_standingBehind_1 : decode cX1_standingBehind 1 = .ok (.iconst 2, 1) := by decide +kernel
theorem dX1_standingBehind_2 : decode cX1_standingBehind 2 = .ok (.if_icmp .ge 21, 3) := by decide +kernel
theorem dX1_standingBehind_5 : decode cX1_standingBehind 5 = .ok (.iload_n 2, 1) := by decide +kernel
theorem dX1_standingBehind_6 : decode cX1_standingBehind 6 = .ok (.aload_n 0, 1) := by decide +kernel
theorem dX1_standingBehind_7 : decode cX1_standingBehind 7 = .ok (.getfield 15, 3) := by decide +kernel
theorem dX1_standingBehind_10 : decode cX1_standingBehind 10 = .ok (.iload_n 1, 1) := by decide +kernel
theorem dX1_standingBehind_11 : decode cX1_standingBehind 11 = .ok (.iaload, 1) := by decide +kernel
theorem dX1_standingBehind_12 : decode cX1_standingBehind 12 = .ok (.iconst 1, 1) := by decide +kernel
theorem dX1_standingBehind_13 : decode cX1_standingBehind 13 = .ok (.iadd, 1) := by decide +kernel
theorem dX1_standingBehind_14 : decode cX1_standingBehind 14 = .ok (.invokestatic 130, 3) := by decide +kernel
theorem dX1_standingBehind_17 : decode cX1_standingBehind 17 = .ok (.invokestatic 134, 3) := by decide +kernel
theorem dX1_standingBehind_20 : decode cX1_standingBehind 20 = .ok (.goto 4, 3) := by decide +kernel
theorem dX1_standingBehind_23 : decode cX1_standingBehind 23 = .ok (.iload_n 2, 1) := by decide +kernel
theorem dX1_standingBehind_24 : decode cX1_standingBehind 24 = .ok (.ireturn, 1) := by decide +kernel
set_option maxRecDepth 20000 in
theorem ggX1_findSuspects_X3_spread : GoodIn wsX1_findSuspects wsX3_spread := goodIn_r _ [11, 12, 13, 14, 15, 16, 17, 10, 18, 19, 20, 21, 22, 23, 24, 25, 26, 27, 28, 29, 30, 61] (by decide +kernel) (by decide +kernel)
set_option maxRecDepth 20000 in
theorem gX1_findSuspects_X3_spread : GoodIn wsX1_findSuspects (wsV RX1 100 RX3 yX3_spread wsX3_spread) := goodIn_app (goodIn_of _ (by decide +kernel)) ggX1_findSuspects_X3_spread
set_option maxRecDepth 20000 in
theorem ggX1_findSuspects_X3_firstShared : GoodIn wsX1_findSuspects wsX3_firstShared := goodIn_r _ [34, 12, 61] (by decide +kernel) (by decide +kernel)
set_option maxRecDepth 20000 in
theorem gX1_findSuspects_X3_firstShared : GoodIn wsX1_findSuspects (wsV RX1 65 RX3 yX3_firstShared wsX3_firstShared) := goodIn_app (goodIn_of _ (by decide +kernel)) ggX1_findSuspects_X3_firstShared
set_option maxRecDepth 20000 in
theorem ggX1_findSuspects_X3_keepEither : GoodIn wsX1_findSuspects wsX3_keepEither := goodIn_r _ [38, 12, 39, 40, 10, 41, 19, 42, 43, 44, 61] (by decide +kernel) (by decide +kernel)
set_option maxRecDepth 20000 in
theorem gX1_findSuspects_X3_keepEither : GoodIn wsX1_findSuspects (wsV RX1 104 RX3 yX3_keepEither wsX3_keepEither) := goodIn_app (goodIn_of _ (by decide +kernel)) ggX1_findSuspects_X3_keepEither
theorem dX1_findSuspects_0 : decode cX1_findSuspects 0 = .ok (.iconst 0, 1) := by decide +kernel
theorem dX1_findSuspects_1 : decode cX1_findSuspects 1 = .ok (.istore_n 2, 1) := by decide +kernel
theorem dX1_findSuspects_2 : decode cX1_findSuspects 2 = .ok (.iload_n 2, 1) := by decide +kernel
theorem dX1_findSuspects_3 : decode cX1_findSuspects 3 = .ok (.aload_n 0, 1) := by decide +kernel
theorem dX1_findSuspects_4 : decode cX1_findSuspects 4 = .ok (.getfield 21, 3) := by decide +kernel
theorem dX1_findSuspects_7 : decode cX1_findSuspects 7 = .ok (.if_icmp .ge 99, 3) := by decide +kernel
theorem dX1_findSuspects_10 : decode cX1_findSuspects 10 = .ok (.aload_n 0, 1) := by decide +kernel
theorem dX1_findSuspects_11 : decode cX1_findSuspects 11 = .ok (.getfield 32, 3) := by decide +kernel
theorem dX1_findSuspects_14 : decode cX1_findSuspects 14 = .ok (.aload_n 0, 1) := by decide +kernel
theorem dX1_findSuspects_15 : decode cX1_findSuspects 15 = .ok (.getfield 32, 3) := by decide +kernel
theorem dX1_findSuspects_18 : decode cX1_findSuspects 18 = .ok (.aload_n 0, 1) := by decide +kernel
theorem dX1_findSuspects_19 : decode cX1_findSuspects 19 = .ok (.getfield 15, 3) := by decide +kernel
theorem dX1_findSuspects_22 : decode cX1_findSuspects 22 = .ok (.iload_n 2, 1) := by decide +kernel
theorem dX1_findSuspects_23 : decode cX1_findSuspects 23 = .ok (.iaload, 1) := by decide +kernel
theorem dX1_findSuspects_24 : decode cX1_findSuspects 24 = .ok (.invokevirtual 100, 3) := by decide +kernel
theorem dX1_findSuspects_27 : decode cX1_findSuspects 27 = .ok (.aload_n 0, 1) := by decide +kernel
theorem dX1_findSuspects_28 : decode cX1_findSuspects 28 = .ok (.getfield 18, 3) := by decide +kernel
theorem dX1_findSuspects_31 : decode cX1_findSuspects 31 = .ok (.iload_n 2, 1) := by decide +kernel
theorem dX1_findSuspects_32 : decode cX1_findSuspects 32 = .ok (.iaload, 1) := by decide +kernel
theorem dX1_findSuspects_33 : decode cX1_findSuspects 33 = .ok (.iconst 4, 1) := by decide +kernel
theorem dX1_findSuspects_34 : decode cX1_findSuspects 34 = .ok (.if_icmp .eq 66, 3) := by decide +kernel
theorem dX1_findSuspects_37 : decode cX1_findSuspects 37 = .ok (.aload_n 0, 1) := by decide +kernel
theorem dX1_findSuspects_38 : decode cX1_findSuspects 38 = .ok (.getfield 32, 3) := by decide +kernel
theorem dX1_findSuspects_41 : decode cX1_findSuspects 41 = .ok (.aload_n 0, 1) := by decide +kernel
theorem dX1_findSuspects_42 : decode cX1_findSuspects 42 = .ok (.getfield 27, 3) := by decide +kernel
theorem dX1_findSuspects_45 : decode cX1_findSuspects 45 = .ok (.iload_n 2, 1) := by decide +kernel
theorem dX1_findSuspects_46 : decode cX1_findSuspects 46 = .ok (.iconst 1, 1) := by decide +kernel
theorem dX1_findSuspects_47 : decode cX1_findSuspects 47 = .ok (.iadd, 1) := by decide +kernel
theorem dX1_findSuspects_48 : decode cX1_findSuspects 48 = .ok (.aaload, 1) := by decide +kernel
theorem dX1_findSuspects_49 : decode cX1_findSuspects 49 = .ok (.invokevirtual 65, 3) := by decide +kernel
theorem dX1_findSuspects_52 : decode cX1_findSuspects 52 = .ok (.iconst (-1), 1) := by decide +kernel
theorem dX1_findSuspects_53 : decode cX1_findSuspects 53 = .ok (.if_icmp .eq 28, 3) := by decide +kernel
theorem dX1_findSuspects_56 : decode cX1_findSuspects 56 = .ok (.aload_n 1, 1) := by decide +kernel
theorem dX1_findSuspects_57 : decode cX1_findSuspects 57 = .ok (.getfield 137, 3) := by decide +kernel
theorem dX1_findSuspects_60 : decode cX1_findSuspects 60 = .ok (.aload_n 1, 1) := by decide +kernel
theorem dX1_findSuspects_61 : decode cX1_findSuspects 61 = .ok (.getfield 55, 3) := by decide +kernel
theorem dX1_findSuspects_64 : decode cX1_findSuspects 64 = .ok (.aload_n 0, 1) := by decide +kernel
theorem dX1_findSuspects_65 : decode cX1_findSuspects 65 = .ok (.getfield 9, 3) := by decide +kernel
theorem dX1_findSuspects_68 : decode cX1_findSuspects 68 = .ok (.iload_n 2, 1) := by decide +kernel
theorem dX1_findSuspects_69 : decode cX1_findSuspects 69 = .ok (.iaload, 1) := by decide +kernel
theorem dX1_findSuspects_70 : decode cX1_findSuspects 70 = .ok (.iastore, 1) := by decide +kernel
theorem dX1_findSuspects_71 : decode cX1_findSuspects 71 = .ok (.aload_n 1, 1) := by decide +kernel
theorem dX1_findSuspects_72 : decode cX1_findSuspects 72 = .ok (.dup, 1) := by decide +kernel
theorem dX1_findSuspects_73 : decode cX1_findSuspects 73 = .ok (.getfield 55, 3) := by decide +kernel
theorem dX1_findSuspects_76 : decode cX1_findSuspects 76 = .ok (.iconst 1, 1) := by decide +kernel
theorem dX1_findSuspects_77 : decode cX1_findSuspects 77 = .ok (.iadd, 1) := by decide +kernel
theorem dX1_findSuspects_78 : decode cX1_findSuspects 78 = .ok (.putfield 55, 3) := by decide +kernel
theorem dX1_findSuspects_81 : decode cX1_findSuspects 81 = .ok (.aload_n 0, 1) := by decide +kernel
theorem dX1_findSuspects_82 : decode cX1_findSuspects 82 = .ok (.getfield 32, 3) := by decide +kernel
theorem dX1_findSuspects_85 : decode cX1_findSuspects 85 = .ok (.aload_n 0, 1) := by decide +kernel
theorem dX1_findSuspects_86 : decode cX1_findSuspects 86 = .ok (.getfield 15, 3) := by decide +kernel
theorem dX1_findSuspects_89 : decode cX1_findSuspects 89 = .ok (.iload_n 2, 1) := by decide +kernel
theorem dX1_findSuspects_90 : decode cX1_findSuspects 90 = .ok (.iaload, 1) := by decide +kernel
theorem dX1_findSuspects_91 : decode cX1_findSuspects 91 = .ok (.aload_n 0, 1) := by decide +kernel
theorem dX1_findSuspects_92 : decode cX1_findSuspects 92 = .ok (.getfield 18, 3) := by decide +kernel
theorem dX1_findSuspects_95 : decode cX1_findSuspects 95 = .ok (.iload_n 2, 1) := by decide +kernel
theorem dX1_findSuspects_96 : decode cX1_findSuspects 96 = .ok (.iaload, 1) := by decide +kernel
theorem dX1_findSuspects_97 : decode cX1_findSuspects 97 = .ok (.invokevirtual 104, 3) := by decide +kernel
theorem dX1_findSuspects_100 : decode cX1_findSuspects 100 = .ok (.iinc 2 1, 3) := by decide +kernel
theorem dX1_findSuspects_103 : decode cX1_findSuspects 103 = .ok (.goto (-101), 3) := by decide +kernel
theorem dX1_findSuspects_106 : decode cX1_findSuspects 106 = .ok (.return_, 1) := by decide +kernel
theorem dX2_init_0 : decode cX2_init 0 = .ok (.aload_n 0, 1) := by decide +kernel
theorem dX2_init_1 : decode cX2_init 1 = .ok (.invokespecial 3, 3) := by decide +kernel
theorem dX2_init_4 : decode cX2_init 4 = .ok (.aload_n 0, 1) := by decide +kernel
theorem dX2_init_5 : decode cX2_init 5 = .ok (.bipush 48, 2) := by decide +kernel
theorem dX2_init_7 : decode cX2_init 7 = .ok (.newarray .int, 2) := by decide +kernel
theorem dX2_init_9 : decode cX2_init 9 = .ok (.putfield 9, 3) := by decide +kernel
theorem dX2_init_12 : decode cX2_init 12 = .ok (.aload_n 0, 1) := by decide +kernel
theorem dX2_init_13 : decode cX2_init 13 = .ok (.bipush 6, 2) := by decide +kernel
theorem dX2_init_15 : decode cX2_init 15 = .ok (.newarray .int, 2) := by decide +kernel
theorem dX2_init_17 : decode cX2_init 17 = .ok (.putfield 15, 3) := by decide +kernel
theorem dX2_init_20 : decode cX2_init 20 = .ok (.aload_n 0, 1) := by decide +kernel
theorem dX2_init_21 : decode cX2_init 21 = .ok (.iconst 0, 1) := by decide +kernel
theorem dX2_init_22 : decode cX2_init 22 = .ok (.putfield 18, 3) := by decide +kernel
theorem dX2_init_25 : decode cX2_init 25 = .ok (.aload_n 0, 1) := by decide +kernel
theorem dX2_init_26 : decode cX2_init 26 = .ok (.iconst 0, 1) := by decide +kernel
theorem dX2_init_27 : decode cX2_init 27 = .ok (.putfield 22, 3) := by decide +kernel
theorem dX2_init_30 : decode cX2_init 30 = .ok (.aload_n 0, 1) := by decide +kernel
theorem dX2_init_31 : decode cX2_init 31 = .ok (.iconst 0, 1) := by decide +kernel
theorem dX2_init_32 : decode cX2_init 32 = .ok (.putfield 25, 3) := by decide +kernel
theorem dX2_init_35 : decode cX2_init 35 = .ok (.aload_n 0, 1) := by decide +kernel
theorem dX2_init_36 : decode cX2_init 36 = .ok (.iconst 0, 1) := by decide +kernel
theorem dX2_init_37 : decode cX2_init 37 = .ok (.putfield 29, 3) := by decide +kernel
theorem dX2_init_40 : decode cX2_init 40 = .ok (.aload_n 0, 1) := by decide +kernel
theorem dX2_init_41 : decode cX2_init 41 = .ok (.iconst 0, 1) := by decide +kernel
theorem dX2_init_42 : decode cX2_init 42 = .ok (.putfield 32, 3) := by decide +kernel
theorem dX2_init_45 : decode cX2_init 45 = .ok (.aload_n 0, 1) := by decide +kernel
theorem dX2_init_46 : decode cX2_init 46 = .ok (.bipush 16, 2) := by decide +kernel
theorem dX2_init_48 : decode cX2_init 48 = .ok (.newarray .int, 2) := by decide +kernel
theorem dX2_init_50 : decode cX2_init 50 = .ok (.putfield 35, 3) := by decide +kernel
theorem dX2_init_53 : decode cX2_init 53 = .ok (.aload_n 0, 1) := by decide +kernel
theorem dX2_init_54 : decode cX2_init 54 = .ok (.bipush 40, 2) := by decide +kernel
theorem dX2_init_56 : decode cX2_init 56 = .ok (.newarray .int, 2) := by decide +kernel
theorem dX2_init_58 : decode cX2_init 58 = .ok (.putfield 38, 3) := by decide +kernel
theorem dX2_init_61 : decode cX2_init 61 = .ok (.aload_n 0, 1) := by decide +kernel
theorem dX2_init_62 : decode cX2_init 62 = .ok (.iconst 0, 1) := by decide +kernel
theorem dX2_init_63 : decode cX2_init 63 = .ok (.putfield 41, 3) := by decide +kernel
theorem dX2_init_66 : decode cX2_init 66 = .ok (.return_, 1) := by decide +kernel
theorem dX2_begin_0 : decode cX2_begin 0 = .ok (.aload_n 0, 1) := by decide +kernel
theorem dX2_begin_1 : decode cX2_begin 1 = .ok (.iload_n 1, 1) := by decide +kernel
theorem dX2_begin_2 : decode cX2_begin 2 = .ok (.putfield 18, 3) := by decide +kernel
theorem dX2_begin_5 : decode cX2_begin 5 = .ok (.aload_n 0, 1) := by decide +kernel
theorem dX2_begin_6 : decode cX2_begin 6 = .ok (.iload_n 2, 1) := by decide +kernel
theorem dX2_begin_7 : decode cX2_begin 7 = .ok (.putfield 22, 3) := by decide +kernel
theorem dX2_begin_10 : decode cX2_begin 10 = .ok (.iconst 0, 1) := by decide +kernel
theorem dX2_begin_11 : decode cX2_begin 11 = .ok (.istore_n 3, 1) := by decide +kernel
theorem dX2_begin_12 : decode cX2_begin 12 = .ok (.iload_n 3, 1) := by decide +kernel
theorem dX2_begin_13 : decode cX2_begin 13 = .ok (.bipush 48, 2) := by decide +kernel
theorem dX2_begin_15 : decode cX2_begin 15 = .ok (.if_icmp .ge 16, 3) := by decide +kernel
theorem dX2_begin_18 : decode cX2_begin 18 = .ok (.aload_n 0, 1) := by decide +kernel
theorem dX2_begin_19 : decode cX2_begin 19 = .ok (.getfield 9, 3) := by decide +kernel
theorem dX2_begin_22 : decode cX2_begin 22 = .ok (.iload_n 3, 1) := by decide +kernel
theorem dX2_begin_23 : decode cX2_begin 23 = .ok (.iconst 4, 1) := by decide +kernel
theorem dX2_begin_24 : decode cX2_begin 24 = .ok (.iastore, 1) := by decide +kernel
theorem dX2_begin_25 : decode cX2_begin 25 = .ok (.iinc 3 1, 3) := by decide +kernel
theorem dX2_begin_28 : decode cX2_begin 28 = .ok (.goto (-16), 3) := by decide +kernel
theorem dX2_begin_31 : decode cX2_begin 31 = .ok (.iconst 0, 1) := by decide +kernel
theorem dX2_begin_32 : decode cX2_begin 32 = .ok (.istore_n 3, 1) := by decide +kernel
theorem dX2_begin_33 : decode cX2_begin 33 = .ok (.iload_n 3, 1) := by decide +kernel
theorem dX2_begin_34 : decode cX2_begin 34 = .ok (.bipush 6, 2) := by decide +kernel
theorem dX2_begin_36 : decode cX2_begin 36 = .ok (.if_icmp .ge 28, 3) := by decide +kernel
theorem dX2_begin_39 : decode cX2_begin 39 = .ok (.aload_n 0, 1) := by decide +kernel
theorem dX2_begin_40 : decode cX2_begin 40 = .ok (.getfield 15, 3) := by decide +kernel
theorem dX2_begin_43 : decode cX2_begin 43 = .ok (.iload_n 3, 1) := by decide +kernel
theorem dX2_begin_44 : decode cX2_begin 44 = .ok (.iload_n 3, 1) := by decide +kernel
theorem dX2_begin_45 : decode cX2_begin 45 = .ok (.aload_n 0, 1) := by decide +kernel
theorem dX2_begin_46 : decode cX2_begin 46 = .ok (.getfield 18, 3) := by decide +kernel
theorem dX2_begin_49 : decode cX2_begin 49 = .ok (.if_icmp .ge 7, 3) := by decide +kernel
theorem dX2_begin_52 : decode cX2_begin 52 = .ok (.iconst 4, 1) := by decide +kernel
theorem dX2_begin_53 : decode cX2_begin 53 = .ok (.goto 4, 3) := by decide +kernel
theorem dX2_begin_56 : decode cX2_begin 56 = .ok (.iconst 0, 1) := by decide +kernel
theorem dX2_begin_57 : decode cX2_begin 57 = .ok (.iastore, 1) := by decide +kernel
theorem dX2_begin_58 : decode cX2_begin 58 = .ok (.iinc 3 1, 3) := by decide +kernel
theorem dX2_begin_61 : decode cX2_begin 61 = .ok (.goto (-28), 3) := by decide +kernel
theorem dX2_begin_64 : decode cX2_begin 64 = .ok (.return_, 1) := by decide +kernel
theorem dX3_init_0 : decode cX3_init 0 = .ok (.aload_n 0, 1) := by decide +kernel
theorem dX3_init_1 : decode cX3_init 1 = .ok (.invokespecial 5, 3) := by decide +kernel
theorem dX3_init_4 : decode cX3_init 4 = .ok (.aload_n 0, 1) := by decide +kernel
theorem dX3_init_5 : decode cX3_init 5 = .ok (.bipush 64, 2) := by decide +kernel
theorem dX3_init_7 : decode cX3_init 7 = .ok (.newarray .long, 2) := by decide +kernel
theorem dX3_init_9 : decode cX3_init 9 = .ok (.putfield 11, 3) := by decide +kernel
theorem dX3_init_12 : decode cX3_init 12 = .ok (.return_, 1) := by decide +kernel
theorem dX3_fill_0 : decode cX3_fill 0 = .ok (.iconst 0, 1) := by decide +kernel
theorem dX3_fill_1 : decode cX3_fill 1 = .ok (.istore_n 1, 1) := by decide +kernel
theorem dX3_fill_2 : decode cX3_fill 2 = .ok (.iload_n 1, 1) := by decide +kernel
theorem dX3_fill_3 : decode cX3_fill 3 = .ok (.bipush 64, 2) := by decide +kernel
theorem dX3_fill_5 : decode cX3_fill 5 = .ok (.if_icmp .ge 18, 3) := by decide +kernel
theorem dX3_fill_8 : decode cX3_fill 8 = .ok (.aload_n 0, 1) := by decide +kernel
theorem dX3_fill_9 : decode cX3_fill 9 = .ok (.getfield 11, 3) := by decide +kernel
theorem dX3_fill_12 : decode cX3_fill 12 = .ok (.iload_n 1, 1) := by decide +kernel
theorem dX3_fill_13 : decode cX3_fill 13 = .ok (.ldc2_w 15, 3) := by decide +kernel
theorem dX3_fill_16 : decode cX3_fill 16 = .ok (.lastore, 1) := by decide +kernel
theorem dX3_fill_17 : decode cX3_fill 17 = .ok (.iinc 1 1, 3) := by decide +kernel
theorem dX3_fill_20 : decode cX3_fill 20 = .ok (.goto (-18), 3) := by decide +kernel
theorem dX3_fill_23 : decode cX3_fill 23 = .ok (.return_, 1) := by decide +kernel
set_option maxRecDepth 20000 in
theorem ggX3_keep_X3_having : GoodIn wsX3_keep wsX3_having := goodIn_r _ [5, 6, 7, 8, 9] (by decide +kernel) (by decide +kernel)
set_option maxRecDepth 20000 in
theorem gX3_keep_X3_having : GoodIn wsX3_keep (va_wsS RX3 17 yX3_having wsX3_having) := goodIn_app (goodIn_of _ (by decide +kernel)) ggX3_keep_X3_having
theorem dX3_keep_0 : decode cX3_keep 0 = .ok (.iconst 0, 1) := by decide +kernel
theorem dX3_keep_1 : decode cX3_keep 1 = .ok (.istore_n 3, 1) := by decide +kernel
theorem dX3_keep_2 : decode cX3_keep 2 = .ok (.iload_n 3, 1) := by decide +kernel
theorem dX3_keep_3 : decode cX3_keep 3 = .ok (.bipush 64, 2) := by decide +kernel
theorem dX3_keep_5 : decode cX3_keep 5 = .ok (.if_icmp .ge 24, 3) := by decide +kernel
theorem dX3_keep_8 : decode cX3_keep 8 = .ok (.aload_n 0, 1) := by decide +kernel
theorem dX3_keep_9 : decode cX3_keep 9 = .ok (.getfield 11, 3) := by decide +kernel
theorem dX3_keep_12 : decode cX3_keep 12 = .ok (.iload_n 3, 1) := by decide +kernel
theorem dX3_keep_13 : decode cX3_keep 13 = .ok (.dup2, 1) := by decide +kernel
theorem dX3_keep_14 : decode cX3_keep 14 = .ok (.laload, 1) := by decide +kernel
theorem dX3_keep_15 : decode cX3_keep 15 = .ok (.iload_n 3, 1) := by decide +kernel
theorem dX3_keep_16 : decode cX3_keep 16 = .ok (.iload_n 1, 1) := by decide +kernel
theorem dX3_keep_17 : decode cX3_keep 17 = .ok (.iload_n 2, 1) := by decide +kernel
theorem dX3_keep_18 : decode cX3_keep 18 = .ok (.invokestatic 17, 3) := by decide +kernel
theorem dX3_keep_21 : decode cX3_keep 21 = .ok (.land, 1) := by decide +kernel
theorem dX3_keep_22 : decode cX3_keep 22 = .ok (.lastore, 1) := by decide +kernel
theorem dX3_keep_23 : decode cX3_keep 23 = .ok (.iinc 3 1, 3) := by decide +kernel
theorem dX3_keep_26 : decode cX3_keep 26 = .ok (.goto (-24), 3) := by decide +kernel
theorem dX3_keep_29 : decode cX3_keep 29 = .ok (.return_, 1) := by decide +kernel
set_option maxRecDepth 20000 in
theorem ggX3_keepEither_X3_having : GoodIn wsX3_keepEither wsX3_having := goodIn_r _ [5, 6, 7, 8, 9] (by decide +kernel) (by decide +kernel)
set_option maxRecDepth 20000 in
theorem gX3_keepEither_X3_having : GoodIn wsX3_keepEither (va_wsS RX3 17 yX3_having wsX3_having) := goodIn_app (goodIn_of _ (by decide +kernel)) ggX3_keepEither_X3_having
theorem dX3_keepEither_0 : decode cX3_keepEither 0 = .ok (.iconst 0, 1) := by decide +kernel
theorem dX3_keepEither_1 : decode cX3_keepEither 1 = .ok (.istore_n 3, 1) := by decide +kernel
theorem dX3_keepEither_2 : decode cX3_keepEither 2 = .ok (.iload_n 3, 1) := by decide +kernel
theorem dX3_keepEither_3 : decode cX3_keepEither 3 = .ok (.bipush 64, 2) := by decide +kernel
theorem dX3_keepEither_5 : decode cX3_keepEither 5 = .ok (.if_icmp .ge 33, 3) := by decide +kernel
theorem dX3_keepEither_8 : decode cX3_keepEither 8 = .ok (.aload_n 0, 1) := by decide +kernel
theorem dX3_keepEither_9 : decode cX3_keepEither 9 = .ok (.getfield 11, 3) := by decide +kernel
theorem dX3_keepEither_12 : decode cX3_keepEither 12 = .ok (.iload_n 3, 1) := by decide +kernel
theorem dX3_keepEither_13 : decode cX3_keepEither 13 = .ok (.dup2, 1) := by decide +kernel
theorem dX3_keepEither_14 : decode cX3_keepEither 14 = .ok (.laload, 1) := by decide +kernel
theorem dX3_keepEither_15 : decode cX3_keepEither 15 = .ok (.iload_n 3, 1) := by decide +kernel
theorem dX3_keepEither_16 : decode cX3_keepEither 16 = .ok (.iload_n 1, 1) := by decide +kernel
theorem dX3_keepEither_17 : decode cX3_keepEither 17 = .ok (.iload_n 2, 1) := by decide +kernel
theorem dX3_keepEither_18 : decode cX3_keepEither 18 = .ok (.invokestatic 17, 3) := by decide +kernel
theorem dX3_keepEither_21 : decode cX3_keepEither 21 = .ok (.iload_n 3, 1) := by decide +kernel
theorem dX3_keepEither_22 : decode cX3_keepEither 22 = .ok (.iload_n 1, 1) := by decide +kernel
theorem dX3_keepEither_23 : decode cX3_keepEither 23 = .ok (.iconst 1, 1) := by decide +kernel
theorem dX3_keepEither_24 : decode cX3_keepEither 24 = .ok (.iadd, 1) := by decide +kernel
theorem dX3_keepEither_25 : decode cX3_keepEither 25 = .ok (.iload_n 2, 1) := by decide +kernel
theorem dX3_keepEither_26 : decode cX3_keepEither 26 = .ok (.invokestatic 17, 3) := by decide +kernel
theorem dX3_keepEither_29 : decode cX3_keepEither 29 = .ok (.lor, 1) := by decide +kernel
theorem dX3_keepEither_30 : decode cX3_keepEither 30 = .ok (.land, 1) := by decide +kernel
theorem dX3_keepEither_31 : decode cX3_keepEither 31 = .ok (.lastore, 1) := by decide +kernel
theorem dX3_keepEither_32 : decode cX3_keepEither 32 = .ok (.iinc 3 1, 3) := by decide +kernel
theorem dX3_keepEither_35 : decode cX3_keepEither 35 = .ok (.goto (-33), 3) := by decide +kernel
theorem dX3_keepEither_38 : decode cX3_keepEither 38 = .ok (.return_, 1) := by decide +kernel
theorem dX3_having_0 : decode cX3_having 0 = .ok (.iload_n 1, 1) := by decide +kernel
theorem dX3_having_1 : decode cX3_having 1 = .ok (.tableswitch 50 3 5 #[27, 36, 44], 27) := by decide +kernel
theorem dX3_having_28 : decode cX3_having 28 = .ok (.ldc2_w 21, 3) := by decide +kernel
theorem dX3_having_31 : decode cX3_having 31 = .ok (.bipush 16, 2) := by decide +kernel
theorem dX3_having_33 : decode cX3_having 33 = .ok (.iload_n 2, 1) := by decide +kernel
theorem dX3_having_34 : decode cX3_having 34 = .ok (.imul, 1) := by decide +kernel
theorem dX3_having_35 : decode cX3_having 35 = .ok (.lshl, 1) := by decide +kernel
theorem dX3_having_36 : decode cX3_having 36 = .ok (.lreturn, 1) := by decide +kernel
theorem dX3_having_37 : decode cX3_having 37 = .ok (.ldc2_w 23, 3) := by decide +kernel
theorem dX3_having_40 : decode cX3_having 40 = .ok (.iconst 4, 1) := by decide +kernel
theorem dX3_having_41 : decode cX3_having 41 = .ok (.iload_n 2, 1) := by decide +kernel
theorem dX3_having_42 : decode cX3_having 42 = .ok (.imul, 1) := by decide +kernel
theorem dX3_having_43 : decode cX3_having 43 = .ok (.lshl, 1) := by decide +kernel
theorem dX3_having_44 : decode cX3_having 44 = .ok (.lreturn, 1) := by decide +kernel
theorem dX3_having_45 : decode cX3_having 45 = .ok (.ldc2_w 25, 3) := by decide +kernel
theorem dX3_having_48 : decode cX3_having 48 = .ok (.iload_n 2, 1) := by decide +kernel
theorem dX3_having_49 : decode cX3_having 49 = .ok (.lshl, 1) := by decide +kernel
theorem dX3_having_50 : decode cX3_having 50 = .ok (.lreturn, 1) := by decide +kernel
theorem dX3_having_51 : decode cX3_having 51 = .ok (.iload_n 0, 1) := by decide +kernel
theorem dX3_having_52 : decode cX3_having 52 = .ok (.iconst 2, 1) := by decide +kernel
theorem dX3_having_53 : decode cX3_having 53 = .ok (.iconst 2, 1) := by decide +kernel
theorem dX3_having_54 : decode cX3_having 54 = .ok (.iload_n 1, 1) := by decide +kernel
theorem dX3_having_55 : decode cX3_having 55 = .ok (.isub, 1) := by decide +kernel
theorem dX3_having_56 : decode cX3_having 56 = .ok (.imul, 1) := by decide +kernel
theorem dX3_having_57 : decode cX3_having 57 = .ok (.ishr, 1) := by decide +kernel
theorem dX3_having_58 : decode cX3_having 58 = .ok (.iconst 3, 1) := by decide +kernel
theorem dX3_having_59 : decode cX3_having 59 = .ok (.iand, 1) := by decide +kernel
theorem dX3_having_60 : decode cX3_having 60 = .ok (.iload_n 2, 1) := by decide +kernel
theorem dX3_having_61 : decode cX3_having 61 = .ok (.if_icmp .ne 9, 3) := by decide +kernel
theorem dX3_having_64 : decode cX3_having 64 = .ok (.ldc2_w 15, 3) := by decide +kernel
theorem dX3_having_67 : decode cX3_having 67 = .ok (.goto 4, 3) := by decide +kernel
theorem dX3_having_70 : decode cX3_having 70 = .ok (.lconst 0, 1) := by decide +kernel
theorem dX3_having_71 : decode cX3_having 71 = .ok (.lreturn, 1) := by decide +kernel
set_option maxRecDepth 20000 in
theorem ggX3_spread_X3_spreadAcross : GoodIn wsX3_spread wsX3_spreadAcross := goodIn_r _ [8, 9, 1, 21] (by decide +kernel) (by decide +kernel)
set_option maxRecDepth 20000 in
theorem gX3_spread_X3_spreadAcross : GoodIn wsX3_spread (wsV RX3 27 RX3 yX3_spreadAcross wsX3_spreadAcross) := goodIn_app (goodIn_of _ (by decide +kernel)) ggX3_spread_X3_spreadAcross
set_option maxRecDepth 20000 in
theorem ggX3_spread_X3_spreadInside : GoodIn wsX3_spread wsX3_spreadInside := goodIn_r _ [13, 1, 21] (by decide +kernel) (by decide +kernel)
set_option maxRecDepth 20000 in
theorem gX3_spread_X3_spreadInside : GoodIn wsX3_spread (wsV RX3 34 RX3 yX3_spreadInside wsX3_spreadInside) := goodIn_app (goodIn_of _ (by decide +kernel)) ggX3_spread_X3_spreadInside
set_option maxRecDepth 20000 in
theorem ggX3_spread_X3_spreadBetween : GoodIn wsX3_spread wsX3_spreadBetween := goodIn_r _ [17, 1, 18, 19, 20, 21] (by decide +kernel) (by decide +kernel)
set_option maxRecDepth 20000 in
theorem gX3_spread_X3_spreadBetween : GoodIn wsX3_spread (wsV RX3 41 RX3 yX3_spreadBetween wsX3_spreadBetween) := goodIn_app (goodIn_of _ (by decide +kernel)) ggX3_spread_X3_spreadBetween
theorem dX3_spread_0 : decode cX3_spread 0 = .ok (.iload_n 2, 1) := by decide +kernel
theorem dX3_spread_1 : decode cX3_spread 1 = .ok (.tableswitch 69 2 4 #[27, 38, 54], 27) := by decide +kernel
theorem dX3_spread_28 : decode cX3_spread 28 = .ok (.aload_n 0, 1) := by decide +kernel
theorem dX3_spread_29 : decode cX3_spread 29 = .ok (.aload_n 1, 1) := by decide +kernel
theorem dX3_spread_30 : decode cX3_spread 30 = .ok (.getfield 11, 3) := by decide +kernel
theorem dX3_spread_33 : decode cX3_spread 33 = .ok (.invokevirtual 27, 3) := by decide +kernel
theorem dX3_spread_36 : decode cX3_spread 36 = .ok (.goto 47, 3) := by decide +kernel
theorem dX3_spread_39 : decode cX3_spread 39 = .ok (.aload_n 0, 1) := by decide +kernel
theorem dX3_spread_40 : decode cX3_spread 40 = .ok (.aload_n 1, 1) := by decide +kernel
theorem dX3_spread_41 : decode cX3_spread 41 = .ok (.getfield 11, 3) := by decide +kernel
theorem dX3_spread_44 : decode cX3_spread 44 = .ok (.getstatic 31, 3) := by decide +kernel
theorem dX3_spread_47 : decode cX3_spread 47 = .ok (.bipush 12, 2) := by decide +kernel
theorem dX3_spread_49 : decode cX3_spread 49 = .ok (.invokevirtual 34, 3) := by decide +kernel
theorem dX3_spread_52 : decode cX3_spread 52 = .ok (.goto 31, 3) := by decide +kernel
theorem dX3_spread_55 : decode cX3_spread 55 = .ok (.aload_n 0, 1) := by decide +kernel
theorem dX3_spread_56 : decode cX3_spread 56 = .ok (.aload_n 1, 1) := by decide +kernel
theorem dX3_spread_57 : decode cX3_spread 57 = .ok (.getfield 11, 3) := by decide +kernel
theorem dX3_spread_60 : decode cX3_spread 60 = .ok (.getstatic 38, 3) := by decide +kernel
theorem dX3_spread_63 : decode cX3_spread 63 = .ok (.iconst 3, 1) := by decide +kernel
theorem dX3_spread_64 : decode cX3_spread 64 = .ok (.invokevirtual 34, 3) := by decide +kernel
theorem dX3_spread_67 : decode cX3_spread 67 = .ok (.goto 16, 3) := by decide +kernel
theorem dX3_spread_70 : decode cX3_spread 70 = .ok (.aload_n 0, 1) := by decide +kernel
