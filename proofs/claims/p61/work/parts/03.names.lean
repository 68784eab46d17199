def RX0 : String := "Foldback$Chars"
def TX0 : u_T := fun k => match k with
  | _ => ("Foldback$Chars", "signs", "[I", true)
def tyX0 : Nat → FieldType := fun k => match k with
  | _ => .array .int
abbrev wsX00 : List Cond := u_ws RX0 TX0 1
theorem nmX0 : ∀ a, a < 1 → ∀ b, b < 1 → a ≠ b → (TX0 a).2.1 ≠ (TX0 b).2.1 := by decide +kernel
theorem tyX0_ok : ∀ k, k < 1 → parseFieldDescriptor (TX0 k).2.2.1 = some (tyX0 k) := by decide +kernel
abbrev cX0_init : ByteArray := prog_2_method_1_code
def yX0_init : MethodName := ⟨RX0, "<init>", "([I)V"⟩
def RX1 : String := "Foldback$Desk"
def TX1 : u_T := fun k => match k with
  | 0 => ("Foldback$Desk", "state", "LFoldback$State;", true)
  | 1 => ("Foldback$Desk", "steps", "LFoldback$Steps;", true)
  | 2 => ("Foldback$Desk", "starts", "[I", true)
  | 3 => ("Foldback$Desk", "ends", "[I", true)
  | 4 => ("Foldback$Desk", "views", "I", false)
  | _ => ("Foldback$Desk", "point", "I", false)
def tyX1 : Nat → FieldType := fun k => match k with
  | 0 => .object "Foldback$State"
  | 1 => .object "Foldback$Steps"
  | 2 => .array .int
  | 3 => .array .int
  | 4 => .int
  | _ => .int
abbrev wsX10 : List Cond := u_ws RX1 TX1 6
theorem nmX1 : ∀ a, a < 6 → ∀ b, b < 6 → a ≠ b → (TX1 a).2.1 ≠ (TX1 b).2.1 := by decide +kernel
theorem tyX1_ok : ∀ k, k < 6 → parseFieldDescriptor (TX1 k).2.2.1 = some (tyX1 k) := by decide +kernel
abbrev cX1_init : ByteArray := prog_3_method_1_code
def yX1_init : MethodName := ⟨RX1, "<init>", "()V"⟩
abbrev cX1_low : ByteArray := prog_3_method_2_code
def yX1_low : MethodName := ⟨RX1, "low", "()I"⟩
abbrev cX1_high : ByteArray := prog_3_method_3_code
def yX1_high : MethodName := ⟨RX1, "high", "()I"⟩
abbrev cX1_isInView : ByteArray := prog_3_method_4_code
def yX1_isInView : MethodName := ⟨RX1, "isInView", "(I)Z"⟩
abbrev cX1_hasBehindPoint : ByteArray := prog_3_method_5_code
def yX1_hasBehindPoint : MethodName := ⟨RX1, "hasBehindPoint", "(I)Z"⟩
abbrev cX1_addStep : ByteArray := prog_3_method_6_code
def yX1_addStep : MethodName := ⟨RX1, "addStep", "(I)V"⟩
abbrev cX1_putIn : ByteArray := prog_3_method_7_code
def yX1_putIn : MethodName := ⟨RX1, "putIn", "(ILFoldback$Chars;)Z"⟩
abbrev cX1_takeOut : ByteArray := prog_3_method_8_code
def yX1_takeOut : MethodName := ⟨RX1, "takeOut", "(II)LFoldback$Chars;"⟩
abbrev cX1_putInstead : ByteArray := prog_3_method_9_code
def yX1_putInstead : MethodName := ⟨RX1, "putInstead", "(II)V"⟩
abbrev cX1_takeAll : ByteArray := prog_3_method_10_code
def yX1_takeAll : MethodName := ⟨RX1, "takeAll", "(LFoldback$Desk;)V"⟩
abbrev cX1_takeBack : ByteArray := prog_3_method_11_code
def yX1_takeBack : MethodName := ⟨RX1, "takeBack", "(LFoldback$Desk;[Z)V"⟩
abbrev cX1_takePlacesAndSteps : ByteArray := prog_3_method_12_code
def yX1_takePlacesAndSteps : MethodName := ⟨RX1, "takePlacesAndSteps", "(LFoldback$Desk;)V"⟩
def RX2 : String := "Foldback$Listeners"
def TX2 : u_T := fun k => match k with
  | 0 => ("Foldback$Listeners", "active", "[Z", true)
  | 1 => ("Foldback$Listeners", "wanted", "[I", true)
  | 2 => ("Foldback$Listeners", "instead", "[I", true)
  | 3 => ("Foldback$Listeners", "ranks", "[I", true)
  | 4 => ("Foldback$Listeners", "chain", "[I", true)
  | _ => ("Foldback$Listeners", "acting", "[I", true)
def tyX2 : Nat → FieldType := fun k => match k with
  | 0 => .array .boolean
  | 1 => .array .int
  | 2 => .array .int
  | 3 => .array .int
  | 4 => .array .int
  | _ => .array .int
abbrev wsX20 : List Cond := u_ws RX2 TX2 6
theorem nmX2 : ∀ a, a < 6 → ∀ b, b < 6 → a ≠ b → (TX2 a).2.1 ≠ (TX2 b).2.1 := by decide +kernel
theorem tyX2_ok : ∀ k, k < 6 → parseFieldDescriptor (TX2 k).2.2.1 = some (tyX2 k) := by decide +kernel
abbrev cX2_init : ByteArray := prog_4_method_1_code
def yX2_init : MethodName := ⟨RX2, "<init>", "()V"⟩
abbrev cX2_activate : ByteArray := prog_4_method_2_code
def yX2_activate : MethodName := ⟨RX2, "activate", "(IIII)V"⟩
abbrev cX2_settle : ByteArray := prog_4_method_3_code
def yX2_settle : MethodName := ⟨RX2, "settle", "(LFoldback$Desk;)Z"⟩
abbrev cX2_firstToFind : ByteArray := prog_4_method_4_code
def yX2_firstToFind : MethodName := ⟨RX2, "firstToFind", "(LFoldback$State;)I"⟩
def RX3 : String := "Foldback$Macro"
def TX3 : u_T := fun k => match k with
  | 0 => ("Foldback$Macro", "commandList", "[I", true)
  | 1 => ("Foldback$Macro", "firstArguments", "[I", true)
  | 2 => ("Foldback$Macro", "secondArguments", "[I", true)
  | _ => ("Foldback$Macro", "count", "I", false)
def tyX3 : Nat → FieldType := fun k => match k with
  | 0 => .array .int
  | 1 => .array .int
  | 2 => .array .int
  | _ => .int
abbrev wsX30 : List Cond := u_ws RX3 TX3 4
theorem nmX3 : ∀ a, a < 4 → ∀ b, b < 4 → a ≠ b → (TX3 a).2.1 ≠ (TX3 b).2.1 := by decide +kernel
theorem tyX3_ok : ∀ k, k < 4 → parseFieldDescriptor (TX3 k).2.2.1 = some (tyX3 k) := by decide +kernel
abbrev cX3_init : ByteArray := prog_5_method_1_code
def yX3_init : MethodName := ⟨RX3, "<init>", "()V"⟩
abbrev cX3_append : ByteArray := prog_5_method_2_code
def yX3_append : MethodName := ⟨RX3, "append", "(III)V"⟩
abbrev cX3_takeList : ByteArray := prog_5_method_3_code
def yX3_takeList : MethodName := ⟨RX3, "takeList", "(LFoldback$Macro;)V"⟩
def RX4 : String := "Foldback$Node"
def TX4 : u_T := fun k => match k with
  | 0 => ("Foldback$Node", "number", "I", true)
  | 1 => ("Foldback$Node", "state", "LFoldback$State;", true)
  | 2 => ("Foldback$Node", "steps", "LFoldback$Steps;", false)
  | 3 => ("Foldback$Node", "parent", "LFoldback$Node;", false)
  | 4 => ("Foldback$Node", "below", "LFoldback$Node;", false)
  | 5 => ("Foldback$Node", "children", "I", false)
  | 6 => ("Foldback$Node", "point", "I", false)
  | _ => ("Foldback$Node", "regionUndo", "Z", false)
def tyX4 : Nat → FieldType := fun k => match k with
  | 0 => .int
  | 1 => .object "Foldback$State"
  | 2 => .object "Foldback$Steps"
  | 3 => .object "Foldback$Node"
  | 4 => .object "Foldback$Node"
  | 5 => .int
  | 6 => .int
  | _ => .boolean
abbrev wsX40 : List Cond := u_ws RX4 TX4 8
theorem nmX4 : ∀ a, a < 8 → ∀ b, b < 8 → a ≠ b → (TX4 a).2.1 ≠ (TX4 b).2.1 := by decide +kernel
theorem tyX4_ok : ∀ k, k < 8 → parseFieldDescriptor (TX4 k).2.2.1 = some (tyX4 k) := by decide +kernel
abbrev cX4_init : ByteArray := prog_6_method_1_code
def yX4_init : MethodName := ⟨RX4, "<init>", "(ILFoldback$Node;I)V"⟩
def RX5 : String := "Foldback$State"
def TX5 : u_T := fun k => match k with
  | 0 => ("Foldback$State", "text", "[I", false)
  | 1 => ("Foldback$State", "size", "I", false)
  | 2 => ("Foldback$State", "places", "[I", true)
  | 3 => ("Foldback$State", "rights", "[Z", true)
  | _ => ("Foldback$State", "stored", "[LFoldback$Chars;", true)
def tyX5 : Nat → FieldType := fun k => match k with
  | 0 => .array .int
  | 1 => .int
  | 2 => .array .int
  | 3 => .array .boolean
  | _ => .array (.object "Foldback$Chars")
abbrev wsX50 : List Cond := u_ws RX5 TX5 5
theorem nmX5 : ∀ a, a < 5 → ∀ b, b < 5 → a ≠ b → (TX5 a).2.1 ≠ (TX5 b).2.1 := by decide +kernel
theorem tyX5_ok : ∀ k, k < 5 → parseFieldDescriptor (TX5 k).2.2.1 = some (tyX5 k) := by decide +kernel
abbrev cX5_init : ByteArray := prog_7_method_1_code
def yX5_init : MethodName := ⟨RX5, "<init>", "(I)V"⟩
abbrev cX5_placeAfterInsertion : ByteArray := prog_7_method_2_code
def yX5_placeAfterInsertion : MethodName := ⟨RX5, "placeAfterInsertion", "(IZII)I"⟩
abbrev cX5_placeAfterDeletion : ByteArray := prog_7_method_3_code
def yX5_placeAfterDeletion : MethodName := ⟨RX5, "placeAfterDeletion", "(III)I"⟩
abbrev cX5_putIn : ByteArray := prog_7_method_4_code
def yX5_putIn : MethodName := ⟨RX5, "putIn", "(ILFoldback$Chars;)Z"⟩
abbrev cX5_takeOut : ByteArray := prog_7_method_5_code
def yX5_takeOut : MethodName := ⟨RX5, "takeOut", "(II)V"⟩
abbrev cX5_charsFrom : ByteArray := prog_7_method_6_code
def yX5_charsFrom : MethodName := ⟨RX5, "charsFrom", "(II)LFoldback$Chars;"⟩
abbrev cX5_indexOfSign : ByteArray := prog_7_method_7_code
def yX5_indexOfSign : MethodName := ⟨RX5, "indexOfSign", "(III)I"⟩
abbrev cX5_slots : ByteArray := prog_7_method_8_code
def yX5_slots : MethodName := ⟨RX5, "slots", "(I)I"⟩
abbrev cX5_entryCount : ByteArray := prog_7_method_9_code
def yX5_entryCount : MethodName := ⟨RX5, "entryCount", "(I)I"⟩
abbrev cX5_entry : ByteArray := prog_7_method_10_code
def yX5_entry : MethodName := ⟨RX5, "entry", "(II)LFoldback$Chars;"⟩
abbrev cX5_pushOnRing : ByteArray := prog_7_method_11_code
def yX5_pushOnRing : MethodName := ⟨RX5, "pushOnRing", "(LFoldback$Chars;)V"⟩
abbrev cX5_turnRing : ByteArray := prog_7_method_12_code
def yX5_turnRing : MethodName := ⟨RX5, "turnRing", "()V"⟩
abbrev cX5_takeTextAndMarks : ByteArray := prog_7_method_13_code
def yX5_takeTextAndMarks : MethodName := ⟨RX5, "takeTextAndMarks", "(LFoldback$State;)V"⟩
abbrev cX5_takeStore : ByteArray := prog_7_method_14_code
def yX5_takeStore : MethodName := ⟨RX5, "takeStore", "(LFoldback$State;I)V"⟩
abbrev cX5_take : ByteArray := prog_7_method_15_code
def yX5_take : MethodName := ⟨RX5, "take", "(LFoldback$State;[Z)V"⟩
def RX6 : String := "Foldback$Step"
def TX6 : u_T := fun k => match k with
  | 0 => ("Foldback$Step", "kind", "I", true)
  | 1 => ("Foldback$Step", "place", "I", true)
  | 2 => ("Foldback$Step", "gone", "LFoldback$Chars;", true)
  | 3 => ("Foldback$Step", "size", "I", false)
  | _ => ("Foldback$Step", "next", "LFoldback$Step;", false)
def tyX6 : Nat → FieldType := fun k => match k with
  | 0 => .int
  | 1 => .int
  | 2 => .object "Foldback$Chars"
  | 3 => .int
  | _ => .object "Foldback$Step"
abbrev wsX60 : List Cond := u_ws RX6 TX6 5
theorem nmX6 : ∀ a, a < 5 → ∀ b, b < 5 → a ≠ b → (TX6 a).2.1 ≠ (TX6 b).2.1 := by decide +kernel
theorem tyX6_ok : ∀ k, k < 5 → parseFieldDescriptor (TX6 k).2.2.1 = some (tyX6 k) := by decide +kernel
abbrev cX6_init : ByteArray := prog_8_method_1_code
def yX6_init : MethodName := ⟨RX6, "<init>", "(IIILFoldback$Chars;)V"⟩
def RX7 : String := "Foldback$Steps"
def TX7 : u_T := fun k => match k with
  | 0 => ("Foldback$Steps", "first", "LFoldback$Step;", false)
  | 1 => ("Foldback$Steps", "last", "LFoldback$Step;", false)
  | 2 => ("Foldback$Steps", "count", "I", false)
  | _ => ("Foldback$Steps", "textSteps", "I", false)
def tyX7 : Nat → FieldType := fun k => match k with
  | 0 => .object "Foldback$Step"
  | 1 => .object "Foldback$Step"
  | 2 => .int
  | _ => .int
abbrev wsX70 : List Cond := u_ws RX7 TX7 4
theorem nmX7 : ∀ a, a < 4 → ∀ b, b < 4 → a ≠ b → (TX7 a).2.1 ≠ (TX7 b).2.1 := by decide +kernel
theorem tyX7_ok : ∀ k, k < 4 → parseFieldDescriptor (TX7 k).2.2.1 = some (tyX7 k) := by decide +kernel
abbrev cX7_init : ByteArray := prog_9_method_1_code
def yX7_init : MethodName := ⟨RX7, "<init>", "()V"⟩
abbrev cX7_append : ByteArray := prog_9_method_2_code
def yX7_append : MethodName := ⟨RX7, "append", "(LFoldback$Step;)V"⟩
abbrev cX7_join : ByteArray := prog_9_method_3_code
def yX7_join : MethodName := ⟨RX7, "join", "(LFoldback$Steps;)V"⟩
abbrev cX7_dropFirst : ByteArray := prog_9_method_4_code
def yX7_dropFirst : MethodName := ⟨RX7, "dropFirst", "()V"⟩
abbrev cX7_empty : ByteArray := prog_9_method_5_code
def yX7_empty : MethodName := ⟨RX7, "empty", "()V"⟩
abbrev cX7_takeExtent : ByteArray := prog_9_method_6_code
def yX7_takeExtent : MethodName := ⟨RX7, "takeExtent", "(LFoldback$Steps;)V"⟩
def RX8 : String := "Foldback$Trace"
def TX8 : u_T := fun k => match k with
  | 0 => ("Foldback$Trace", "step", "LFoldback$Step;", false)
  | 1 => ("Foldback$Trace", "start", "I", false)
  | 2 => ("Foldback$Trace", "end", "I", false)
  | 3 => ("Foldback$Trace", "covered", "Z", false)
  | _ => ("Foldback$Trace", "movedBackBy", "I", false)
def tyX8 : Nat → FieldType := fun k => match k with
  | 0 => .object "Foldback$Step"
  | 1 => .int
  | 2 => .int
  | 3 => .boolean
  | _ => .int
abbrev wsX80 : List Cond := u_ws RX8 TX8 5
theorem nmX8 : ∀ a, a < 5 → ∀ b, b < 5 → a ≠ b → (TX8 a).2.1 ≠ (TX8 b).2.1 := by decide +kernel
theorem tyX8_ok : ∀ k, k < 5 → parseFieldDescriptor (TX8 k).2.2.1 = some (tyX8 k) := by decide +kernel
abbrev cX8_init : ByteArray := prog_10_method_1_code
def yX8_init : MethodName := ⟨RX8, "<init>", "()V"⟩
abbrev cX8_begin : ByteArray := prog_10_method_2_code
def yX8_begin : MethodName := ⟨RX8, "begin", "(LFoldback$Step;)V"⟩
abbrev cX8_meet : ByteArray := prog_10_method_3_code
def yX8_meet : MethodName := ⟨RX8, "meet", "(III)V"⟩
abbrev cX8_meetInsertion : ByteArray := prog_10_method_4_code
def yX8_meetInsertion : MethodName := ⟨RX8, "meetInsertion", "(II)V"⟩
abbrev cX8_meetDeletion : ByteArray := prog_10_method_5_code
def yX8_meetDeletion : MethodName := ⟨RX8, "meetDeletion", "(II)V"⟩
abbrev cX8_shift : ByteArray := prog_10_method_6_code
def yX8_shift : MethodName := ⟨RX8, "shift", "(I)V"⟩
def RX9 : String := "Foldback$Traces"
def TX9 : u_T := fun k => match k with
  | 0 => ("Foldback$Traces", "list", "[LFoldback$Trace;", true)
  | _ => ("Foldback$Traces", "count", "I", false)
def tyX9 : Nat → FieldType := fun k => match k with
  | 0 => .array (.object "Foldback$Trace")
  | _ => .int
abbrev wsX90 : List Cond := u_ws RX9 TX9 2
theorem nmX9 : ∀ a, a < 2 → ∀ b, b < 2 → a ≠ b → (TX9 a).2.1 ≠ (TX9 b).2.1 := by decide +kernel
theorem tyX9_ok : ∀ k, k < 2 → parseFieldDescriptor (TX9 k).2.2.1 = some (tyX9 k) := by decide +kernel
abbrev cX9_init : ByteArray := prog_11_method_1_code
def yX9_init : MethodName := ⟨RX9, "<init>", "()V"⟩
abbrev cX9_find : ByteArray := prog_11_method_2_code
def yX9_find : MethodName := ⟨RX9, "find", "(LFoldback$Node;II)Z"⟩
abbrev cX9_follow : ByteArray := prog_11_method_3_code
def yX9_follow : MethodName := ⟨RX9, "follow", "(LFoldback$Node;)Z"⟩
abbrev cX9_meetOwnStep : ByteArray := prog_11_method_4_code
def yX9_meetOwnStep : MethodName := ⟨RX9, "meetOwnStep", "(LFoldback$Step;)V"⟩
abbrev cX9_meetStep : ByteArray := prog_11_method_5_code
def yX9_meetStep : MethodName := ⟨RX9, "meetStep", "(LFoldback$Step;)V"⟩
abbrev cX9_oneIsCovered : ByteArray := prog_11_method_6_code
def yX9_oneIsCovered : MethodName := ⟨RX9, "oneIsCovered", "()Z"⟩
abbrev cX9_meetRegion : ByteArray := prog_11_method_7_code
def yX9_meetRegion : MethodName := ⟨RX9, "meetRegion", "(II)Z"⟩
abbrev cX9_doOpposites : ByteArray := prog_11_method_8_code
def yX9_doOpposites : MethodName := ⟨RX9, "doOpposites", "(LFoldback$Desk;)Z"⟩
abbrev cX9_doOpposite : ByteArray := prog_11_method_9_code
def yX9_doOpposite : MethodName := ⟨RX9, "doOpposite", "(LFoldback$Desk;I)Z"⟩
abbrev cX9_meetOpposite : ByteArray := prog_11_method_10_code
def yX9_meetOpposite : MethodName := ⟨RX9, "meetOpposite", "(IIII)V"⟩
def RX10 : String := "Foldback$Tree"
def TX10 : u_T := fun k => match k with
  | 0 => ("Foldback$Tree", "list", "Ljava/util/List;", true)
  | 1 => ("Foldback$Tree", "bookmarks", "[LFoldback$Node;", true)
  | 2 => ("Foldback$Tree", "current", "LFoldback$Node;", false)
  | 3 => ("Foldback$Tree", "nextNumber", "I", false)
  | _ => ("Foldback$Tree", "budget", "I", false)
def tyX10 : Nat → FieldType := fun k => match k with
  | 0 => .object "java/util/List"
  | 1 => .array (.object "Foldback$Node")
  | 2 => .object "Foldback$Node"
  | 3 => .int
  | _ => .int
abbrev wsX100 : List Cond := u_ws RX10 TX10 5
theorem nmX10 : ∀ a, a < 5 → ∀ b, b < 5 → a ≠ b → (TX10 a).2.1 ≠ (TX10 b).2.1 := by decide +kernel
theorem tyX10_ok : ∀ k, k < 5 → parseFieldDescriptor (TX10 k).2.2.1 = some (tyX10 k) := by decide +kernel
abbrev cX10_init : ByteArray := prog_12_method_1_code
def yX10_init : MethodName := ⟨RX10, "<init>", "()V"⟩
abbrev cX10_find : ByteArray := prog_12_method_2_code
def yX10_find : MethodName := ⟨RX10, "find", "(I)LFoldback$Node;"⟩
abbrev cX10_lastChild : ByteArray := prog_12_method_3_code
def yX10_lastChild : MethodName := ⟨RX10, "lastChild", "(LFoldback$Node;)LFoldback$Node;"⟩
abbrev cX10_distance : ByteArray := prog_12_method_4_code
def yX10_distance : MethodName := ⟨RX10, "distance", "(LFoldback$Node;LFoldback$Node;)I"⟩
abbrev cX10_grow : ByteArray := prog_12_method_5_code
def yX10_grow : MethodName := ⟨RX10, "grow", "(LFoldback$Node;)V"⟩
abbrev cX10_mergeToBudget : ByteArray := prog_12_method_6_code
def yX10_mergeToBudget : MethodName := ⟨RX10, "mergeToBudget", "()I"⟩
abbrev cX10_canBeMerged : ByteArray := prog_12_method_7_code
def yX10_canBeMerged : MethodName := ⟨RX10, "canBeMerged", "(LFoldback$Node;)Z"⟩
abbrev cX10_mergeIntoChild : ByteArray := prog_12_method_8_code
def yX10_mergeIntoChild : MethodName := ⟨RX10, "mergeIntoChild", "(LFoldback$Node;)V"⟩
def RX11 : String := "Foldback$Trial"
def TX11 : u_T := fun k => match k with
  | 0 => ("Foldback$Trial", "started", "I", false)
  | 1 => ("Foldback$Trial", "startedAtCheckpoint", "I", false)
  | 2 => ("Foldback$Trial", "reason", "I", false)
  | 3 => ("Foldback$Trial", "place", "I", false)
  | 4 => ("Foldback$Trial", "lastReason", "I", false)
  | _ => ("Foldback$Trial", "lastCommand", "I", false)
def tyX11 : Nat → FieldType := fun k => match k with
  | 0 => .int
  | 1 => .int
  | 2 => .int
  | 3 => .int
  | 4 => .int
  | _ => .int
abbrev wsX110 : List Cond := u_ws RX11 TX11 6
theorem nmX11 : ∀ a, a < 6 → ∀ b, b < 6 → a ≠ b → (TX11 a).2.1 ≠ (TX11 b).2.1 := by decide +kernel
theorem tyX11_ok : ∀ k, k < 6 → parseFieldDescriptor (TX11 k).2.2.1 = some (tyX11 k) := by decide +kernel
abbrev cX11_init : ByteArray := prog_13_method_1_code
def yX11_init : MethodName := ⟨RX11, "<init>", "()V"⟩
abbrev cX11_begin : ByteArray := prog_13_method_2_code
def yX11_begin : MethodName := ⟨RX11, "begin", "()V"⟩
abbrev cX11_fail : ByteArray := prog_13_method_3_code
def yX11_fail : MethodName := ⟨RX11, "fail", "(II)Z"⟩
abbrev cX11_publish : ByteArray := prog_13_method_4_code
def yX11_publish : MethodName := ⟨RX11, "publish", "()V"⟩
def RX12 : String := "Foldback"
def TX12 : u_T := fun k => match k with
  | 0 => ("Foldback", "live", "LFoldback$Desk;", true)
  | 1 => ("Foldback", "before", "LFoldback$Desk;", true)
  | 2 => ("Foldback", "checked", "LFoldback$Desk;", true)
  | 3 => ("Foldback", "tracked", "[Z", true)
  | 4 => ("Foldback", "tree", "LFoldback$Tree;", true)
  | 5 => ("Foldback", "listeners", "LFoldback$Listeners;", true)
  | 6 => ("Foldback", "traces", "LFoldback$Traces;", true)
  | 7 => ("Foldback", "macros", "[LFoldback$Macro;", true)
  | 8 => ("Foldback", "recorded", "LFoldback$Macro;", true)
  | 9 => ("Foldback", "trial", "LFoldback$Trial;", true)
  | 10 => ("Foldback", "recording", "I", false)
  | 11 => ("Foldback", "groupOpen", "Z", false)
  | 12 => ("Foldback", "typing", "Z", false)
  | 13 => ("Foldback", "lastTyped", "I", false)
  | 14 => ("Foldback", "ticks", "I", false)
  | _ => ("Foldback", "answer", "I", false)
def tyX12 : Nat → FieldType := fun k => match k with
  | 0 => .object "Foldback$Desk"
  | 1 => .object "Foldback$Desk"
  | 2 => .object "Foldback$Desk"
  | 3 => .array .boolean
  | 4 => .object "Foldback$Tree"
  | 5 => .object "Foldback$Listeners"
  | 6 => .object "Foldback$Traces"
  | 7 => .array (.object "Foldback$Macro")
  | 8 => .object "Foldback$Macro"
  | 9 => .object "Foldback$Trial"
  | 10 => .int
  | 11 => .boolean
  | 12 => .boolean
  | 13 => .int
  | 14 => .int
  | _ => .int
abbrev wsX120 : List Cond := u_ws RX12 TX12 16
theorem nmX12 : ∀ a, a < 16 → ∀ b, b < 16 → a ≠ b → (TX12 a).2.1 ≠ (TX12 b).2.1 := by decide +kernel
theorem tyX12_ok : ∀ k, k < 16 → parseFieldDescriptor (TX12 k).2.2.1 = some (tyX12 k) := by decide +kernel
abbrev cX12_init : ByteArray := prog_1_method_1_code
def yX12_init : MethodName := ⟨RX12, "<init>", "()V"⟩
abbrev cX12_insert : ByteArray := prog_1_method_2_code
def yX12_insert : MethodName := ⟨RX12, "insert", "(I)I"⟩
abbrev cX12_overwrite : ByteArray := prog_1_method_3_code
def yX12_overwrite : MethodName := ⟨RX12, "overwrite", "(I)I"⟩
abbrev cX12_delete : ByteArray := prog_1_method_4_code
def yX12_delete : MethodName := ⟨RX12, "delete", "(I)I"⟩
abbrev cX12_move : ByteArray := prog_1_method_5_code
def yX12_move : MethodName := ⟨RX12, "move", "(I)I"⟩
abbrev cX12_search : ByteArray := prog_1_method_6_code
def yX12_search : MethodName := ⟨RX12, "search", "(I)I"⟩
abbrev cX12_kill : ByteArray := prog_1_method_7_code
def yX12_kill : MethodName := ⟨RX12, "kill", "(I)I"⟩
abbrev cX12_yank : ByteArray := prog_1_method_8_code
def yX12_yank : MethodName := ⟨RX12, "yank", "()I"⟩
abbrev cX12_rotate : ByteArray := prog_1_method_9_code
def yX12_rotate : MethodName := ⟨RX12, "rotate", "()I"⟩
abbrev cX12_copy : ByteArray := prog_1_method_10_code
def yX12_copy : MethodName := ⟨RX12, "copy", "(II)I"⟩
abbrev cX12_paste : ByteArray := prog_1_method_11_code
def yX12_paste : MethodName := ⟨RX12, "paste", "(I)I"⟩
abbrev cX12_setMark : ByteArray := prog_1_method_12_code
def yX12_setMark : MethodName := ⟨RX12, "setMark", "(IZ)I"⟩
abbrev cX12_clearMark : ByteArray := prog_1_method_13_code
def yX12_clearMark : MethodName := ⟨RX12, "clearMark", "(I)I"⟩
abbrev cX12_jump : ByteArray := prog_1_method_14_code
def yX12_jump : MethodName := ⟨RX12, "jump", "(I)I"⟩
abbrev cX12_narrow : ByteArray := prog_1_method_15_code
def yX12_narrow : MethodName := ⟨RX12, "narrow", "(I)I"⟩
abbrev cX12_widen : ByteArray := prog_1_method_16_code
def yX12_widen : MethodName := ⟨RX12, "widen", "()I"⟩
abbrev cX12_run : ByteArray := prog_1_method_17_code
def yX12_run : MethodName := ⟨RX12, "run", "(II)I"⟩
abbrev cX12_record : ByteArray := prog_1_method_19_code
def yX12_record : MethodName := ⟨RX12, "record", "(I)V"⟩
abbrev cX12_stop : ByteArray := prog_1_method_20_code
def yX12_stop : MethodName := ⟨RX12, "stop", "()I"⟩
abbrev cX12_open : ByteArray := prog_1_method_21_code
def yX12_open : MethodName := ⟨RX12, "open", "()V"⟩
abbrev cX12_close : ByteArray := prog_1_method_22_code
def yX12_close : MethodName := ⟨RX12, "close", "()I"⟩
abbrev cX12_pass : ByteArray := prog_1_method_23_code
def yX12_pass : MethodName := ⟨RX12, "pass", "(I)V"⟩
abbrev cX12_track : ByteArray := prog_1_method_24_code
def yX12_track : MethodName := ⟨RX12, "track", "(I)V"⟩
abbrev cX12_undo : ByteArray := prog_1_method_25_code
def yX12_undo : MethodName := ⟨RX12, "undo", "()I"⟩
abbrev cX12_redo : ByteArray := prog_1_method_26_code
def yX12_redo : MethodName := ⟨RX12, "redo", "()I"⟩
abbrev cX12_walk : ByteArray := prog_1_method_27_code
def yX12_walk : MethodName := ⟨RX12, "walk", "(I)I"⟩
abbrev cX12_undoIn : ByteArray := prog_1_method_28_code
def yX12_undoIn : MethodName := ⟨RX12, "undoIn", "(II)I"⟩
abbrev cX12_setBudget : ByteArray := prog_1_method_31_code
def yX12_setBudget : MethodName := ⟨RX12, "setBudget", "(I)I"⟩
abbrev cX12_listen : ByteArray := prog_1_method_32_code
def yX12_listen : MethodName := ⟨RX12, "listen", "(IIII)V"⟩
abbrev cX12_length : ByteArray := prog_1_method_34_code
def yX12_length : MethodName := ⟨RX12, "length", "()I"⟩
abbrev cX12_charAt : ByteArray := prog_1_method_35_code
def yX12_charAt : MethodName := ⟨RX12, "charAt", "(I)I"⟩
abbrev cX12_point : ByteArray := prog_1_method_36_code
def yX12_point : MethodName := ⟨RX12, "point", "()I"⟩
abbrev cX12_lines : ByteArray := prog_1_method_37_code
def yX12_lines : MethodName := ⟨RX12, "lines", "()I"⟩
abbrev cX12_lineOf : ByteArray := prog_1_method_38_code
def yX12_lineOf : MethodName := ⟨RX12, "lineOf", "(I)I"⟩
abbrev cX12_lineStart : ByteArray := prog_1_method_39_code
def yX12_lineStart : MethodName := ⟨RX12, "lineStart", "(I)I"⟩
abbrev cX12_markAt : ByteArray := prog_1_method_40_code
def yX12_markAt : MethodName := ⟨RX12, "markAt", "(I)I"⟩
abbrev cX12_viewStart : ByteArray := prog_1_method_41_code
def yX12_viewStart : MethodName := ⟨RX12, "viewStart", "()I"⟩
abbrev cX12_viewEnd : ByteArray := prog_1_method_42_code
def yX12_viewEnd : MethodName := ⟨RX12, "viewEnd", "()I"⟩
abbrev cX12_now : ByteArray := prog_1_method_43_code
def yX12_now : MethodName := ⟨RX12, "now", "()I"⟩
abbrev cX12_nodes : ByteArray := prog_1_method_44_code
def yX12_nodes : MethodName := ⟨RX12, "nodes", "()I"⟩
abbrev cX12_parentOf : ByteArray := prog_1_method_45_code
def yX12_parentOf : MethodName := ⟨RX12, "parentOf", "(I)I"⟩
abbrev cX12_stepsOf : ByteArray := prog_1_method_47_code
def yX12_stepsOf : MethodName := ⟨RX12, "stepsOf", "(I)I"⟩
abbrev cX12_bookmarkAt : ByteArray := prog_1_method_48_code
def yX12_bookmarkAt : MethodName := ⟨RX12, "bookmarkAt", "(I)I"⟩
abbrev cX12_lengthByReplay : ByteArray := prog_1_method_49_code
def yX12_lengthByReplay : MethodName := ⟨RX12, "lengthByReplay", "(I)I"⟩
abbrev cX12_charByReplay : ByteArray := prog_1_method_50_code
def yX12_charByReplay : MethodName := ⟨RX12, "charByReplay", "(II)I"⟩
abbrev cX12_markByReplay : ByteArray := prog_1_method_51_code
def yX12_markByReplay : MethodName := ⟨RX12, "markByReplay", "(II)I"⟩
abbrev cX12_storedByReplay : ByteArray := prog_1_method_52_code
def yX12_storedByReplay : MethodName := ⟨RX12, "storedByReplay", "(II)I"⟩
abbrev cX12_entries : ByteArray := prog_1_method_53_code
def yX12_entries : MethodName := ⟨RX12, "entries", "(I)I"⟩
abbrev cX12_entryLength : ByteArray := prog_1_method_54_code
def yX12_entryLength : MethodName := ⟨RX12, "entryLength", "(II)I"⟩
abbrev cX12_failureReason : ByteArray := prog_1_method_57_code
def yX12_failureReason : MethodName := ⟨RX12, "failureReason", "()I"⟩
abbrev cX12_failureCommand : ByteArray := prog_1_method_58_code
def yX12_failureCommand : MethodName := ⟨RX12, "failureCommand", "()I"⟩
abbrev cX12_requireIndex : ByteArray := prog_1_method_60_code
def yX12_requireIndex : MethodName := ⟨RX12, "requireIndex", "(II)V"⟩
abbrev cX12_requireRange : ByteArray := prog_1_method_61_code
def yX12_requireRange : MethodName := ⟨RX12, "requireRange", "(III)V"⟩
abbrev cX12_requireCharacter : ByteArray := prog_1_method_62_code
def yX12_requireCharacter : MethodName := ⟨RX12, "requireCharacter", "(I)V"⟩
abbrev cX12_requireNode : ByteArray := prog_1_method_63_code
def yX12_requireNode : MethodName := ⟨RX12, "requireNode", "(I)LFoldback$Node;"⟩
abbrev cX12_requireEntry : ByteArray := prog_1_method_64_code
def yX12_requireEntry : MethodName := ⟨RX12, "requireEntry", "(II)LFoldback$Chars;"⟩
abbrev cX12_refuseInGroup : ByteArray := prog_1_method_65_code
def yX12_refuseInGroup : MethodName := ⟨RX12, "refuseInGroup", "()V"⟩
abbrev cX12_requireCalmListeners : ByteArray := prog_1_method_66_code
def yX12_requireCalmListeners : MethodName := ⟨RX12, "requireCalmListeners", "()V"⟩
abbrev cX12_call : ByteArray := prog_1_method_67_code
def yX12_call : MethodName := ⟨RX12, "call", "(III)I"⟩
abbrev cX12_prepare : ByteArray := prog_1_method_68_code
def yX12_prepare : MethodName := ⟨RX12, "prepare", "()V"⟩
abbrev cX12_performOrRefuse : ByteArray := prog_1_method_69_code
def yX12_performOrRefuse : MethodName := ⟨RX12, "performOrRefuse", "(III)V"⟩
abbrev cX12_noteCommand : ByteArray := prog_1_method_70_code
def yX12_noteCommand : MethodName := ⟨RX12, "noteCommand", "(III)V"⟩
abbrev cX12_makeChange : ByteArray := prog_1_method_71_code
def yX12_makeChange : MethodName := ⟨RX12, "makeChange", "(Z)V"⟩
abbrev cX12_makeNode : ByteArray := prog_1_method_72_code
def yX12_makeNode : MethodName := ⟨RX12, "makeNode", "(Z)V"⟩
abbrev cX12_keepState : ByteArray := prog_1_method_73_code
def yX12_keepState : MethodName := ⟨RX12, "keepState", "(LFoldback$Node;)V"⟩
abbrev cX12_continuesTyping : ByteArray := prog_1_method_74_code
def yX12_continuesTyping : MethodName := ⟨RX12, "continuesTyping", "(I)Z"⟩
abbrev cX12_isLetterOrDigit : ByteArray := prog_1_method_75_code
def yX12_isLetterOrDigit : MethodName := ⟨RX12, "isLetterOrDigit", "(I)Z"⟩
abbrev cX12_extendChange : ByteArray := prog_1_method_76_code
def yX12_extendChange : MethodName := ⟨RX12, "extendChange", "()V"⟩
abbrev cX12_goToNode : ByteArray := prog_1_method_77_code
def yX12_goToNode : MethodName := ⟨RX12, "goToNode", "(LFoldback$Node;)I"⟩
abbrev cX12_numberOf : ByteArray := prog_1_method_79_code
def yX12_numberOf : MethodName := ⟨RX12, "numberOf", "(LFoldback$Node;)I"⟩
abbrev cX12_lineFeedsAhead : ByteArray := prog_1_method_80_code
def yX12_lineFeedsAhead : MethodName := ⟨RX12, "lineFeedsAhead", "(I)I"⟩
abbrev cX12_runMacro : ByteArray := prog_1_method_81_code
def yX12_runMacro : MethodName := ⟨RX12, "runMacro", "(III)Z"⟩
abbrev cX12_start : ByteArray := prog_1_method_82_code
def yX12_start : MethodName := ⟨RX12, "start", "(III)Z"⟩
abbrev cX12_perform : ByteArray := prog_1_method_83_code
def yX12_perform : MethodName := ⟨RX12, "perform", "(III)I"⟩
abbrev cX12_putAtPoint : ByteArray := prog_1_method_84_code
def yX12_putAtPoint : MethodName := ⟨RX12, "putAtPoint", "(LFoldback$Chars;)I"⟩
abbrev cX12_putOver : ByteArray := prog_1_method_85_code
def yX12_putOver : MethodName := ⟨RX12, "putOver", "(I)I"⟩
abbrev cX12_takeBehind : ByteArray := prog_1_method_86_code
def yX12_takeBehind : MethodName := ⟨RX12, "takeBehind", "(I)I"⟩
abbrev cX12_takeToRing : ByteArray := prog_1_method_87_code
def yX12_takeToRing : MethodName := ⟨RX12, "takeToRing", "(I)I"⟩
abbrev cX12_turnRing : ByteArray := prog_1_method_88_code
def yX12_turnRing : MethodName := ⟨RX12, "turnRing", "()I"⟩
abbrev cX12_keepInRegister : ByteArray := prog_1_method_89_code
def yX12_keepInRegister : MethodName := ⟨RX12, "keepInRegister", "(II)I"⟩
abbrev cX12_storeWasSet : ByteArray := prog_1_method_90_code
def yX12_storeWasSet : MethodName := ⟨RX12, "storeWasSet", "(I)I"⟩
abbrev cX12_goBy : ByteArray := prog_1_method_91_code
def yX12_goBy : MethodName := ⟨RX12, "goBy", "(I)I"⟩
abbrev cX12_goBehind : ByteArray := prog_1_method_92_code
def yX12_goBehind : MethodName := ⟨RX12, "goBehind", "(I)I"⟩
abbrev cX12_goToMark : ByteArray := prog_1_method_93_code
def yX12_goToMark : MethodName := ⟨RX12, "goToMark", "(I)I"⟩
abbrev cX12_goToPlace : ByteArray := prog_1_method_94_code
def yX12_goToPlace : MethodName := ⟨RX12, "goToPlace", "(II)I"⟩
abbrev cX12_markPoint : ByteArray := prog_1_method_95_code
def yX12_markPoint : MethodName := ⟨RX12, "markPoint", "(IZ)I"⟩
abbrev cX12_unsetMark : ByteArray := prog_1_method_96_code
def yX12_unsetMark : MethodName := ⟨RX12, "unsetMark", "(I)I"⟩
abbrev cX12_beginView : ByteArray := prog_1_method_97_code
def yX12_beginView : MethodName := ⟨RX12, "beginView", "(I)I"⟩
abbrev cX12_endView : ByteArray := prog_1_method_98_code
def yX12_endView : MethodName := ⟨RX12, "endView", "()I"⟩
def RX13 : String := "FoldbackModel"
def TX13 : u_T := fun k => match k with
  | _ => ("", "", "", false)
def tyX13 : Nat → FieldType := fun k => match k with
  | _ => .int
abbrev wsX130 : List Cond := u_ws RX13 TX13 0
theorem nmX13 : ∀ a, a < 0 → ∀ b, b < 0 → a ≠ b → (TX13 a).2.1 ≠ (TX13 b).2.1 := by decide +kernel
theorem tyX13_ok : ∀ k, k < 0 → parseFieldDescriptor (TX13 k).2.2.1 = some (tyX13 k) := by decide +kernel
def RJx145de : String := "java/io/Serializable"
def TJx145de : u_T := fun k => match k with
  | _ => ("", "", "", false)
def tyJx145de : Nat → FieldType := fun k => match k with
  | _ => .int
abbrev wsJx145de0 : List Cond := u_ws RJx145de TJx145de 0
theorem nmJx145de : ∀ a, a < 0 → ∀ b, b < 0 → a ≠ b → (TJx145de a).2.1 ≠ (TJx145de b).2.1 := by decide +kernel
theorem tyJx145de_ok : ∀ k, k < 0 → parseFieldDescriptor (TJx145de k).2.2.1 = some (tyJx145de k) := by decide +kernel
def RJx8e188 : String := "java/lang/Cloneable"
def TJx8e188 : u_T := fun k => match k with
  | _ => ("", "", "", false)
def tyJx8e188 : Nat → FieldType := fun k => match k with
  | _ => .int
abbrev wsJx8e1880 : List Cond := u_ws RJx8e188 TJx8e188 0
theorem nmJx8e188 : ∀ a, a < 0 → ∀ b, b < 0 → a ≠ b → (TJx8e188 a).2.1 ≠ (TJx8e188 b).2.1 := by decide +kernel
theorem tyJx8e188_ok : ∀ k, k < 0 → parseFieldDescriptor (TJx8e188 k).2.2.1 = some (tyJx8e188 k) := by decide +kernel
def RJxab1ab : String := "java/lang/Iterable"
def TJxab1ab : u_T := fun k => match k with
  | _ => ("", "", "", false)
def tyJxab1ab : Nat → FieldType := fun k => match k with
  | _ => .int
abbrev wsJxab1ab0 : List Cond := u_ws RJxab1ab TJxab1ab 0
theorem nmJxab1ab : ∀ a, a < 0 → ∀ b, b < 0 → a ≠ b → (TJxab1ab a).2.1 ≠ (TJxab1ab b).2.1 := by decide +kernel
theorem tyJxab1ab_ok : ∀ k, k < 0 → parseFieldDescriptor (TJxab1ab k).2.2.1 = some (tyJxab1ab k) := by decide +kernel
def RJ9 : String := "java/lang/Math"
def TJ9 : u_T := fun k => match k with
  | _ => ("", "", "", false)
def tyJ9 : Nat → FieldType := fun k => match k with
  | _ => .int
abbrev wsJ90 : List Cond := u_ws RJ9 TJ9 0
theorem nmJ9 : ∀ a, a < 0 → ∀ b, b < 0 → a ≠ b → (TJ9 a).2.1 ≠ (TJ9 b).2.1 := by decide +kernel
theorem tyJ9_ok : ∀ k, k < 0 → parseFieldDescriptor (TJ9 k).2.2.1 = some (tyJ9 k) := by decide +kernel
abbrev cJ9_max_7cf53 : ByteArray := prog_23_method_65_code
def yJ9_max_7cf53 : MethodName := ⟨RJ9, "max", "(II)I"⟩
abbrev cJ9_min_7cf53 : ByteArray := prog_23_method_69_code
def yJ9_min_7cf53 : MethodName := ⟨RJ9, "min", "(II)I"⟩
def RJ0 : String := "java/lang/String"
def TJ0 : u_T := fun k => match k with
  | _ => ("", "", "", false)
def tyJ0 : Nat → FieldType := fun k => match k with
  | _ => .int
abbrev wsJ00 : List Cond := u_ws RJ0 TJ0 0
theorem nmJ0 : ∀ a, a < 0 → ∀ b, b < 0 → a ≠ b → (TJ0 a).2.1 ≠ (TJ0 b).2.1 := by decide +kernel
theorem tyJ0_ok : ∀ k, k < 0 → parseFieldDescriptor (TJ0 k).2.2.1 = some (tyJ0 k) := by decide +kernel
def RJ10 : String := "java/lang/System"
def TJ10 : u_T := fun k => match k with
  | _ => ("", "", "", false)
def tyJ10 : Nat → FieldType := fun k => match k with
  | _ => .int
abbrev wsJ100 : List Cond := u_ws RJ10 TJ10 0
theorem nmJ10 : ∀ a, a < 0 → ∀ b, b < 0 → a ≠ b → (TJ10 a).2.1 ≠ (TJ10 b).2.1 := by decide +kernel
theorem tyJ10_ok : ∀ k, k < 0 → parseFieldDescriptor (TJ10 k).2.2.1 = some (tyJ10 k) := by decide +kernel
def RJxa1e45 : String := "java/util/AbstractCollection"
def TJxa1e45 : u_T := fun k => match k with
  | _ => ("", "", "", false)
def tyJxa1e45 : Nat → FieldType := fun k => match k with
  | _ => .int
abbrev wsJxa1e450 : List Cond := u_ws RJxa1e45 TJxa1e45 0
theorem nmJxa1e45 : ∀ a, a < 0 → ∀ b, b < 0 → a ≠ b → (TJxa1e45 a).2.1 ≠ (TJxa1e45 b).2.1 := by decide +kernel
theorem tyJxa1e45_ok : ∀ k, k < 0 → parseFieldDescriptor (TJxa1e45 k).2.2.1 = some (tyJxa1e45 k) := by decide +kernel
abbrev cJxa1e45_init_da8c8 : ByteArray := prog_28_method_1_code
def yJxa1e45_init_da8c8 : MethodName := ⟨RJxa1e45, "<init>", "()V"⟩
def RJxc12de : String := "java/util/AbstractList"
def TJxc12de : u_T := fun k => match k with
  | _ => ("", "", "", false)
def tyJxc12de : Nat → FieldType := fun k => match k with
  | _ => .int
abbrev wsJxc12de0 : List Cond := u_ws RJxc12de TJxc12de 0
theorem nmJxc12de : ∀ a, a < 0 → ∀ b, b < 0 → a ≠ b → (TJxc12de a).2.1 ≠ (TJxc12de b).2.1 := by decide +kernel
theorem tyJxc12de_ok : ∀ k, k < 0 → parseFieldDescriptor (TJxc12de k).2.2.1 = some (tyJxc12de k) := by decide +kernel
abbrev cJxc12de_init_da8c8 : ByteArray := prog_29_method_1_code
def yJxc12de_init_da8c8 : MethodName := ⟨RJxc12de, "<init>", "()V"⟩
def RJx4a65c : String := "java/util/ArrayList"
def TJx4a65c : u_T := fun k => match k with
  | 0 => ("java/util/AbstractList", "modCount", "I", false)
  | 1 => ("java/util/ArrayList", "elementData", "[Ljava/lang/Object;", false)
  | _ => ("java/util/ArrayList", "size", "I", false)
def tyJx4a65c : Nat → FieldType := fun k => match k with
  | 0 => .int
  | 1 => .array (.object "java/lang/Object")
  | _ => .int
abbrev wsJx4a65c0 : List Cond := u_ws RJx4a65c TJx4a65c 3
theorem nmJx4a65c : ∀ a, a < 3 → ∀ b, b < 3 → a ≠ b → (TJx4a65c a).2.1 ≠ (TJx4a65c b).2.1 := by decide +kernel
theorem tyJx4a65c_ok : ∀ k, k < 3 → parseFieldDescriptor (TJx4a65c k).2.2.1 = some (tyJx4a65c k) := by decide +kernel
abbrev cJx4a65c_init_da8c8 : ByteArray := prog_30_method_2_code
def yJx4a65c_init_da8c8 : MethodName := ⟨RJx4a65c, "<init>", "()V"⟩
abbrev cJx4a65c_grow_92f84 : ByteArray := prog_30_method_6_code
def yJx4a65c_grow_92f84 : MethodName := ⟨RJx4a65c, "grow", "(I)[Ljava/lang/Object;"⟩
abbrev cJx4a65c_grow_d5877 : ByteArray := prog_30_method_7_code
def yJx4a65c_grow_d5877 : MethodName := ⟨RJx4a65c, "grow", "()[Ljava/lang/Object;"⟩
abbrev cJx4a65c_size_8abf5 : ByteArray := prog_30_method_8_code
def yJx4a65c_size_8abf5 : MethodName := ⟨RJx4a65c, "size", "()I"⟩
abbrev cJx4a65c_elementData_915e3 : ByteArray := prog_30_method_18_code
def yJx4a65c_elementData_915e3 : MethodName := ⟨RJx4a65c, "elementData", "(I)Ljava/lang/Object;"⟩
abbrev cJx4a65c_get_915e3 : ByteArray := prog_30_method_20_code
def yJx4a65c_get_915e3 : MethodName := ⟨RJx4a65c, "get", "(I)Ljava/lang/Object;"⟩
abbrev cJx4a65c_add_72be8 : ByteArray := prog_30_method_24_code
def yJx4a65c_add_72be8 : MethodName := ⟨RJx4a65c, "add", "(Ljava/lang/Object;[Ljava/lang/Object;I)V"⟩
abbrev cJx4a65c_add_9ea2d : ByteArray := prog_30_method_25_code
def yJx4a65c_add_9ea2d : MethodName := ⟨RJx4a65c, "add", "(Ljava/lang/Object;)Z"⟩
abbrev cJx4a65c_remove_915e3 : ByteArray := prog_30_method_29_code
def yJx4a65c_remove_915e3 : MethodName := ⟨RJx4a65c, "remove", "(I)Ljava/lang/Object;"⟩
abbrev cJx4a65c_fastRemove_b59b0 : ByteArray := prog_30_method_39_code
def yJx4a65c_fastRemove_b59b0 : MethodName := ⟨RJx4a65c, "fastRemove", "([Ljava/lang/Object;I)V"⟩
def RJ7 : String := "java/util/Arrays"
def TJ7 : u_T := fun k => match k with
  | _ => ("", "", "", false)
def tyJ7 : Nat → FieldType := fun k => match k with
  | _ => .int
abbrev wsJ70 : List Cond := u_ws RJ7 TJ7 0
theorem nmJ7 : ∀ a, a < 0 → ∀ b, b < 0 → a ≠ b → (TJ7 a).2.1 ≠ (TJ7 b).2.1 := by decide +kernel
theorem tyJ7_ok : ∀ k, k < 0 → parseFieldDescriptor (TJ7 k).2.2.1 = some (tyJ7 k) := by decide +kernel
abbrev cJ7_copyOf_1904c : ByteArray := prog_31_method_119_code
def yJ7_copyOf_1904c : MethodName := ⟨RJ7, "copyOf", "([Ljava/lang/Object;I)[Ljava/lang/Object;"⟩
abbrev cJ7_copyOf_6403c : ByteArray := prog_31_method_120_code
def yJ7_copyOf_6403c : MethodName := ⟨RJ7, "copyOf", "([Ljava/lang/Object;ILjava/lang/Class;)[Ljava/lang/Object;"⟩
def RJx5ef63 : String := "java/util/Collection"
def TJx5ef63 : u_T := fun k => match k with
  | _ => ("", "", "", false)
def tyJx5ef63 : Nat → FieldType := fun k => match k with
  | _ => .int
abbrev wsJx5ef630 : List Cond := u_ws RJx5ef63 TJx5ef63 0
theorem nmJx5ef63 : ∀ a, a < 0 → ∀ b, b < 0 → a ≠ b → (TJx5ef63 a).2.1 ≠ (TJx5ef63 b).2.1 := by decide +kernel
theorem tyJx5ef63_ok : ∀ k, k < 0 → parseFieldDescriptor (TJx5ef63 k).2.2.1 = some (tyJx5ef63 k) := by decide +kernel
def RJxbd725 : String := "java/util/List"
def TJxbd725 : u_T := fun k => match k with
  | _ => ("", "", "", false)
def tyJxbd725 : Nat → FieldType := fun k => match k with
  | _ => .int
abbrev wsJxbd7250 : List Cond := u_ws RJxbd725 TJxbd725 0
theorem nmJxbd725 : ∀ a, a < 0 → ∀ b, b < 0 → a ≠ b → (TJxbd725 a).2.1 ≠ (TJxbd725 b).2.1 := by decide +kernel
theorem tyJxbd725_ok : ∀ k, k < 0 → parseFieldDescriptor (TJxbd725 k).2.2.1 = some (tyJxbd725 k) := by decide +kernel
def RJ15 : String := "java/util/Objects"
def TJ15 : u_T := fun k => match k with
  | _ => ("", "", "", false)
def tyJ15 : Nat → FieldType := fun k => match k with
  | _ => .int
abbrev wsJ150 : List Cond := u_ws RJ15 TJ15 0
theorem nmJ15 : ∀ a, a < 0 → ∀ b, b < 0 → a ≠ b → (TJ15 a).2.1 ≠ (TJ15 b).2.1 := by decide +kernel
theorem tyJ15_ok : ∀ k, k < 0 → parseFieldDescriptor (TJ15 k).2.2.1 = some (tyJ15 k) := by decide +kernel
abbrev cJ15_checkIndex_7cf53 : ByteArray := prog_34_method_17_code
def yJ15_checkIndex_7cf53 : MethodName := ⟨RJ15, "checkIndex", "(II)I"⟩
def RJxf0a74 : String := "java/util/RandomAccess"
def TJxf0a74 : u_T := fun k => match k with
  | _ => ("", "", "", false)
def tyJxf0a74 : Nat → FieldType := fun k => match k with
  | _ => .int
abbrev wsJxf0a740 : List Cond := u_ws RJxf0a74 TJxf0a74 0
theorem nmJxf0a74 : ∀ a, a < 0 → ∀ b, b < 0 → a ≠ b → (TJxf0a74 a).2.1 ≠ (TJxf0a74 b).2.1 := by decide +kernel
theorem tyJxf0a74_ok : ∀ k, k < 0 → parseFieldDescriptor (TJxf0a74 k).2.2.1 = some (tyJxf0a74 k) := by decide +kernel
def RJxa66e6 : String := "java/util/SequencedCollection"
def TJxa66e6 : u_T := fun k => match k with
  | _ => ("", "", "", false)
def tyJxa66e6 : Nat → FieldType := fun k => match k with
  | _ => .int
abbrev wsJxa66e60 : List Cond := u_ws RJxa66e6 TJxa66e6 0
theorem nmJxa66e6 : ∀ a, a < 0 → ∀ b, b < 0 → a ≠ b → (TJxa66e6 a).2.1 ≠ (TJxa66e6 b).2.1 := by decide +kernel
theorem tyJxa66e6_ok : ∀ k, k < 0 → parseFieldDescriptor (TJxa66e6 k).2.2.1 = some (tyJxa66e6 k) := by decide +kernel
def RJ8 : String := "jdk/internal/util/ArraysSupport"
def TJ8 : u_T := fun k => match k with
  | _ => ("", "", "", false)
def tyJ8 : Nat → FieldType := fun k => match k with
  | _ => .int
abbrev wsJ80 : List Cond := u_ws RJ8 TJ8 0
theorem nmJ8 : ∀ a, a < 0 → ∀ b, b < 0 → a ≠ b → (TJ8 a).2.1 ≠ (TJ8 b).2.1 := by decide +kernel
theorem tyJ8_ok : ∀ k, k < 0 → parseFieldDescriptor (TJ8 k).2.2.1 = some (tyJ8 k) := by decide +kernel
abbrev cJ8_newLength_cabcc : ByteArray := prog_37_method_27_code
def yJ8_newLength_cabcc : MethodName := ⟨RJ8, "newLength", "(III)I"⟩
abbrev cJ8_hugeLength_7cf53 : ByteArray := prog_37_method_28_code
def yJ8_hugeLength_7cf53 : MethodName := ⟨RJ8, "hugeLength", "(II)I"⟩
def RJ3 : String := "jdk/internal/util/Preconditions"
def TJ3 : u_T := fun k => match k with
  | _ => ("", "", "", false)
def tyJ3 : Nat → FieldType := fun k => match k with
  | _ => .int
abbrev wsJ30 : List Cond := u_ws RJ3 TJ3 0
theorem nmJ3 : ∀ a, a < 0 → ∀ b, b < 0 → a ≠ b → (TJ3 a).2.1 ≠ (TJ3 b).2.1 := by decide +kernel
theorem tyJ3_ok : ∀ k, k < 0 → parseFieldDescriptor (TJ3 k).2.2.1 = some (tyJ3 k) := by decide +kernel
abbrev cJ3_checkIndex_8e157 : ByteArray := prog_38_method_11_code
def yJ3_checkIndex_8e157 : MethodName := ⟨RJ3, "checkIndex", "(IILjava/util/function/BiFunction;)I"⟩
def RL : String := "FoldbackLaw"
abbrev cL_low : ByteArray := method_2_code
def yL_low : MethodName := ⟨RL, "low", "(II)I"⟩
abbrev cL_cell : ByteArray := method_3_code
def yL_cell : MethodName := ⟨RL, "cell", "([II)I"⟩
abbrev cL_edits : ByteArray := method_4_code
def yL_edits : MethodName := ⟨RL, "edits", "(LFoldback;II)I"⟩
abbrev cL_places : ByteArray := method_5_code
def yL_places : MethodName := ⟨RL, "places", "(LFoldback;II)I"⟩
abbrev cL_walks : ByteArray := method_6_code
def yL_walks : MethodName := ⟨RL, "walks", "(LFoldback;II)I"⟩
abbrev cL_undoIn : ByteArray := method_7_code
def yL_undoIn : MethodName := ⟨RL, "undoIn", "(LFoldback;II)I"⟩
abbrev cL_parent : ByteArray := method_8_code
def yL_parent : MethodName := ⟨RL, "parent", "(LFoldback;I)I"⟩
abbrev cL_text : ByteArray := method_9_code
def yL_text : MethodName := ⟨RL, "text", "(LFoldback;)Z"⟩
abbrev cL_replayed : ByteArray := method_10_code
def yL_replayed : MethodName := ⟨RL, "replayed", "(LFoldback;I)Z"⟩
abbrev cL_law : ByteArray := code
def yL_law : MethodName := ⟨RL, "law", "([I)Z"⟩
