def RX0 : String := "BraidBook$Books"
def TX0 : u_T := fun k => match k with
  | 0 => ("BraidBook$Books", "month", "I", false)
  | 1 => ("BraidBook$Books", "entryCount", "I", false)
  | 2 => ("BraidBook$Books", "actCounts", "[I", true)
  | _ => ("BraidBook$Books", "entries", "[LBraidBook$Entry;", true)
def tyX0 : Nat → FieldType := fun k => match k with
  | 0 => .int
  | 1 => .int
  | 2 => .array .int
  | _ => .array (.object "BraidBook$Entry")
abbrev wsX00 : List Cond := u_ws RX0 TX0 4
theorem nmX0 : ∀ a, a < 4 → ∀ b, b < 4 → a ≠ b → (TX0 a).2.1 ≠ (TX0 b).2.1 := by decide +kernel
theorem tyX0_ok : ∀ k, k < 4 → parseFieldDescriptor (TX0 k).2.2.1 = some (tyX0 k) := by decide +kernel
abbrev cX0_init : ByteArray := prog_2_method_1_code
def yX0_init : MethodName := ⟨RX0, "<init>", "()V"⟩
abbrev cX0_clear : ByteArray := prog_2_method_2_code
def yX0_clear : MethodName := ⟨RX0, "clear", "()V"⟩
abbrev cX0_find : ByteArray := prog_2_method_3_code
def yX0_find : MethodName := ⟨RX0, "find", "(I)LBraidBook$Entry;"⟩
abbrev cX0_nextAct : ByteArray := prog_2_method_4_code
def yX0_nextAct : MethodName := ⟨RX0, "nextAct", "(I)I"⟩
abbrev cX0_makeEntry : ByteArray := prog_2_method_5_code
def yX0_makeEntry : MethodName := ⟨RX0, "makeEntry", "(I)I"⟩
abbrev cX0_tellValue : ByteArray := prog_2_method_6_code
def yX0_tellValue : MethodName := ⟨RX0, "tellValue", "(IIII)I"⟩
abbrev cX0_setMark : ByteArray := prog_2_method_7_code
def yX0_setMark : MethodName := ⟨RX0, "setMark", "(II)I"⟩
abbrev cX0_shareFields : ByteArray := prog_2_method_8_code
def yX0_shareFields : MethodName := ⟨RX0, "shareFields", "(III)I"⟩
abbrev cX0_mergeDevices : ByteArray := prog_2_method_9_code
def yX0_mergeDevices : MethodName := ⟨RX0, "mergeDevices", "(II)I"⟩
abbrev cX0_passMonths : ByteArray := prog_2_method_10_code
def yX0_passMonths : MethodName := ⟨RX0, "passMonths", "(I)I"⟩
abbrev cX0_countClashes : ByteArray := prog_2_method_11_code
def yX0_countClashes : MethodName := ⟨RX0, "countClashes", "(I)I"⟩
abbrev cX0_countCompared : ByteArray := prog_2_method_12_code
def yX0_countCompared : MethodName := ⟨RX0, "countCompared", "(II)I"⟩
abbrev cX0_countSame : ByteArray := prog_2_method_13_code
def yX0_countSame : MethodName := ⟨RX0, "countSame", "(II)I"⟩
def RX1 : String := "BraidBook$Copy"
def TX1 : u_T := fun k => match k with
  | 0 => ("BraidBook$Copy", "known", "Z", false)
  | 1 => ("BraidBook$Copy", "noted", "Z", false)
  | 2 => ("BraidBook$Copy", "acts", "[I", true)
  | 3 => ("BraidBook$Copy", "told", "[I", true)
  | 4 => ("BraidBook$Copy", "seen", "LBraidBook$Numbers;", true)
  | _ => ("BraidBook$Copy", "note", "LBraidBook$Numbers;", true)
def tyX1 : Nat → FieldType := fun k => match k with
  | 0 => .boolean
  | 1 => .boolean
  | 2 => .array .int
  | 3 => .array .int
  | 4 => .object "BraidBook$Numbers"
  | _ => .object "BraidBook$Numbers"
abbrev wsX10 : List Cond := u_ws RX1 TX1 6
theorem nmX1 : ∀ a, a < 6 → ∀ b, b < 6 → a ≠ b → (TX1 a).2.1 ≠ (TX1 b).2.1 := by decide +kernel
theorem tyX1_ok : ∀ k, k < 6 → parseFieldDescriptor (TX1 k).2.2.1 = some (tyX1 k) := by decide +kernel
abbrev cX1_init : ByteArray := prog_3_method_1_code
def yX1_init : MethodName := ⟨RX1, "<init>", "()V"⟩
abbrev cX1_clear : ByteArray := prog_3_method_2_code
def yX1_clear : MethodName := ⟨RX1, "clear", "()V"⟩
abbrev cX1_countValues : ByteArray := prog_3_method_3_code
def yX1_countValues : MethodName := ⟨RX1, "countValues", "(I)I"⟩
abbrev cX1_countAllValues : ByteArray := prog_3_method_4_code
def yX1_countAllValues : MethodName := ⟨RX1, "countAllValues", "()I"⟩
abbrev cX1_countClashes : ByteArray := prog_3_method_5_code
def yX1_countClashes : MethodName := ⟨RX1, "countClashes", "()I"⟩
abbrev cX1_valueAt : ByteArray := prog_3_method_6_code
def yX1_valueAt : MethodName := ⟨RX1, "valueAt", "(II)I"⟩
abbrev cX1_dropValues : ByteArray := prog_3_method_7_code
def yX1_dropValues : MethodName := ⟨RX1, "dropValues", "(I)V"⟩
abbrev cX1_keepFields : ByteArray := prog_3_method_8_code
def yX1_keepFields : MethodName := ⟨RX1, "keepFields", "(I)V"⟩
abbrev cX1_hasSameValues : ByteArray := prog_3_method_9_code
def yX1_hasSameValues : MethodName := ⟨RX1, "hasSameValues", "(LBraidBook$Copy;I)Z"⟩
abbrev cX1_braid : ByteArray := prog_3_method_10_code
def yX1_braid : MethodName := ⟨RX1, "braid", "(LBraidBook$Copy;I)I"⟩
abbrev cX1_braidCell : ByteArray := prog_3_method_11_code
def yX1_braidCell : MethodName := ⟨RX1, "braidCell", "(LBraidBook$Copy;I)I"⟩
abbrev cX1_exchangeNotes : ByteArray := prog_3_method_12_code
def yX1_exchangeNotes : MethodName := ⟨RX1, "exchangeNotes", "(LBraidBook$Copy;)V"⟩
def RX2 : String := "BraidBook$Entry"
def TX2 : u_T := fun k => match k with
  | 0 => ("BraidBook$Entry", "owner", "I", false)
  | 1 => ("BraidBook$Entry", "markCount", "I", false)
  | 2 => ("BraidBook$Entry", "shared", "[I", true)
  | 3 => ("BraidBook$Entry", "copies", "[LBraidBook$Copy;", true)
  | _ => ("BraidBook$Entry", "marks", "Ljava/util/ArrayList;", true)
def tyX2 : Nat → FieldType := fun k => match k with
  | 0 => .int
  | 1 => .int
  | 2 => .array .int
  | 3 => .array (.object "BraidBook$Copy")
  | _ => .object "java/util/ArrayList"
abbrev wsX20 : List Cond := u_ws RX2 TX2 5
theorem nmX2 : ∀ a, a < 5 → ∀ b, b < 5 → a ≠ b → (TX2 a).2.1 ≠ (TX2 b).2.1 := by decide +kernel
theorem tyX2_ok : ∀ k, k < 5 → parseFieldDescriptor (TX2 k).2.2.1 = some (tyX2 k) := by decide +kernel
abbrev cX2_init : ByteArray := prog_4_method_1_code
def yX2_init : MethodName := ⟨RX2, "<init>", "()V"⟩
abbrev cX2_clear : ByteArray := prog_4_method_2_code
def yX2_clear : MethodName := ⟨RX2, "clear", "()V"⟩
abbrev cX2_fieldsFor : ByteArray := prog_4_method_3_code
def yX2_fieldsFor : MethodName := ⟨RX2, "fieldsFor", "(I)I"⟩
abbrev cX2_stateOn : ByteArray := prog_4_method_4_code
def yX2_stateOn : MethodName := ⟨RX2, "stateOn", "(I)I"⟩
abbrev cX2_isCovered : ByteArray := prog_4_method_5_code
def yX2_isCovered : MethodName := ⟨RX2, "isCovered", "(I)Z"⟩
abbrev cX2_countMarks : ByteArray := prog_4_method_6_code
def yX2_countMarks : MethodName := ⟨RX2, "countMarks", "(I)I"⟩
abbrev cX2_newestMark : ByteArray := prog_4_method_7_code
def yX2_newestMark : MethodName := ⟨RX2, "newestMark", "(I)I"⟩
abbrev cX2_addMark : ByteArray := prog_4_method_8_code
def yX2_addMark : MethodName := ⟨RX2, "addMark", "(II)V"⟩
abbrev cX2_forget : ByteArray := prog_4_method_9_code
def yX2_forget : MethodName := ⟨RX2, "forget", "(I)V"⟩
abbrev cX2_forgetWhereOld : ByteArray := prog_4_method_10_code
def yX2_forgetWhereOld : MethodName := ⟨RX2, "forgetWhereOld", "(I)I"⟩
abbrev cX2_mergeOn : ByteArray := prog_4_method_11_code
def yX2_mergeOn : MethodName := ⟨RX2, "mergeOn", "(III)I"⟩
abbrev cX2_isOutdated : ByteArray := prog_4_method_12_code
def yX2_isOutdated : MethodName := ⟨RX2, "isOutdated", "(II)Z"⟩
abbrev cX2_braid : ByteArray := prog_4_method_13_code
def yX2_braid : MethodName := ⟨RX2, "braid", "(IIII)I"⟩
abbrev cX2_comparedFields : ByteArray := prog_4_method_14_code
def yX2_comparedFields : MethodName := ⟨RX2, "comparedFields", "(II)I"⟩
abbrev cX2_countSame : ByteArray := prog_4_method_15_code
def yX2_countSame : MethodName := ⟨RX2, "countSame", "(II)I"⟩
def RX3 : String := "BraidBook$Journal"
def TX3 : u_T := fun k => match k with
  | 0 => ("BraidBook$Journal", "size", "I", false)
  | 1 => ("BraidBook$Journal", "kinds", "[I", true)
  | 2 => ("BraidBook$Journal", "firsts", "[I", true)
  | 3 => ("BraidBook$Journal", "seconds", "[I", true)
  | 4 => ("BraidBook$Journal", "thirds", "[I", true)
  | _ => ("BraidBook$Journal", "fourths", "[I", true)
def tyX3 : Nat → FieldType := fun k => match k with
  | 0 => .int
  | 1 => .array .int
  | 2 => .array .int
  | 3 => .array .int
  | 4 => .array .int
  | _ => .array .int
abbrev wsX30 : List Cond := u_ws RX3 TX3 6
theorem nmX3 : ∀ a, a < 6 → ∀ b, b < 6 → a ≠ b → (TX3 a).2.1 ≠ (TX3 b).2.1 := by decide +kernel
theorem tyX3_ok : ∀ k, k < 6 → parseFieldDescriptor (TX3 k).2.2.1 = some (tyX3 k) := by decide +kernel
abbrev cX3_init : ByteArray := prog_5_method_1_code
def yX3_init : MethodName := ⟨RX3, "<init>", "()V"⟩
abbrev cX3_isFull : ByteArray := prog_5_method_2_code
def yX3_isFull : MethodName := ⟨RX3, "isFull", "()Z"⟩
abbrev cX3_write : ByteArray := prog_5_method_3_code
def yX3_write : MethodName := ⟨RX3, "write", "(IIIII)V"⟩
abbrev cX3_repeatOn : ByteArray := prog_5_method_4_code
def yX3_repeatOn : MethodName := ⟨RX3, "repeatOn", "(LBraidBook$Books;)V"⟩
def RX4 : String := "BraidBook$Mark"
def TX4 : u_T := fun k => match k with
  | 0 => ("BraidBook$Mark", "seen", "LBraidBook$Numbers;", true)
  | _ => ("BraidBook$Mark", "knownSince", "[I", true)
def tyX4 : Nat → FieldType := fun k => match k with
  | 0 => .object "BraidBook$Numbers"
  | _ => .array .int
abbrev wsX40 : List Cond := u_ws RX4 TX4 2
theorem nmX4 : ∀ a, a < 2 → ∀ b, b < 2 → a ≠ b → (TX4 a).2.1 ≠ (TX4 b).2.1 := by decide +kernel
theorem tyX4_ok : ∀ k, k < 2 → parseFieldDescriptor (TX4 k).2.2.1 = some (tyX4 k) := by decide +kernel
abbrev cX4_init : ByteArray := prog_6_method_1_code
def yX4_init : MethodName := ⟨RX4, "<init>", "()V"⟩
abbrev cX4_set : ByteArray := prog_6_method_2_code
def yX4_set : MethodName := ⟨RX4, "set", "(LBraidBook$Numbers;II)V"⟩
abbrev cX4_isKnownOn : ByteArray := prog_6_method_3_code
def yX4_isKnownOn : MethodName := ⟨RX4, "isKnownOn", "(I)Z"⟩
abbrev cX4_spread : ByteArray := prog_6_method_4_code
def yX4_spread : MethodName := ⟨RX4, "spread", "(III)V"⟩
def RX5 : String := "BraidBook$Numbers"
def TX5 : u_T := fun k => match k with
  | _ => ("BraidBook$Numbers", "numbers", "[I", true)
def tyX5 : Nat → FieldType := fun k => match k with
  | _ => .array .int
abbrev wsX50 : List Cond := u_ws RX5 TX5 1
theorem nmX5 : ∀ a, a < 1 → ∀ b, b < 1 → a ≠ b → (TX5 a).2.1 ≠ (TX5 b).2.1 := by decide +kernel
theorem tyX5_ok : ∀ k, k < 1 → parseFieldDescriptor (TX5 k).2.2.1 = some (tyX5 k) := by decide +kernel
abbrev cX5_init : ByteArray := prog_7_method_1_code
def yX5_init : MethodName := ⟨RX5, "<init>", "()V"⟩
abbrev cX5_clear : ByteArray := prog_7_method_2_code
def yX5_clear : MethodName := ⟨RX5, "clear", "()V"⟩
abbrev cX5_raiseTo : ByteArray := prog_7_method_3_code
def yX5_raiseTo : MethodName := ⟨RX5, "raiseTo", "(LBraidBook$Numbers;)V"⟩
abbrev cX5_coverAll : ByteArray := prog_7_method_4_code
def yX5_coverAll : MethodName := ⟨RX5, "coverAll", "(LBraidBook$Copy;)Z"⟩
def RX6 : String := "BraidBook"
def TX6 : u_T := fun k => match k with
  | 0 => ("BraidBook", "books", "LBraidBook$Books;", true)
  | 1 => ("BraidBook", "booksAnew", "LBraidBook$Books;", true)
  | _ => ("BraidBook", "journal", "LBraidBook$Journal;", true)
def tyX6 : Nat → FieldType := fun k => match k with
  | 0 => .object "BraidBook$Books"
  | 1 => .object "BraidBook$Books"
  | _ => .object "BraidBook$Journal"
abbrev wsX60 : List Cond := u_ws RX6 TX6 3
theorem nmX6 : ∀ a, a < 3 → ∀ b, b < 3 → a ≠ b → (TX6 a).2.1 ≠ (TX6 b).2.1 := by decide +kernel
theorem tyX6_ok : ∀ k, k < 3 → parseFieldDescriptor (TX6 k).2.2.1 = some (tyX6 k) := by decide +kernel
abbrev cX6_init : ByteArray := prog_1_method_1_code
def yX6_init : MethodName := ⟨RX6, "<init>", "()V"⟩
abbrev cX6_entry : ByteArray := prog_1_method_2_code
def yX6_entry : MethodName := ⟨RX6, "entry", "(I)I"⟩
abbrev cX6_tell : ByteArray := prog_1_method_3_code
def yX6_tell : MethodName := ⟨RX6, "tell", "(IIII)I"⟩
abbrev cX6_delete : ByteArray := prog_1_method_4_code
def yX6_delete : MethodName := ⟨RX6, "delete", "(II)I"⟩
abbrev cX6_share : ByteArray := prog_1_method_5_code
def yX6_share : MethodName := ⟨RX6, "share", "(IIII)I"⟩
abbrev cX6_merge : ByteArray := prog_1_method_6_code
def yX6_merge : MethodName := ⟨RX6, "merge", "(II)I"⟩
abbrev cX6_pass : ByteArray := prog_1_method_7_code
def yX6_pass : MethodName := ⟨RX6, "pass", "(I)I"⟩
abbrev cX6_state : ByteArray := prog_1_method_8_code
def yX6_state : MethodName := ⟨RX6, "state", "(II)I"⟩
abbrev cX6_value : ByteArray := prog_1_method_9_code
def yX6_value : MethodName := ⟨RX6, "value", "(IIII)I"⟩
abbrev cX6_valueAnew : ByteArray := prog_1_method_10_code
def yX6_valueAnew : MethodName := ⟨RX6, "valueAnew", "(IIII)I"⟩
abbrev cX6_values : ByteArray := prog_1_method_11_code
def yX6_values : MethodName := ⟨RX6, "values", "(III)I"⟩
abbrev cX6_seen : ByteArray := prog_1_method_12_code
def yX6_seen : MethodName := ⟨RX6, "seen", "(IIII)I"⟩
abbrev cX6_marks : ByteArray := prog_1_method_13_code
def yX6_marks : MethodName := ⟨RX6, "marks", "(II)I"⟩
abbrev cX6_clashes : ByteArray := prog_1_method_14_code
def yX6_clashes : MethodName := ⟨RX6, "clashes", "(I)I"⟩
abbrev cX6_agreement : ByteArray := prog_1_method_15_code
def yX6_agreement : MethodName := ⟨RX6, "agreement", "(II)F"⟩
abbrev cX6_requireDevice : ByteArray := prog_1_method_16_code
def yX6_requireDevice : MethodName := ⟨RX6, "requireDevice", "(I)V"⟩
abbrev cX6_requireField : ByteArray := prog_1_method_17_code
def yX6_requireField : MethodName := ⟨RX6, "requireField", "(I)V"⟩
abbrev cX6_requireOwner : ByteArray := prog_1_method_18_code
def yX6_requireOwner : MethodName := ⟨RX6, "requireOwner", "(LBraidBook$Entry;I)V"⟩
abbrev cX6_requireRoomInJournal : ByteArray := prog_1_method_19_code
def yX6_requireRoomInJournal : MethodName := ⟨RX6, "requireRoomInJournal", "()V"⟩
abbrev cX6_knownEntry : ByteArray := prog_1_method_20_code
def yX6_knownEntry : MethodName := ⟨RX6, "knownEntry", "(LBraidBook$Books;II)LBraidBook$Entry;"⟩
abbrev cX6_valueIn : ByteArray := prog_1_method_21_code
def yX6_valueIn : MethodName := ⟨RX6, "valueIn", "(LBraidBook$Books;IIII)I"⟩
abbrev cX6_isDevice : ByteArray := prog_1_method_22_code
def yX6_isDevice : MethodName := ⟨RX6, "isDevice", "(I)Z"⟩
abbrev cX6_isPerson : ByteArray := prog_1_method_23_code
def yX6_isPerson : MethodName := ⟨RX6, "isPerson", "(I)Z"⟩
abbrev cX6_isField : ByteArray := prog_1_method_24_code
def yX6_isField : MethodName := ⟨RX6, "isField", "(I)Z"⟩
abbrev cX6_personOf : ByteArray := prog_1_method_25_code
def yX6_personOf : MethodName := ⟨RX6, "personOf", "(I)I"⟩
abbrev cX6_cell : ByteArray := prog_1_method_26_code
def yX6_cell : MethodName := ⟨RX6, "cell", "(II)I"⟩
abbrev cX6_contains : ByteArray := prog_1_method_27_code
def yX6_contains : MethodName := ⟨RX6, "contains", "(II)Z"⟩
def RJx145de : String := "java/io/Serializable"
def TJx145de : u_T := fun k => match k with
  | _ => ("", "", "", false)
def tyJx145de : Nat → FieldType := fun k => match k with
  | _ => .int
abbrev wsJx145de0 : List Cond := u_ws RJx145de TJx145de 0
theorem nmJx145de : ∀ a, a < 0 → ∀ b, b < 0 → a ≠ b → (TJx145de a).2.1 ≠ (TJx145de b).2.1 := by decide +kernel
theorem tyJx145de_ok : ∀ k, k < 0 → parseFieldDescriptor (TJx145de k).2.2.1 = some (tyJx145de k) := by decide +kernel
def RJx8e188 : String := "java/lang/Cloneable"
def TJx8e188 : u_T := fun k => match k with
  | _ => ("", "", "", false)
def tyJx8e188 : Nat → FieldType := fun k => match k with
  | _ => .int
abbrev wsJx8e1880 : List Cond := u_ws RJx8e188 TJx8e188 0
theorem nmJx8e188 : ∀ a, a < 0 → ∀ b, b < 0 → a ≠ b → (TJx8e188 a).2.1 ≠ (TJx8e188 b).2.1 := by decide +kernel
theorem tyJx8e188_ok : ∀ k, k < 0 → parseFieldDescriptor (TJx8e188 k).2.2.1 = some (tyJx8e188 k) := by decide +kernel
def RJ6 : String := "java/lang/Integer"
def TJ6 : u_T := fun k => match k with
  | _ => ("", "", "", false)
def tyJ6 : Nat → FieldType := fun k => match k with
  | _ => .int
abbrev wsJ60 : List Cond := u_ws RJ6 TJ6 0
theorem nmJ6 : ∀ a, a < 0 → ∀ b, b < 0 → a ≠ b → (TJ6 a).2.1 ≠ (TJ6 b).2.1 := by decide +kernel
theorem tyJ6_ok : ∀ k, k < 0 → parseFieldDescriptor (TJ6 k).2.2.1 = some (tyJ6 k) := by decide +kernel
abbrev cJ6_bitCount_0f7a4 : ByteArray := prog_16_method_49_code
def yJ6_bitCount_0f7a4 : MethodName := ⟨RJ6, "bitCount", "(I)I"⟩
def RJxab1ab : String := "java/lang/Iterable"
def TJxab1ab : u_T := fun k => match k with
  | _ => ("", "", "", false)
def tyJxab1ab : Nat → FieldType := fun k => match k with
  | _ => .int
abbrev wsJxab1ab0 : List Cond := u_ws RJxab1ab TJxab1ab 0
theorem nmJxab1ab : ∀ a, a < 0 → ∀ b, b < 0 → a ≠ b → (TJxab1ab a).2.1 ≠ (TJxab1ab b).2.1 := by decide +kernel
theorem tyJxab1ab_ok : ∀ k, k < 0 → parseFieldDescriptor (TJxab1ab k).2.2.1 = some (tyJxab1ab k) := by decide +kernel
def RJ9 : String := "java/lang/Math"
def TJ9 : u_T := fun k => match k with
  | _ => ("", "", "", false)
def tyJ9 : Nat → FieldType := fun k => match k with
  | _ => .int
abbrev wsJ90 : List Cond := u_ws RJ9 TJ9 0
theorem nmJ9 : ∀ a, a < 0 → ∀ b, b < 0 → a ≠ b → (TJ9 a).2.1 ≠ (TJ9 b).2.1 := by decide +kernel
theorem tyJ9_ok : ∀ k, k < 0 → parseFieldDescriptor (TJ9 k).2.2.1 = some (tyJ9 k) := by decide +kernel
abbrev cJ9_max_7cf53 : ByteArray := prog_18_method_65_code
def yJ9_max_7cf53 : MethodName := ⟨RJ9, "max", "(II)I"⟩
abbrev cJ9_min_7cf53 : ByteArray := prog_18_method_69_code
def yJ9_min_7cf53 : MethodName := ⟨RJ9, "min", "(II)I"⟩
def RJ0 : String := "java/lang/String"
def TJ0 : u_T := fun k => match k with
  | _ => ("", "", "", false)
def tyJ0 : Nat → FieldType := fun k => match k with
  | _ => .int
abbrev wsJ00 : List Cond := u_ws RJ0 TJ0 0
theorem nmJ0 : ∀ a, a < 0 → ∀ b, b < 0 → a ≠ b → (TJ0 a).2.1 ≠ (TJ0 b).2.1 := by decide +kernel
theorem tyJ0_ok : ∀ k, k < 0 → parseFieldDescriptor (TJ0 k).2.2.1 = some (tyJ0 k) := by decide +kernel
def RJ10 : String := "java/lang/System"
def TJ10 : u_T := fun k => match k with
  | _ => ("", "", "", false)
def tyJ10 : Nat → FieldType := fun k => match k with
  | _ => .int
abbrev wsJ100 : List Cond := u_ws RJ10 TJ10 0
theorem nmJ10 : ∀ a, a < 0 → ∀ b, b < 0 → a ≠ b → (TJ10 a).2.1 ≠ (TJ10 b).2.1 := by decide +kernel
theorem tyJ10_ok : ∀ k, k < 0 → parseFieldDescriptor (TJ10 k).2.2.1 = some (tyJ10 k) := by decide +kernel
def RJxa1e45 : String := "java/util/AbstractCollection"
def TJxa1e45 : u_T := fun k => match k with
  | _ => ("", "", "", false)
def tyJxa1e45 : Nat → FieldType := fun k => match k with
  | _ => .int
abbrev wsJxa1e450 : List Cond := u_ws RJxa1e45 TJxa1e45 0
theorem nmJxa1e45 : ∀ a, a < 0 → ∀ b, b < 0 → a ≠ b → (TJxa1e45 a).2.1 ≠ (TJxa1e45 b).2.1 := by decide +kernel
theorem tyJxa1e45_ok : ∀ k, k < 0 → parseFieldDescriptor (TJxa1e45 k).2.2.1 = some (tyJxa1e45 k) := by decide +kernel
abbrev cJxa1e45_init_da8c8 : ByteArray := prog_23_method_1_code
def yJxa1e45_init_da8c8 : MethodName := ⟨RJxa1e45, "<init>", "()V"⟩
def RJxc12de : String := "java/util/AbstractList"
def TJxc12de : u_T := fun k => match k with
  | _ => ("", "", "", false)
def tyJxc12de : Nat → FieldType := fun k => match k with
  | _ => .int
abbrev wsJxc12de0 : List Cond := u_ws RJxc12de TJxc12de 0
theorem nmJxc12de : ∀ a, a < 0 → ∀ b, b < 0 → a ≠ b → (TJxc12de a).2.1 ≠ (TJxc12de b).2.1 := by decide +kernel
theorem tyJxc12de_ok : ∀ k, k < 0 → parseFieldDescriptor (TJxc12de k).2.2.1 = some (tyJxc12de k) := by decide +kernel
abbrev cJxc12de_init_da8c8 : ByteArray := prog_24_method_1_code
def yJxc12de_init_da8c8 : MethodName := ⟨RJxc12de, "<init>", "()V"⟩
def RJx4a65c : String := "java/util/ArrayList"
def TJx4a65c : u_T := fun k => match k with
  | 0 => ("java/util/AbstractList", "modCount", "I", false)
  | 1 => ("java/util/ArrayList", "elementData", "[Ljava/lang/Object;", false)
  | _ => ("java/util/ArrayList", "size", "I", false)
def tyJx4a65c : Nat → FieldType := fun k => match k with
  | 0 => .int
  | 1 => .array (.object "java/lang/Object")
  | _ => .int
abbrev wsJx4a65c0 : List Cond := u_ws RJx4a65c TJx4a65c 3
theorem nmJx4a65c : ∀ a, a < 3 → ∀ b, b < 3 → a ≠ b → (TJx4a65c a).2.1 ≠ (TJx4a65c b).2.1 := by decide +kernel
theorem tyJx4a65c_ok : ∀ k, k < 3 → parseFieldDescriptor (TJx4a65c k).2.2.1 = some (tyJx4a65c k) := by decide +kernel
abbrev cJx4a65c_init_da8c8 : ByteArray := prog_25_method_2_code
def yJx4a65c_init_da8c8 : MethodName := ⟨RJx4a65c, "<init>", "()V"⟩
abbrev cJx4a65c_grow_92f84 : ByteArray := prog_25_method_6_code
def yJx4a65c_grow_92f84 : MethodName := ⟨RJx4a65c, "grow", "(I)[Ljava/lang/Object;"⟩
abbrev cJx4a65c_grow_d5877 : ByteArray := prog_25_method_7_code
def yJx4a65c_grow_d5877 : MethodName := ⟨RJx4a65c, "grow", "()[Ljava/lang/Object;"⟩
abbrev cJx4a65c_size_8abf5 : ByteArray := prog_25_method_8_code
def yJx4a65c_size_8abf5 : MethodName := ⟨RJx4a65c, "size", "()I"⟩
abbrev cJx4a65c_elementData_915e3 : ByteArray := prog_25_method_18_code
def yJx4a65c_elementData_915e3 : MethodName := ⟨RJx4a65c, "elementData", "(I)Ljava/lang/Object;"⟩
abbrev cJx4a65c_get_915e3 : ByteArray := prog_25_method_20_code
def yJx4a65c_get_915e3 : MethodName := ⟨RJx4a65c, "get", "(I)Ljava/lang/Object;"⟩
abbrev cJx4a65c_add_72be8 : ByteArray := prog_25_method_24_code
def yJx4a65c_add_72be8 : MethodName := ⟨RJx4a65c, "add", "(Ljava/lang/Object;[Ljava/lang/Object;I)V"⟩
abbrev cJx4a65c_add_9ea2d : ByteArray := prog_25_method_25_code
def yJx4a65c_add_9ea2d : MethodName := ⟨RJx4a65c, "add", "(Ljava/lang/Object;)Z"⟩
def RJ7 : String := "java/util/Arrays"
def TJ7 : u_T := fun k => match k with
  | _ => ("", "", "", false)
def tyJ7 : Nat → FieldType := fun k => match k with
  | _ => .int
abbrev wsJ70 : List Cond := u_ws RJ7 TJ7 0
theorem nmJ7 : ∀ a, a < 0 → ∀ b, b < 0 → a ≠ b → (TJ7 a).2.1 ≠ (TJ7 b).2.1 := by decide +kernel
theorem tyJ7_ok : ∀ k, k < 0 → parseFieldDescriptor (TJ7 k).2.2.1 = some (tyJ7 k) := by decide +kernel
abbrev cJ7_copyOf_1904c : ByteArray := prog_26_method_119_code
def yJ7_copyOf_1904c : MethodName := ⟨RJ7, "copyOf", "([Ljava/lang/Object;I)[Ljava/lang/Object;"⟩
abbrev cJ7_copyOf_6403c : ByteArray := prog_26_method_120_code
def yJ7_copyOf_6403c : MethodName := ⟨RJ7, "copyOf", "([Ljava/lang/Object;ILjava/lang/Class;)[Ljava/lang/Object;"⟩
def RJx5ef63 : String := "java/util/Collection"
def TJx5ef63 : u_T := fun k => match k with
  | _ => ("", "", "", false)
def tyJx5ef63 : Nat → FieldType := fun k => match k with
  | _ => .int
abbrev wsJx5ef630 : List Cond := u_ws RJx5ef63 TJx5ef63 0
theorem nmJx5ef63 : ∀ a, a < 0 → ∀ b, b < 0 → a ≠ b → (TJx5ef63 a).2.1 ≠ (TJx5ef63 b).2.1 := by decide +kernel
theorem tyJx5ef63_ok : ∀ k, k < 0 → parseFieldDescriptor (TJx5ef63 k).2.2.1 = some (tyJx5ef63 k) := by decide +kernel
def RJxbd725 : String := "java/util/List"
def TJxbd725 : u_T := fun k => match k with
  | _ => ("", "", "", false)
def tyJxbd725 : Nat → FieldType := fun k => match k with
  | _ => .int
abbrev wsJxbd7250 : List Cond := u_ws RJxbd725 TJxbd725 0
theorem nmJxbd725 : ∀ a, a < 0 → ∀ b, b < 0 → a ≠ b → (TJxbd725 a).2.1 ≠ (TJxbd725 b).2.1 := by decide +kernel
theorem tyJxbd725_ok : ∀ k, k < 0 → parseFieldDescriptor (TJxbd725 k).2.2.1 = some (tyJxbd725 k) := by decide +kernel
def RJ15 : String := "java/util/Objects"
def TJ15 : u_T := fun k => match k with
  | _ => ("", "", "", false)
def tyJ15 : Nat → FieldType := fun k => match k with
  | _ => .int
abbrev wsJ150 : List Cond := u_ws RJ15 TJ15 0
theorem nmJ15 : ∀ a, a < 0 → ∀ b, b < 0 → a ≠ b → (TJ15 a).2.1 ≠ (TJ15 b).2.1 := by decide +kernel
theorem tyJ15_ok : ∀ k, k < 0 → parseFieldDescriptor (TJ15 k).2.2.1 = some (tyJ15 k) := by decide +kernel
abbrev cJ15_checkIndex_7cf53 : ByteArray := prog_29_method_17_code
def yJ15_checkIndex_7cf53 : MethodName := ⟨RJ15, "checkIndex", "(II)I"⟩
def RJxf0a74 : String := "java/util/RandomAccess"
def TJxf0a74 : u_T := fun k => match k with
  | _ => ("", "", "", false)
def tyJxf0a74 : Nat → FieldType := fun k => match k with
  | _ => .int
abbrev wsJxf0a740 : List Cond := u_ws RJxf0a74 TJxf0a74 0
theorem nmJxf0a74 : ∀ a, a < 0 → ∀ b, b < 0 → a ≠ b → (TJxf0a74 a).2.1 ≠ (TJxf0a74 b).2.1 := by decide +kernel
theorem tyJxf0a74_ok : ∀ k, k < 0 → parseFieldDescriptor (TJxf0a74 k).2.2.1 = some (tyJxf0a74 k) := by decide +kernel
def RJxa66e6 : String := "java/util/SequencedCollection"
def TJxa66e6 : u_T := fun k => match k with
  | _ => ("", "", "", false)
def tyJxa66e6 : Nat → FieldType := fun k => match k with
  | _ => .int
abbrev wsJxa66e60 : List Cond := u_ws RJxa66e6 TJxa66e6 0
theorem nmJxa66e6 : ∀ a, a < 0 → ∀ b, b < 0 → a ≠ b → (TJxa66e6 a).2.1 ≠ (TJxa66e6 b).2.1 := by decide +kernel
theorem tyJxa66e6_ok : ∀ k, k < 0 → parseFieldDescriptor (TJxa66e6 k).2.2.1 = some (tyJxa66e6 k) := by decide +kernel
def RJ8 : String := "jdk/internal/util/ArraysSupport"
def TJ8 : u_T := fun k => match k with
  | _ => ("", "", "", false)
def tyJ8 : Nat → FieldType := fun k => match k with
  | _ => .int
abbrev wsJ80 : List Cond := u_ws RJ8 TJ8 0
theorem nmJ8 : ∀ a, a < 0 → ∀ b, b < 0 → a ≠ b → (TJ8 a).2.1 ≠ (TJ8 b).2.1 := by decide +kernel
theorem tyJ8_ok : ∀ k, k < 0 → parseFieldDescriptor (TJ8 k).2.2.1 = some (tyJ8 k) := by decide +kernel
abbrev cJ8_newLength_cabcc : ByteArray := prog_32_method_27_code
def yJ8_newLength_cabcc : MethodName := ⟨RJ8, "newLength", "(III)I"⟩
abbrev cJ8_hugeLength_7cf53 : ByteArray := prog_32_method_28_code
def yJ8_hugeLength_7cf53 : MethodName := ⟨RJ8, "hugeLength", "(II)I"⟩
def RJ3 : String := "jdk/internal/util/Preconditions"
def TJ3 : u_T := fun k => match k with
  | _ => ("", "", "", false)
def tyJ3 : Nat → FieldType := fun k => match k with
  | _ => .int
abbrev wsJ30 : List Cond := u_ws RJ3 TJ3 0
theorem nmJ3 : ∀ a, a < 0 → ∀ b, b < 0 → a ≠ b → (TJ3 a).2.1 ≠ (TJ3 b).2.1 := by decide +kernel
theorem tyJ3_ok : ∀ k, k < 0 → parseFieldDescriptor (TJ3 k).2.2.1 = some (tyJ3 k) := by decide +kernel
abbrev cJ3_checkIndex_8e157 : ByteArray := prog_33_method_11_code
def yJ3_checkIndex_8e157 : MethodName := ⟨RJ3, "checkIndex", "(IILjava/util/function/BiFunction;)I"⟩
def RL : String := "BraidBookLaw"
abbrev cL_part : ByteArray := method_2_code
def yL_part : MethodName := ⟨RL, "part", "([III)I"⟩
abbrev cL_does : ByteArray := method_3_code
def yL_does : MethodName := ⟨RL, "does", "(LBraidBook;IIIII)I"⟩
abbrev cL_asks : ByteArray := method_4_code
def yL_asks : MethodName := ⟨RL, "asks", "(LBraidBook;IIIII)I"⟩
abbrev cL_at : ByteArray := method_5_code
def yL_at : MethodName := ⟨RL, "at", "(III)I"⟩
abbrev cL_get : ByteArray := method_6_code
def yL_get : MethodName := ⟨RL, "get", "(JI)I"⟩
abbrev cL_greater : ByteArray := method_7_code
def yL_greater : MethodName := ⟨RL, "greater", "(JJ)J"⟩
abbrev cL_covers : ByteArray := method_8_code
def yL_covers : MethodName := ⟨RL, "covers", "(JJ)Z"⟩
abbrev cL_count : ByteArray := method_9_code
def yL_count : MethodName := ⟨RL, "count", "(J)I"⟩
abbrev cL_all : ByteArray := method_10_code
def yL_all : MethodName := ⟨RL, "all", "([JII)I"⟩
abbrev cL_value : ByteArray := method_11_code
def yL_value : MethodName := ⟨RL, "value", "(II)I"⟩
abbrev cL_may : ByteArray := method_12_code
def yL_may : MethodName := ⟨RL, "may", "([IIII)Z"⟩
abbrev cL_isCovered : ByteArray := method_13_code
def yL_isCovered : MethodName := ⟨RL, "isCovered", "([J[J[I[I[III)Z"⟩
abbrev cL_state : ByteArray := method_14_code
def yL_state : MethodName := ⟨RL, "state", "([J[I[J[I[I[III)I"⟩
abbrev cL_isDevice : ByteArray := method_15_code
def yL_isDevice : MethodName := ⟨RL, "isDevice", "(LBraidBook;[J[J[I[I[J[I[I[III)Z"⟩
abbrev cL_isPair : ByteArray := method_16_code
def yL_isPair : MethodName := ⟨RL, "isPair", "(LBraidBook;[J[I[I[J[I[I[III)Z"⟩
abbrev cL_forgets : ByteArray := method_17_code
def yL_forgets : MethodName := ⟨RL, "forgets", "([J[J[J[I[J[I[I[III)V"⟩
abbrev cL_isOld : ByteArray := method_18_code
def yL_isOld : MethodName := ⟨RL, "isOld", "([J[J[IIII)Z"⟩
abbrev cL_joined : ByteArray := method_19_code
def yL_joined : MethodName := ⟨RL, "joined", "(JJJJ)J"⟩
abbrev cL_fresh : ByteArray := method_20_code
def yL_fresh : MethodName := ⟨RL, "fresh", "(JJ)I"⟩
abbrev cL_joins : ByteArray := method_21_code
def yL_joins : MethodName := ⟨RL, "joins", "([J[J[I[I[I[I[IIII)I"⟩
abbrev cL_isMerged : ByteArray := method_22_code
def yL_isMerged : MethodName := ⟨RL, "isMerged", "(LBraidBook;[J[J[J[I[I[J[I[I[III)Z"⟩
abbrev cL_isPassed : ByteArray := method_23_code
def yL_isPassed : MethodName := ⟨RL, "isPassed", "(LBraidBook;[J[J[J[I[J[I[I[II)Z"⟩
abbrev cL_isDone : ByteArray := method_24_code
def yL_isDone : MethodName := ⟨RL, "isDone", "(LBraidBook;[II[J[J[J[I[I[J[I[I[I)Z"⟩
abbrev cL_law : ByteArray := code
def yL_law : MethodName := ⟨RL, "law", "([I)Z"⟩
abbrev vwCl : List vw_C := [(RJx4a65c, TJx4a65c, 3), (RX0, TX0, 4), (RX1, TX1, 6), (RX2, TX2, 5), (RX3, TX3, 6), (RX4, TX4, 2), (RX5, TX5, 1), (RX6, TX6, 3)]
