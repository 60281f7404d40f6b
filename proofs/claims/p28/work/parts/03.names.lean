def RX0 : String := "KernLessons$Buffer"
def TX0 : u_T := fun k => match k with
  | 0 => ("KernLessons$Buffer", "codes", "[I", true)
  | _ => ("KernLessons$Buffer", "length", "I", false)
def tyX0 : Nat → FieldType := fun k => match k with
  | 0 => .array .int
  | _ => .int
abbrev wsX00 : List Cond := u_ws RX0 TX0 2
theorem nmX0 : ∀ a, a < 2 → ∀ b, b < 2 → a ≠ b → (TX0 a).2.1 ≠ (TX0 b).2.1 := by decide +kernel
theorem tyX0_ok : ∀ k, k < 2 → parseFieldDescriptor (TX0 k).2.2.1 = some (tyX0 k) := by decide +kernel
abbrev cX0_init : ByteArray := prog_2_method_1_code
def yX0_init : MethodName := ⟨RX0, "<init>", "()V"⟩
abbrev cX0_hasLetterAt : ByteArray := prog_2_method_2_code
def yX0_hasLetterAt : MethodName := ⟨RX0, "hasLetterAt", "(I)Z"⟩
abbrev cX0_hasPairAt : ByteArray := prog_2_method_3_code
def yX0_hasPairAt : MethodName := ⟨RX0, "hasPairAt", "(I)Z"⟩
abbrev cX0_letterAt : ByteArray := prog_2_method_4_code
def yX0_letterAt : MethodName := ⟨RX0, "letterAt", "(I)I"⟩
abbrev cX0_pairAt : ByteArray := prog_2_method_5_code
def yX0_pairAt : MethodName := ⟨RX0, "pairAt", "(I)I"⟩
abbrev cX0_firstWrongPlace : ByteArray := prog_2_method_6_code
def yX0_firstWrongPlace : MethodName := ⟨RX0, "firstWrongPlace", "()I"⟩
abbrev cX0_tellsText : ByteArray := prog_2_method_7_code
def yX0_tellsText : MethodName := ⟨RX0, "tellsText", "()Z"⟩
def RX1 : String := "KernLessons$Measure"
def TX1 : u_T := fun k => match k with
  | 0 => ("KernLessons$Measure", "lettersFound", "[I", true)
  | 1 => ("KernLessons$Measure", "pairsFound", "[I", true)
  | 2 => ("KernLessons$Measure", "wordWidths", "[I", true)
  | 3 => ("KernLessons$Measure", "linesFrom", "[I", true)
  | _ => ("KernLessons$Measure", "words", "I", false)
def tyX1 : Nat → FieldType := fun k => match k with
  | 0 => .array .int
  | 1 => .array .int
  | 2 => .array .int
  | 3 => .array .int
  | _ => .int
abbrev wsX10 : List Cond := u_ws RX1 TX1 5
theorem nmX1 : ∀ a, a < 5 → ∀ b, b < 5 → a ≠ b → (TX1 a).2.1 ≠ (TX1 b).2.1 := by decide +kernel
theorem tyX1_ok : ∀ k, k < 5 → parseFieldDescriptor (TX1 k).2.2.1 = some (tyX1 k) := by decide +kernel
abbrev cX1_init : ByteArray := prog_3_method_1_code
def yX1_init : MethodName := ⟨RX1, "<init>", "()V"⟩
abbrev cX1_widthAt : ByteArray := prog_3_method_2_code
def yX1_widthAt : MethodName := ⟨RX1, "widthAt", "(LKernLessons$State;LKernLessons$Buffer;I)I"⟩
abbrev cX1_widthByPlaces : ByteArray := prog_3_method_3_code
def yX1_widthByPlaces : MethodName := ⟨RX1, "widthByPlaces", "(LKernLessons$State;LKernLessons$Buffer;)I"⟩
abbrev cX1_widthByCounts : ByteArray := prog_3_method_4_code
def yX1_widthByCounts : MethodName := ⟨RX1, "widthByCounts", "(LKernLessons$State;LKernLessons$Buffer;)I"⟩
abbrev cX1_findWords : ByteArray := prog_3_method_5_code
def yX1_findWords : MethodName := ⟨RX1, "findWords", "(LKernLessons$State;LKernLessons$Buffer;)V"⟩
abbrev cX1_widestWord : ByteArray := prog_3_method_6_code
def yX1_widestWord : MethodName := ⟨RX1, "widestWord", "()I"⟩
abbrev cX1_linesByFilling : ByteArray := prog_3_method_7_code
def yX1_linesByFilling : MethodName := ⟨RX1, "linesByFilling", "(LKernLessons$State;)I"⟩
abbrev cX1_linesFromBehind : ByteArray := prog_3_method_8_code
def yX1_linesFromBehind : MethodName := ⟨RX1, "linesFromBehind", "(LKernLessons$State;)I"⟩
def RX2 : String := "KernLessons$State"
def TX2 : u_T := fun k => match k with
  | 0 => ("KernLessons$State", "widths", "[I", true)
  | 1 => ("KernLessons$State", "lefts", "[I", true)
  | 2 => ("KernLessons$State", "rights", "[I", true)
  | 3 => ("KernLessons$State", "bases", "[I", true)
  | 4 => ("KernLessons$State", "settings", "[I", true)
  | 5 => ("KernLessons$State", "lessonPairs", "[I", true)
  | 6 => ("KernLessons$State", "lessonTolds", "[I", true)
  | 7 => ("KernLessons$State", "lessons", "I", false)
  | 8 => ("KernLessons$State", "table", "LKernLessons$Table;", true)
  | 9 => ("KernLessons$State", "refused", "I", false)
  | 10 => ("KernLessons$State", "forgotten", "I", false)
  | _ => ("KernLessons$State", "goneThrough", "I", false)
def tyX2 : Nat → FieldType := fun k => match k with
  | 0 => .array .int
  | 1 => .array .int
  | 2 => .array .int
  | 3 => .array .int
  | 4 => .array .int
  | 5 => .array .int
  | 6 => .array .int
  | 7 => .int
  | 8 => .object "KernLessons$Table"
  | 9 => .int
  | 10 => .int
  | _ => .int
abbrev wsX20 : List Cond := u_ws RX2 TX2 12
theorem nmX2 : ∀ a, a < 12 → ∀ b, b < 12 → a ≠ b → (TX2 a).2.1 ≠ (TX2 b).2.1 := by decide +kernel
theorem tyX2_ok : ∀ k, k < 12 → parseFieldDescriptor (TX2 k).2.2.1 = some (tyX2 k) := by decide +kernel
abbrev cX2_init : ByteArray := prog_4_method_1_code
def yX2_init : MethodName := ⟨RX2, "<init>", "()V"⟩
abbrev cX2_becomeLike : ByteArray := prog_4_method_2_code
def yX2_becomeLike : MethodName := ⟨RX2, "becomeLike", "(LKernLessons$State;)V"⟩
abbrev cX2_shapesOfPair : ByteArray := prog_4_method_3_code
def yX2_shapesOfPair : MethodName := ⟨RX2, "shapesOfPair", "(I)I"⟩
abbrev cX2_goThroughAgain : ByteArray := prog_4_method_4_code
def yX2_goThroughAgain : MethodName := ⟨RX2, "goThroughAgain", "()V"⟩
abbrev cX2_addLesson : ByteArray := prog_4_method_5_code
def yX2_addLesson : MethodName := ⟨RX2, "addLesson", "(II)V"⟩
abbrev cX2_dropLesson : ByteArray := prog_4_method_6_code
def yX2_dropLesson : MethodName := ⟨RX2, "dropLesson", "(I)V"⟩
abbrev cX2_lessonsWithLetter : ByteArray := prog_4_method_7_code
def yX2_lessonsWithLetter : MethodName := ⟨RX2, "lessonsWithLetter", "(I)I"⟩
abbrev cX2_idleLessons : ByteArray := prog_4_method_8_code
def yX2_idleLessons : MethodName := ⟨RX2, "idleLessons", "()I"⟩
abbrev cX2_pairsWithShapes : ByteArray := prog_4_method_9_code
def yX2_pairsWithShapes : MethodName := ⟨RX2, "pairsWithShapes", "(I)I"⟩
abbrev cX2_learntPairsWithShapes : ByteArray := prog_4_method_10_code
def yX2_learntPairsWithShapes : MethodName := ⟨RX2, "learntPairsWithShapes", "(I)I"⟩
abbrev cX2_shapesOffTheirBase : ByteArray := prog_4_method_11_code
def yX2_shapesOffTheirBase : MethodName := ⟨RX2, "shapesOffTheirBase", "()I"⟩
def RX3 : String := "KernLessons$Table"
def TX3 : u_T := fun k => match k with
  | 0 => ("KernLessons$Table", "shapeKernings", "[I", true)
  | 1 => ("KernLessons$Table", "own", "[I", true)
  | 2 => ("KernLessons$Table", "steps", "[I", true)
  | 3 => ("KernLessons$Table", "tolds", "[I", true)
  | 4 => ("KernLessons$Table", "learnt", "[I", true)
  | 5 => ("KernLessons$Table", "learntPairs", "[I", true)
  | 6 => ("KernLessons$Table", "pairsLearnt", "I", false)
  | _ => ("KernLessons$Table", "idle", "[I", true)
def tyX3 : Nat → FieldType := fun k => match k with
  | 0 => .array .int
  | 1 => .array .int
  | 2 => .array .int
  | 3 => .array .int
  | 4 => .array .int
  | 5 => .array .int
  | 6 => .int
  | _ => .array .int
abbrev wsX30 : List Cond := u_ws RX3 TX3 8
theorem nmX3 : ∀ a, a < 8 → ∀ b, b < 8 → a ≠ b → (TX3 a).2.1 ≠ (TX3 b).2.1 := by decide +kernel
theorem tyX3_ok : ∀ k, k < 8 → parseFieldDescriptor (TX3 k).2.2.1 = some (tyX3 k) := by decide +kernel
abbrev cX3_init : ByteArray := prog_5_method_1_code
def yX3_init : MethodName := ⟨RX3, "<init>", "()V"⟩
abbrev cX3_becomeLike : ByteArray := prog_5_method_2_code
def yX3_becomeLike : MethodName := ⟨RX3, "becomeLike", "(LKernLessons$Table;)V"⟩
abbrev cX3_kerningOfPair : ByteArray := prog_5_method_3_code
def yX3_kerningOfPair : MethodName := ⟨RX3, "kerningOfPair", "(LKernLessons$State;I)I"⟩
abbrev cX3_learnAllBut : ByteArray := prog_5_method_4_code
def yX3_learnAllBut : MethodName := ⟨RX3, "learnAllBut", "(LKernLessons$State;I)V"⟩
abbrev cX3_learn : ByteArray := prog_5_method_5_code
def yX3_learn : MethodName := ⟨RX3, "learn", "(LKernLessons$State;II)Z"⟩
abbrev cX3_moveShapes : ByteArray := prog_5_method_6_code
def yX3_moveShapes : MethodName := ⟨RX3, "moveShapes", "(LKernLessons$State;II)V"⟩
abbrev cX3_pairsThatAgree : ByteArray := prog_5_method_7_code
def yX3_pairsThatAgree : MethodName := ⟨RX3, "pairsThatAgree", "(LKernLessons$State;II)I"⟩
def RX4 : String := "KernLessons"
def TX4 : u_T := fun k => match k with
  | 0 => ("KernLessons", "now", "LKernLessons$State;", true)
  | 1 => ("KernLessons", "saved", "[LKernLessons$State;", true)
  | 2 => ("KernLessons", "savedCount", "I", false)
  | 3 => ("KernLessons", "slots", "[LKernLessons$State;", true)
  | 4 => ("KernLessons", "slotFilled", "[Z", true)
  | 5 => ("KernLessons", "buffer", "LKernLessons$Buffer;", true)
  | 6 => ("KernLessons", "trial", "LKernLessons$Table;", true)
  | 7 => ("KernLessons", "pairsOtherwise", "[I", true)
  | _ => ("KernLessons", "measure", "LKernLessons$Measure;", true)
def tyX4 : Nat → FieldType := fun k => match k with
  | 0 => .object "KernLessons$State"
  | 1 => .array (.object "KernLessons$State")
  | 2 => .int
  | 3 => .array (.object "KernLessons$State")
  | 4 => .array .boolean
  | 5 => .object "KernLessons$Buffer"
  | 6 => .object "KernLessons$Table"
  | 7 => .array .int
  | _ => .object "KernLessons$Measure"
abbrev wsX40 : List Cond := u_ws RX4 TX4 9
theorem nmX4 : ∀ a, a < 9 → ∀ b, b < 9 → a ≠ b → (TX4 a).2.1 ≠ (TX4 b).2.1 := by decide +kernel
theorem tyX4_ok : ∀ k, k < 9 → parseFieldDescriptor (TX4 k).2.2.1 = some (tyX4 k) := by decide +kernel
abbrev cX4_init : ByteArray := prog_1_method_1_code
def yX4_init : MethodName := ⟨RX4, "<init>", "()V"⟩
abbrev cX4_width : ByteArray := prog_1_method_2_code
def yX4_width : MethodName := ⟨RX4, "width", "(II)I"⟩
abbrev cX4_shape : ByteArray := prog_1_method_3_code
def yX4_shape : MethodName := ⟨RX4, "shape", "(III)I"⟩
abbrev cX4_base : ByteArray := prog_1_method_4_code
def yX4_base : MethodName := ⟨RX4, "base", "(III)I"⟩
abbrev cX4_set : ByteArray := prog_1_method_5_code
def yX4_set : MethodName := ⟨RX4, "set", "(II)I"⟩
abbrev cX4_circle : ByteArray := prog_1_method_6_code
def yX4_circle : MethodName := ⟨RX4, "circle", "(III)I"⟩
abbrev cX4_forget : ByteArray := prog_1_method_7_code
def yX4_forget : MethodName := ⟨RX4, "forget", "(I)I"⟩
abbrev cX4_append : ByteArray := prog_1_method_8_code
def yX4_append : MethodName := ⟨RX4, "append", "(I)I"⟩
abbrev cX4_clearBuffer : ByteArray := prog_1_method_9_code
def yX4_clearBuffer : MethodName := ⟨RX4, "clearBuffer", "()I"⟩
abbrev cX4_firstError : ByteArray := prog_1_method_10_code
def yX4_firstError : MethodName := ⟨RX4, "firstError", "()I"⟩
abbrev cX4_keep : ByteArray := prog_1_method_12_code
def yX4_keep : MethodName := ⟨RX4, "keep", "(I)I"⟩
abbrev cX4_goBack : ByteArray := prog_1_method_13_code
def yX4_goBack : MethodName := ⟨RX4, "goBack", "(I)I"⟩
abbrev cX4_letterOf : ByteArray := prog_1_method_15_code
def yX4_letterOf : MethodName := ⟨RX4, "letterOf", "(II)I"⟩
abbrev cX4_pairOf : ByteArray := prog_1_method_16_code
def yX4_pairOf : MethodName := ⟨RX4, "pairOf", "(III)I"⟩
abbrev cX4_shapesOf : ByteArray := prog_1_method_17_code
def yX4_shapesOf : MethodName := ⟨RX4, "shapesOf", "(III)I"⟩
abbrev cX4_lessonOf : ByteArray := prog_1_method_18_code
def yX4_lessonOf : MethodName := ⟨RX4, "lessonOf", "(II)I"⟩
abbrev cX4_count : ByteArray := prog_1_method_19_code
def yX4_count : MethodName := ⟨RX4, "count", "(I)I"⟩
abbrev cX4_setting : ByteArray := prog_1_method_20_code
def yX4_setting : MethodName := ⟨RX4, "setting", "(I)I"⟩
abbrev cX4_text : ByteArray := prog_1_method_21_code
def yX4_text : MethodName := ⟨RX4, "text", "(I)I"⟩
abbrev cX4_ifCircled : ByteArray := prog_1_method_22_code
def yX4_ifCircled : MethodName := ⟨RX4, "ifCircled", "(III)I"⟩
abbrev cX4_ifForgotten : ByteArray := prog_1_method_23_code
def yX4_ifForgotten : MethodName := ⟨RX4, "ifForgotten", "(I)I"⟩
abbrev cX4_mainLesson : ByteArray := prog_1_method_24_code
def yX4_mainLesson : MethodName := ⟨RX4, "mainLesson", "()I"⟩
abbrev cX4_tightShare : ByteArray := prog_1_method_25_code
def yX4_tightShare : MethodName := ⟨RX4, "tightShare", "()D"⟩
abbrev cX4_checkLetter : ByteArray := prog_1_method_27_code
def yX4_checkLetter : MethodName := ⟨RX4, "checkLetter", "(I)V"⟩
abbrev cX4_checkIndex : ByteArray := prog_1_method_28_code
def yX4_checkIndex : MethodName := ⟨RX4, "checkIndex", "(II)V"⟩
abbrev cX4_checkRange : ByteArray := prog_1_method_29_code
def yX4_checkRange : MethodName := ⟨RX4, "checkRange", "(III)V"⟩
abbrev cX4_checkTold : ByteArray := prog_1_method_30_code
def yX4_checkTold : MethodName := ⟨RX4, "checkTold", "(I)V"⟩
abbrev cX4_saveState : ByteArray := prog_1_method_31_code
def yX4_saveState : MethodName := ⟨RX4, "saveState", "()V"⟩
abbrev cX4_learnCircle : ByteArray := prog_1_method_32_code
def yX4_learnCircle : MethodName := ⟨RX4, "learnCircle", "(II)I"⟩
abbrev cX4_pairsOtherwiseWithout : ByteArray := prog_1_method_33_code
def yX4_pairsOtherwiseWithout : MethodName := ⟨RX4, "pairsOtherwiseWithout", "(I)I"⟩
abbrev cX4_findPairsOtherwise : ByteArray := prog_1_method_34_code
def yX4_findPairsOtherwise : MethodName := ⟨RX4, "findPairsOtherwise", "()V"⟩
abbrev cX4_lessonWithMostOtherwise : ByteArray := prog_1_method_35_code
def yX4_lessonWithMostOtherwise : MethodName := ⟨RX4, "lessonWithMostOtherwise", "()I"⟩
def RX5 : String := "KernLessonsModel"
def TX5 : u_T := fun k => match k with
  | _ => ("", "", "", false)
def tyX5 : Nat → FieldType := fun k => match k with
  | _ => .int
abbrev wsX50 : List Cond := u_ws RX5 TX5 0
theorem nmX5 : ∀ a, a < 0 → ∀ b, b < 0 → a ≠ b → (TX5 a).2.1 ≠ (TX5 b).2.1 := by decide +kernel
theorem tyX5_ok : ∀ k, k < 0 → parseFieldDescriptor (TX5 k).2.2.1 = some (tyX5 k) := by decide +kernel
def RJx145de : String := "java/io/Serializable"
def TJx145de : u_T := fun k => match k with
  | _ => ("", "", "", false)
def tyJx145de : Nat → FieldType := fun k => match k with
  | _ => .int
abbrev wsJx145de0 : List Cond := u_ws RJx145de TJx145de 0
theorem nmJx145de : ∀ a, a < 0 → ∀ b, b < 0 → a ≠ b → (TJx145de a).2.1 ≠ (TJx145de b).2.1 := by decide +kernel
theorem tyJx145de_ok : ∀ k, k < 0 → parseFieldDescriptor (TJx145de k).2.2.1 = some (tyJx145de k) := by decide +kernel
def RJ9 : String := "java/lang/Math"
def TJ9 : u_T := fun k => match k with
  | _ => ("", "", "", false)
def tyJ9 : Nat → FieldType := fun k => match k with
  | _ => .int
abbrev wsJ90 : List Cond := u_ws RJ9 TJ9 0
theorem nmJ9 : ∀ a, a < 0 → ∀ b, b < 0 → a ≠ b → (TJ9 a).2.1 ≠ (TJ9 b).2.1 := by decide +kernel
theorem tyJ9_ok : ∀ k, k < 0 → parseFieldDescriptor (TJ9 k).2.2.1 = some (tyJ9 k) := by decide +kernel
abbrev cJ9_max_7cf53 : ByteArray := prog_12_method_65_code
def yJ9_max_7cf53 : MethodName := ⟨RJ9, "max", "(II)I"⟩
abbrev cJ9_min_7cf53 : ByteArray := prog_12_method_69_code
def yJ9_min_7cf53 : MethodName := ⟨RJ9, "min", "(II)I"⟩
def RJ0 : String := "java/lang/String"
def TJ0 : u_T := fun k => match k with
  | _ => ("", "", "", false)
def tyJ0 : Nat → FieldType := fun k => match k with
  | _ => .int
abbrev wsJ00 : List Cond := u_ws RJ0 TJ0 0
theorem nmJ0 : ∀ a, a < 0 → ∀ b, b < 0 → a ≠ b → (TJ0 a).2.1 ≠ (TJ0 b).2.1 := by decide +kernel
theorem tyJ0_ok : ∀ k, k < 0 → parseFieldDescriptor (TJ0 k).2.2.1 = some (tyJ0 k) := by decide +kernel
def RJ10 : String := "java/lang/System"
def TJ10 : u_T := fun k => match k with
  | _ => ("", "", "", false)
def tyJ10 : Nat → FieldType := fun k => match k with
  | _ => .int
abbrev wsJ100 : List Cond := u_ws RJ10 TJ10 0
theorem nmJ10 : ∀ a, a < 0 → ∀ b, b < 0 → a ≠ b → (TJ10 a).2.1 ≠ (TJ10 b).2.1 := by decide +kernel
theorem tyJ10_ok : ∀ k, k < 0 → parseFieldDescriptor (TJ10 k).2.2.1 = some (tyJ10 k) := by decide +kernel
def RJ7 : String := "java/util/Arrays"
def TJ7 : u_T := fun k => match k with
  | _ => ("", "", "", false)
def tyJ7 : Nat → FieldType := fun k => match k with
  | _ => .int
abbrev wsJ70 : List Cond := u_ws RJ7 TJ7 0
theorem nmJ7 : ∀ a, a < 0 → ∀ b, b < 0 → a ≠ b → (TJ7 a).2.1 ≠ (TJ7 b).2.1 := by decide +kernel
theorem tyJ7_ok : ∀ k, k < 0 → parseFieldDescriptor (TJ7 k).2.2.1 = some (tyJ7 k) := by decide +kernel
abbrev cJ7_fill_53178 : ByteArray := prog_17_method_103_code
def yJ7_fill_53178 : MethodName := ⟨RJ7, "fill", "([II)V"⟩
def RL : String := "KernLessonsLaw"
abbrev cL_cell : ByteArray := method_2_code
def yL_cell : MethodName := ⟨RL, "cell", "([II)I"⟩
abbrev cL_low : ByteArray := method_3_code
def yL_low : MethodName := ⟨RL, "low", "(II)I"⟩
abbrev cL_kerning : ByteArray := method_4_code
def yL_kerning : MethodName := ⟨RL, "kerning", "(LKernLessons;I)I"⟩
abbrev cL_where : ByteArray := method_5_code
def yL_where : MethodName := ⟨RL, "where", "(LKernLessons;I)I"⟩
abbrev cL_arePairs : ByteArray := method_6_code
def yL_arePairs : MethodName := ⟨RL, "arePairs", "(LKernLessons;)Z"⟩
abbrev cL_areShapes : ByteArray := method_7_code
def yL_areShapes : MethodName := ⟨RL, "areShapes", "(LKernLessons;)Z"⟩
abbrev cL_tale : ByteArray := method_8_code
def yL_tale : MethodName := ⟨RL, "tale", "(LKernLessons;)J"⟩
abbrev cL_circles : ByteArray := method_9_code
def yL_circles : MethodName := ⟨RL, "circles", "(LKernLessons;II)Z"⟩
abbrev cL_forgets : ByteArray := method_10_code
def yL_forgets : MethodName := ⟨RL, "forgets", "(LKernLessons;I)Z"⟩
abbrev cL_isWidth : ByteArray := method_11_code
def yL_isWidth : MethodName := ⟨RL, "isWidth", "(LKernLessons;II)Z"⟩
abbrev cL_act : ByteArray := method_12_code
def yL_act : MethodName := ⟨RL, "act", "(LKernLessons;II)Z"⟩
abbrev cL_law : ByteArray := code
def yL_law : MethodName := ⟨RL, "law", "([I)Z"⟩
abbrev vwCl : List vw_C := [(RX0, TX0, 2), (RX1, TX1, 5), (RX2, TX2, 12), (RX3, TX3, 8), (RX4, TX4, 9)]
