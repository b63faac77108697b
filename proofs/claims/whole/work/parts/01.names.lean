-- ===== PART A: goes FIRST, ahead of the names: the tables' words, and 'selects' of the private methods out of them =====
/-- a private method of a class that the tables say can be made, by its rows of tables_1 -/
def lw_okq (q : MethodName × Nat) : Prop := (q.1.cls ≠ "java/lang/invoke/MethodHandle" ∧ q.1.cls ≠ "java/lang/invoke/VarHandle") ∧ Cond.instantiable q.1.cls q.2 ∈ tables_1 ∧ Cond.privateMethod q.1 ∈ tables_1 ∧ Cond.instanceMethod q.1 ∈ tables_1
theorem lw_p0 : lw_okq (⟨"TuneWords", "verseOf", "(I)I"⟩, 5) := ⟨⟨by decide +kernel, by decide +kernel⟩, List.mem_of_getElem? (i := 10) (by decide +kernel), List.mem_of_getElem? (i := 372) (by decide +kernel), List.mem_of_getElem? (i := 373) (by decide +kernel)⟩
theorem lw_p1 : lw_okq (⟨"TuneWordsModel", "lineFault", "()I"⟩, 17) := ⟨⟨by decide +kernel, by decide +kernel⟩, List.mem_of_getElem? (i := 433) (by decide +kernel), List.mem_of_getElem? (i := 507) (by decide +kernel), List.mem_of_getElem? (i := 508) (by decide +kernel)⟩
theorem lw_p2 : lw_okq (⟨"TuneWordsModel", "isFigure", "(III)Z"⟩, 17) := ⟨⟨by decide +kernel, by decide +kernel⟩, List.mem_of_getElem? (i := 433) (by decide +kernel), List.mem_of_getElem? (i := 511) (by decide +kernel), List.mem_of_getElem? (i := 512) (by decide +kernel)⟩
theorem lw_p3 : lw_okq (⟨"TuneWordsModel", "tuneFault", "()I"⟩, 17) := ⟨⟨by decide +kernel, by decide +kernel⟩, List.mem_of_getElem? (i := 433) (by decide +kernel), List.mem_of_getElem? (i := 515) (by decide +kernel), List.mem_of_getElem? (i := 516) (by decide +kernel)⟩
theorem lw_p4 : lw_okq (⟨"TuneWordsModel", "lay", "(III)V"⟩, 17) := ⟨⟨by decide +kernel, by decide +kernel⟩, List.mem_of_getElem? (i := 433) (by decide +kernel), List.mem_of_getElem? (i := 552) (by decide +kernel), List.mem_of_getElem? (i := 553) (by decide +kernel)⟩
theorem lw_p5 : lw_okq (⟨"TuneWordsModel", "canStep", "(III)Z"⟩, 17) := ⟨⟨by decide +kernel, by decide +kernel⟩, List.mem_of_getElem? (i := 433) (by decide +kernel), List.mem_of_getElem? (i := 556) (by decide +kernel), List.mem_of_getElem? (i := 557) (by decide +kernel)⟩
theorem lw_p6 : lw_okq (⟨"TuneWordsModel", "costOf", "(III)I"⟩, 17) := ⟨⟨by decide +kernel, by decide +kernel⟩, List.mem_of_getElem? (i := 433) (by decide +kernel), List.mem_of_getElem? (i := 560) (by decide +kernel), List.mem_of_getElem? (i := 561) (by decide +kernel)⟩
theorem lw_p7 : lw_okq (⟨"TuneWordsModel", "fit", "(II)I"⟩, 17) := ⟨⟨by decide +kernel, by decide +kernel⟩, List.mem_of_getElem? (i := 433) (by decide +kernel), List.mem_of_getElem? (i := 564) (by decide +kernel), List.mem_of_getElem? (i := 565) (by decide +kernel)⟩
theorem lw_p8 : lw_okq (⟨"TuneWordsModel", "go", "(III)V"⟩, 17) := ⟨⟨by decide +kernel, by decide +kernel⟩, List.mem_of_getElem? (i := 433) (by decide +kernel), List.mem_of_getElem? (i := 578) (by decide +kernel), List.mem_of_getElem? (i := 579) (by decide +kernel)⟩
theorem lw_p9 : lw_okq (⟨"TuneWordsModel", "layTable", "()V"⟩, 17) := ⟨⟨by decide +kernel, by decide +kernel⟩, List.mem_of_getElem? (i := 433) (by decide +kernel), List.mem_of_getElem? (i := 582) (by decide +kernel), List.mem_of_getElem? (i := 583) (by decide +kernel)⟩
theorem lw_p10 : lw_okq (⟨"TuneWordsModel", "take", "(III)V"⟩, 17) := ⟨⟨by decide +kernel, by decide +kernel⟩, List.mem_of_getElem? (i := 433) (by decide +kernel), List.mem_of_getElem? (i := 589) (by decide +kernel), List.mem_of_getElem? (i := 590) (by decide +kernel)⟩
theorem lw_p11 : lw_okq (⟨"TuneWordsModel", "laySteps", "()V"⟩, 17) := ⟨⟨by decide +kernel, by decide +kernel⟩, List.mem_of_getElem? (i := 433) (by decide +kernel), List.mem_of_getElem? (i := 593) (by decide +kernel), List.mem_of_getElem? (i := 594) (by decide +kernel)⟩
theorem lw_p12 : lw_okq (⟨"TuneWordsModel", "nextStep", "(II)I"⟩, 17) := ⟨⟨by decide +kernel, by decide +kernel⟩, List.mem_of_getElem? (i := 433) (by decide +kernel), List.mem_of_getElem? (i := 597) (by decide +kernel), List.mem_of_getElem? (i := 598) (by decide +kernel)⟩
theorem lw_p13 : lw_okq (⟨"TuneWordsModel", "verseOf", "(I)I"⟩, 17) := ⟨⟨by decide +kernel, by decide +kernel⟩, List.mem_of_getElem? (i := 433) (by decide +kernel), List.mem_of_getElem? (i := 613) (by decide +kernel), List.mem_of_getElem? (i := 614) (by decide +kernel)⟩
theorem lw_p14 : lw_okq (⟨"TuneWordsModel", "sumOf", "(II)I"⟩, 17) := ⟨⟨by decide +kernel, by decide +kernel⟩, List.mem_of_getElem? (i := 433) (by decide +kernel), List.mem_of_getElem? (i := 641) (by decide +kernel), List.mem_of_getElem? (i := 642) (by decide +kernel)⟩
theorem lw_p15 : lw_okq (⟨"TuneWordsModel", "lengths", "()I"⟩, 17) := ⟨⟨by decide +kernel, by decide +kernel⟩, List.mem_of_getElem? (i := 433) (by decide +kernel), List.mem_of_getElem? (i := 645) (by decide +kernel), List.mem_of_getElem? (i := 646) (by decide +kernel)⟩
def lw_privs_1 : List (MethodName × Nat) := [(⟨"TuneWords", "verseOf", "(I)I"⟩, 5), (⟨"TuneWordsModel", "lineFault", "()I"⟩, 17), (⟨"TuneWordsModel", "isFigure", "(III)Z"⟩, 17), (⟨"TuneWordsModel", "tuneFault", "()I"⟩, 17), (⟨"TuneWordsModel", "lay", "(III)V"⟩, 17), (⟨"TuneWordsModel", "canStep", "(III)Z"⟩, 17), (⟨"TuneWordsModel", "costOf", "(III)I"⟩, 17), (⟨"TuneWordsModel", "fit", "(II)I"⟩, 17), (⟨"TuneWordsModel", "go", "(III)V"⟩, 17), (⟨"TuneWordsModel", "layTable", "()V"⟩, 17), (⟨"TuneWordsModel", "take", "(III)V"⟩, 17), (⟨"TuneWordsModel", "laySteps", "()V"⟩, 17), (⟨"TuneWordsModel", "nextStep", "(II)I"⟩, 17), (⟨"TuneWordsModel", "verseOf", "(I)I"⟩, 17), (⟨"TuneWordsModel", "sumOf", "(II)I"⟩, 17), (⟨"TuneWordsModel", "lengths", "()I"⟩, 17)]
theorem lw_r1 : ∀ q ∈ lw_privs_1, lw_okq q := List.forall_mem_cons.mpr ⟨lw_p0, List.forall_mem_cons.mpr ⟨lw_p1, List.forall_mem_cons.mpr ⟨lw_p2, List.forall_mem_cons.mpr ⟨lw_p3, List.forall_mem_cons.mpr ⟨lw_p4, List.forall_mem_cons.mpr ⟨lw_p5, List.forall_mem_cons.mpr ⟨lw_p6, List.forall_mem_cons.mpr ⟨lw_p7, List.forall_mem_cons.mpr ⟨lw_p8, List.forall_mem_cons.mpr ⟨lw_p9, List.forall_mem_cons.mpr ⟨lw_p10, List.forall_mem_cons.mpr ⟨lw_p11, List.forall_mem_cons.mpr ⟨lw_p12, List.forall_mem_cons.mpr ⟨lw_p13, List.forall_mem_cons.mpr ⟨lw_p14, List.forall_mem_cons.mpr ⟨lw_p15, fun _ h => absurd h List.not_mem_nil⟩⟩⟩⟩⟩⟩⟩⟩⟩⟩⟩⟩⟩⟩⟩⟩
def lw_privs : List (MethodName × Nat) := lw_privs_1
def lw_tbl : List Cond := k2_sels lw_privs ++ tables_1
theorem lw_privs_ok : ∀ q ∈ lw_privs, lw_okq q := lw_r1
def RX0 : String := "TuneWords$Book"
def TX0 : u_T := fun k => match k with
  | 0 => ("TuneWords$Book", "lines", "[LTuneWords$Row;", true)
  | 1 => ("TuneWords$Book", "tunes", "[LTuneWords$Row;", true)
  | _ => ("TuneWords$Book", "rules", "[I", true)
def tyX0 : Nat → FieldType := fun k => match k with
  | 0 => .array (.object "TuneWords$Row")
  | 1 => .array (.object "TuneWords$Row")
  | _ => .array .int
abbrev wsX00 : List Cond := u_ws RX0 TX0 3
theorem nmX0 : ∀ a, a < 3 → ∀ b, b < 3 → a ≠ b → (TX0 a).2.1 ≠ (TX0 b).2.1 := by decide +kernel
theorem tyX0_ok : ∀ k, k < 3 → parseFieldDescriptor (TX0 k).2.2.1 = some (tyX0 k) := by decide +kernel
abbrev cX0_init : ByteArray := prog_2_method_1_code
def yX0_init : MethodName := ⟨RX0, "<init>", "()V"⟩
abbrev cX0_copyFrom : ByteArray := prog_2_method_2_code
def yX0_copyFrom : MethodName := ⟨RX0, "copyFrom", "(LTuneWords$Book;)V"⟩
abbrev cX0_syllablesInAll : ByteArray := prog_2_method_3_code
def yX0_syllablesInAll : MethodName := ⟨RX0, "syllablesInAll", "()I"⟩
abbrev cX0_notesInAll : ByteArray := prog_2_method_4_code
def yX0_notesInAll : MethodName := ⟨RX0, "notesInAll", "()I"⟩
abbrev cX0_lengthsInAll : ByteArray := prog_2_method_5_code
def yX0_lengthsInAll : MethodName := ⟨RX0, "lengthsInAll", "()I"⟩
def RX1 : String := "TuneWords$Loom"
def TX1 : u_T := fun k => match k with
  | 0 => ("TuneWords$Loom", "words", "LTuneWords$Row;", true)
  | 1 => ("TuneWords$Loom", "melody", "LTuneWords$Row;", true)
  | 2 => ("TuneWords$Loom", "rules", "[I", true)
  | 3 => ("TuneWords$Loom", "leastFrom", "[[I", true)
  | 4 => ("TuneWords$Loom", "greatestFrom", "[[I", true)
  | 5 => ("TuneWords$Loom", "layingsFrom", "[[I", true)
  | 6 => ("TuneWords$Loom", "leastLayingsFrom", "[[I", true)
  | 7 => ("TuneWords$Loom", "steps", "[I", true)
  | 8 => ("TuneWords$Loom", "stepsTaken", "I", false)
  | 9 => ("TuneWords$Loom", "firstOn", "[I", true)
  | _ => ("TuneWords$Loom", "howManyOn", "[I", true)
def tyX1 : Nat → FieldType := fun k => match k with
  | 0 => .object "TuneWords$Row"
  | 1 => .object "TuneWords$Row"
  | 2 => .array .int
  | 3 => .array (.array .int)
  | 4 => .array (.array .int)
  | 5 => .array (.array .int)
  | 6 => .array (.array .int)
  | 7 => .array .int
  | 8 => .int
  | 9 => .array .int
  | _ => .array .int
abbrev wsX10 : List Cond := u_ws RX1 TX1 11
theorem nmX1 : ∀ a, a < 11 → ∀ b, b < 11 → a ≠ b → (TX1 a).2.1 ≠ (TX1 b).2.1 := by decide +kernel
theorem tyX1_ok : ∀ k, k < 11 → parseFieldDescriptor (TX1 k).2.2.1 = some (tyX1 k) := by decide +kernel
abbrev cX1_init : ByteArray := prog_3_method_1_code
def yX1_init : MethodName := ⟨RX1, "<init>", "()V"⟩
abbrev cX1_take : ByteArray := prog_3_method_2_code
def yX1_take : MethodName := ⟨RX1, "take", "(LTuneWords$Book;II)V"⟩
abbrev cX1_turnTune : ByteArray := prog_3_method_3_code
def yX1_turnTune : MethodName := ⟨RX1, "turnTune", "(LTuneWords$Row;I)V"⟩
abbrev cX1_stressSyllable : ByteArray := prog_3_method_4_code
def yX1_stressSyllable : MethodName := ⟨RX1, "stressSyllable", "(II)V"⟩
abbrev cX1_costOf : ByteArray := prog_3_method_5_code
def yX1_costOf : MethodName := ⟨RX1, "costOf", "(LTuneWords$Pad;)I"⟩
abbrev cX1_leastCost : ByteArray := prog_3_method_6_code
def yX1_leastCost : MethodName := ⟨RX1, "leastCost", "()I"⟩
abbrev cX1_greatestCost : ByteArray := prog_3_method_7_code
def yX1_greatestCost : MethodName := ⟨RX1, "greatestCost", "()I"⟩
abbrev cX1_howManyLayings : ByteArray := prog_3_method_8_code
def yX1_howManyLayings : MethodName := ⟨RX1, "howManyLayings", "()I"⟩
abbrev cX1_howManyLeast : ByteArray := prog_3_method_9_code
def yX1_howManyLeast : MethodName := ⟨RX1, "howManyLeast", "()I"⟩
abbrev cX1_tallied : ByteArray := prog_3_method_10_code
def yX1_tallied : MethodName := ⟨RX1, "tallied", "([[II)I"⟩
abbrev cX1_leastStep : ByteArray := prog_3_method_11_code
def yX1_leastStep : MethodName := ⟨RX1, "leastStep", "(I)I"⟩
abbrev cX1_firstSungOn : ByteArray := prog_3_method_12_code
def yX1_firstSungOn : MethodName := ⟨RX1, "firstSungOn", "(I)I"⟩
abbrev cX1_howManySungOn : ByteArray := prog_3_method_13_code
def yX1_howManySungOn : MethodName := ⟨RX1, "howManySungOn", "(I)I"⟩
abbrev cX1_traced : ByteArray := prog_3_method_14_code
def yX1_traced : MethodName := ⟨RX1, "traced", "([II)I"⟩
abbrev cX1_hasLaying : ByteArray := prog_3_method_15_code
def yX1_hasLaying : MethodName := ⟨RX1, "hasLaying", "()Z"⟩
abbrev cX1_isEnd : ByteArray := prog_3_method_16_code
def yX1_isEnd : MethodName := ⟨RX1, "isEnd", "(II)Z"⟩
abbrev cX1_canStep : ByteArray := prog_3_method_17_code
def yX1_canStep : MethodName := ⟨RX1, "canStep", "(III)Z"⟩
abbrev cX1_stepCost : ByteArray := prog_3_method_18_code
def yX1_stepCost : MethodName := ⟨RX1, "stepCost", "(III)I"⟩
abbrev cX1_weigh : ByteArray := prog_3_method_19_code
def yX1_weigh : MethodName := ⟨RX1, "weigh", "()V"⟩
abbrev cX1_leastAt : ByteArray := prog_3_method_20_code
def yX1_leastAt : MethodName := ⟨RX1, "leastAt", "(II)I"⟩
abbrev cX1_tally : ByteArray := prog_3_method_21_code
def yX1_tally : MethodName := ⟨RX1, "tally", "()V"⟩
abbrev cX1_tallyPlace : ByteArray := prog_3_method_22_code
def yX1_tallyPlace : MethodName := ⟨RX1, "tallyPlace", "(II)V"⟩
abbrev cX1_trace : ByteArray := prog_3_method_23_code
def yX1_trace : MethodName := ⟨RX1, "trace", "()V"⟩
abbrev cX1_leastStepFrom : ByteArray := prog_3_method_24_code
def yX1_leastStepFrom : MethodName := ⟨RX1, "leastStepFrom", "(II)I"⟩
def RX2 : String := "TuneWords$Pad"
def TX2 : u_T := fun k => match k with
  | 0 => ("TuneWords$Pad", "signs", "[I", true)
  | _ => ("TuneWords$Pad", "size", "I", false)
def tyX2 : Nat → FieldType := fun k => match k with
  | 0 => .array .int
  | _ => .int
abbrev wsX20 : List Cond := u_ws RX2 TX2 2
theorem nmX2 : ∀ a, a < 2 → ∀ b, b < 2 → a ≠ b → (TX2 a).2.1 ≠ (TX2 b).2.1 := by decide +kernel
theorem tyX2_ok : ∀ k, k < 2 → parseFieldDescriptor (TX2 k).2.2.1 = some (tyX2 k) := by decide +kernel
abbrev cX2_init : ByteArray := prog_4_method_1_code
def yX2_init : MethodName := ⟨RX2, "<init>", "()V"⟩
abbrev cX2_put : ByteArray := prog_4_method_2_code
def yX2_put : MethodName := ⟨RX2, "put", "(I)V"⟩
abbrev cX2_clear : ByteArray := prog_4_method_3_code
def yX2_clear : MethodName := ⟨RX2, "clear", "()V"⟩
abbrev cX2_faultAsLine : ByteArray := prog_4_method_4_code
def yX2_faultAsLine : MethodName := ⟨RX2, "faultAsLine", "()I"⟩
abbrev cX2_faultAsTune : ByteArray := prog_4_method_5_code
def yX2_faultAsTune : MethodName := ⟨RX2, "faultAsTune", "()I"⟩
abbrev cX2_readLine : ByteArray := prog_4_method_6_code
def yX2_readLine : MethodName := ⟨RX2, "readLine", "(LTuneWords$Row;)V"⟩
abbrev cX2_readTune : ByteArray := prog_4_method_7_code
def yX2_readTune : MethodName := ⟨RX2, "readTune", "(LTuneWords$Row;)V"⟩
abbrev cX2_hasStepsOnly : ByteArray := prog_4_method_8_code
def yX2_hasStepsOnly : MethodName := ⟨RX2, "hasStepsOnly", "()Z"⟩
abbrev cX2_stepAt : ByteArray := prog_4_method_9_code
def yX2_stepAt : MethodName := ⟨RX2, "stepAt", "(I)I"⟩
def RX3 : String := "TuneWords$Row"
def TX3 : u_T := fun k => match k with
  | 0 => ("TuneWords$Row", "room", "I", true)
  | 1 => ("TuneWords$Row", "weights", "[I", true)
  | 2 => ("TuneWords$Row", "spans", "[I", true)
  | _ => ("TuneWords$Row", "size", "I", false)
def tyX3 : Nat → FieldType := fun k => match k with
  | 0 => .int
  | 1 => .array .int
  | 2 => .array .int
  | _ => .int
abbrev wsX30 : List Cond := u_ws RX3 TX3 4
theorem nmX3 : ∀ a, a < 4 → ∀ b, b < 4 → a ≠ b → (TX3 a).2.1 ≠ (TX3 b).2.1 := by decide +kernel
theorem tyX3_ok : ∀ k, k < 4 → parseFieldDescriptor (TX3 k).2.2.1 = some (tyX3 k) := by decide +kernel
abbrev cX3_init : ByteArray := prog_5_method_1_code
def yX3_init : MethodName := ⟨RX3, "<init>", "(I)V"⟩
abbrev cX3_clear : ByteArray := prog_5_method_2_code
def yX3_clear : MethodName := ⟨RX3, "clear", "()V"⟩
abbrev cX3_add : ByteArray := prog_5_method_3_code
def yX3_add : MethodName := ⟨RX3, "add", "(II)V"⟩
abbrev cX3_lengthenLast : ByteArray := prog_5_method_4_code
def yX3_lengthenLast : MethodName := ⟨RX3, "lengthenLast", "()V"⟩
abbrev cX3_addPlaces : ByteArray := prog_5_method_5_code
def yX3_addPlaces : MethodName := ⟨RX3, "addPlaces", "(LTuneWords$Row;II)V"⟩
abbrev cX3_copyFrom : ByteArray := prog_5_method_6_code
def yX3_copyFrom : MethodName := ⟨RX3, "copyFrom", "(LTuneWords$Row;)V"⟩
abbrev cX3_spansInAll : ByteArray := prog_5_method_7_code
def yX3_spansInAll : MethodName := ⟨RX3, "spansInAll", "()I"⟩
def RX4 : String := "TuneWords"
def TX4 : u_T := fun k => match k with
  | 0 => ("TuneWords", "pad", "LTuneWords$Pad;", true)
  | 1 => ("TuneWords", "book", "LTuneWords$Book;", true)
  | 2 => ("TuneWords", "images", "[LTuneWords$Book;", true)
  | 3 => ("TuneWords", "loom", "LTuneWords$Loom;", true)
  | _ => ("TuneWords", "keptImages", "I", false)
def tyX4 : Nat → FieldType := fun k => match k with
  | 0 => .object "TuneWords$Pad"
  | 1 => .object "TuneWords$Book"
  | 2 => .array (.object "TuneWords$Book")
  | 3 => .object "TuneWords$Loom"
  | _ => .int
abbrev wsX40 : List Cond := u_ws RX4 TX4 5
theorem nmX4 : ∀ a, a < 5 → ∀ b, b < 5 → a ≠ b → (TX4 a).2.1 ≠ (TX4 b).2.1 := by decide +kernel
theorem tyX4_ok : ∀ k, k < 5 → parseFieldDescriptor (TX4 k).2.2.1 = some (tyX4 k) := by decide +kernel
abbrev cX4_init : ByteArray := prog_1_method_1_code
def yX4_init : MethodName := ⟨RX4, "<init>", "()V"⟩
abbrev cX4_say : ByteArray := prog_1_method_2_code
def yX4_say : MethodName := ⟨RX4, "say", "(I)I"⟩
abbrev cX4_wipe : ByteArray := prog_1_method_3_code
def yX4_wipe : MethodName := ⟨RX4, "wipe", "()I"⟩
abbrev cX4_fault : ByteArray := prog_1_method_4_code
def yX4_fault : MethodName := ⟨RX4, "fault", "(I)I"⟩
abbrev cX4_line : ByteArray := prog_1_method_5_code
def yX4_line : MethodName := ⟨RX4, "line", "(I)I"⟩
abbrev cX4_tune : ByteArray := prog_1_method_6_code
def yX4_tune : MethodName := ⟨RX4, "tune", "(I)I"⟩
abbrev cX4_rule : ByteArray := prog_1_method_7_code
def yX4_rule : MethodName := ⟨RX4, "rule", "(II)I"⟩
abbrev cX4_syllable : ByteArray := prog_1_method_8_code
def yX4_syllable : MethodName := ⟨RX4, "syllable", "(III)I"⟩
abbrev cX4_note : ByteArray := prog_1_method_9_code
def yX4_note : MethodName := ⟨RX4, "note", "(III)I"⟩
abbrev cX4_cost : ByteArray := prog_1_method_10_code
def yX4_cost : MethodName := ⟨RX4, "cost", "(II)I"⟩
abbrev cX4_least : ByteArray := prog_1_method_11_code
def yX4_least : MethodName := ⟨RX4, "least", "(III)I"⟩
abbrev cX4_ways : ByteArray := prog_1_method_12_code
def yX4_ways : MethodName := ⟨RX4, "ways", "(III)I"⟩
abbrev cX4_sung : ByteArray := prog_1_method_13_code
def yX4_sung : MethodName := ⟨RX4, "sung", "(IIII)I"⟩
abbrev cX4_verse : ByteArray := prog_1_method_14_code
def yX4_verse : MethodName := ⟨RX4, "verse", "(I)I"⟩
abbrev cX4_best : ByteArray := prog_1_method_15_code
def yX4_best : MethodName := ⟨RX4, "best", "(I)I"⟩
abbrev cX4_turned : ByteArray := prog_1_method_16_code
def yX4_turned : MethodName := ⟨RX4, "turned", "(III)I"⟩
abbrev cX4_anew : ByteArray := prog_1_method_17_code
def yX4_anew : MethodName := ⟨RX4, "anew", "(III)I"⟩
abbrev cX4_image : ByteArray := prog_1_method_18_code
def yX4_image : MethodName := ⟨RX4, "image", "(I)I"⟩
abbrev cX4_restore : ByteArray := prog_1_method_19_code
def yX4_restore : MethodName := ⟨RX4, "restore", "(I)I"⟩
abbrev cX4_count : ByteArray := prog_1_method_20_code
def yX4_count : MethodName := ⟨RX4, "count", "(I)I"⟩
abbrev cX4_isWithin : ByteArray := prog_1_method_21_code
def yX4_isWithin : MethodName := ⟨RX4, "isWithin", "(III)Z"⟩
abbrev cX4_isLine : ByteArray := prog_1_method_22_code
def yX4_isLine : MethodName := ⟨RX4, "isLine", "(I)Z"⟩
abbrev cX4_isTune : ByteArray := prog_1_method_23_code
def yX4_isTune : MethodName := ⟨RX4, "isTune", "(I)Z"⟩
abbrev cX4_areKnown : ByteArray := prog_1_method_24_code
def yX4_areKnown : MethodName := ⟨RX4, "areKnown", "(II)Z"⟩
abbrev cX4_isCheaper : ByteArray := prog_1_method_25_code
def yX4_isCheaper : MethodName := ⟨RX4, "isCheaper", "(II)Z"⟩
abbrev cX4_partOf : ByteArray := prog_1_method_26_code
def yX4_partOf : MethodName := ⟨RX4, "partOf", "(LTuneWords$Row;II)I"⟩
abbrev cX4_verseOf : ByteArray := prog_1_method_27_code
def yX4_verseOf : MethodName := ⟨RX4, "verseOf", "(I)I"⟩
def RX5 : String := "TuneWordsModel"
def TX5 : u_T := fun k => match k with
  | 0 => ("TuneWordsModel", "state", "[I", true)
  | 1 => ("TuneWordsModel", "images", "[I", true)
  | 2 => ("TuneWordsModel", "isKept", "[Z", true)
  | 3 => ("TuneWordsModel", "pad", "[I", true)
  | 4 => ("TuneWordsModel", "said", "I", false)
  | 5 => ("TuneWordsModel", "stress", "[I", true)
  | 6 => ("TuneWordsModel", "isLong", "[I", true)
  | 7 => ("TuneWordsModel", "beat", "[I", true)
  | 8 => ("TuneWordsModel", "length", "[I", true)
  | 9 => ("TuneWordsModel", "syllables", "I", false)
  | 10 => ("TuneWordsModel", "notes", "I", false)
  | 11 => ("TuneWordsModel", "least", "[I", true)
  | 12 => ("TuneWordsModel", "most", "[I", true)
  | 13 => ("TuneWordsModel", "ways", "[I", true)
  | 14 => ("TuneWordsModel", "leastWays", "[I", true)
  | 15 => ("TuneWordsModel", "steps", "[I", true)
  | _ => ("TuneWordsModel", "stepMany", "I", false)
def tyX5 : Nat → FieldType := fun k => match k with
  | 0 => .array .int
  | 1 => .array .int
  | 2 => .array .boolean
  | 3 => .array .int
  | 4 => .int
  | 5 => .array .int
  | 6 => .array .int
  | 7 => .array .int
  | 8 => .array .int
  | 9 => .int
  | 10 => .int
  | 11 => .array .int
  | 12 => .array .int
  | 13 => .array .int
  | 14 => .array .int
  | 15 => .array .int
  | _ => .int
abbrev wsX50 : List Cond := u_ws RX5 TX5 17
theorem nmX5 : ∀ a, a < 17 → ∀ b, b < 17 → a ≠ b → (TX5 a).2.1 ≠ (TX5 b).2.1 := by decide +kernel
theorem tyX5_ok : ∀ k, k < 17 → parseFieldDescriptor (TX5 k).2.2.1 = some (tyX5 k) := by decide +kernel
abbrev cX5_init : ByteArray := prog_7_method_1_code
def yX5_init : MethodName := ⟨RX5, "<init>", "()V"⟩
abbrev cX5_in : ByteArray := prog_7_method_2_code
def yX5_in : MethodName := ⟨RX5, "in", "(III)Z"⟩
abbrev cX5_isLine : ByteArray := prog_7_method_3_code
def yX5_isLine : MethodName := ⟨RX5, "isLine", "(I)Z"⟩
abbrev cX5_isTune : ByteArray := prog_7_method_4_code
def yX5_isTune : MethodName := ⟨RX5, "isTune", "(I)Z"⟩
abbrev cX5_say : ByteArray := prog_7_method_5_code
def yX5_say : MethodName := ⟨RX5, "say", "(I)I"⟩
abbrev cX5_wipe : ByteArray := prog_7_method_6_code
def yX5_wipe : MethodName := ⟨RX5, "wipe", "()I"⟩
abbrev cX5_isFigure : ByteArray := prog_7_method_7_code
def yX5_isFigure : MethodName := ⟨RX5, "isFigure", "(III)Z"⟩
abbrev cX5_lineFault : ByteArray := prog_7_method_8_code
def yX5_lineFault : MethodName := ⟨RX5, "lineFault", "()I"⟩
abbrev cX5_tuneFault : ByteArray := prog_7_method_9_code
def yX5_tuneFault : MethodName := ⟨RX5, "tuneFault", "()I"⟩
abbrev cX5_fault : ByteArray := prog_7_method_10_code
def yX5_fault : MethodName := ⟨RX5, "fault", "(I)I"⟩
abbrev cX5_line : ByteArray := prog_7_method_11_code
def yX5_line : MethodName := ⟨RX5, "line", "(I)I"⟩
abbrev cX5_tune : ByteArray := prog_7_method_12_code
def yX5_tune : MethodName := ⟨RX5, "tune", "(I)I"⟩
abbrev cX5_rule : ByteArray := prog_7_method_13_code
def yX5_rule : MethodName := ⟨RX5, "rule", "(II)I"⟩
abbrev cX5_syllable : ByteArray := prog_7_method_14_code
def yX5_syllable : MethodName := ⟨RX5, "syllable", "(III)I"⟩
abbrev cX5_note : ByteArray := prog_7_method_15_code
def yX5_note : MethodName := ⟨RX5, "note", "(III)I"⟩
abbrev cX5_lay : ByteArray := prog_7_method_16_code
def yX5_lay : MethodName := ⟨RX5, "lay", "(III)V"⟩
abbrev cX5_fit : ByteArray := prog_7_method_17_code
def yX5_fit : MethodName := ⟨RX5, "fit", "(II)I"⟩
abbrev cX5_costOf : ByteArray := prog_7_method_18_code
def yX5_costOf : MethodName := ⟨RX5, "costOf", "(III)I"⟩
abbrev cX5_canStep : ByteArray := prog_7_method_19_code
def yX5_canStep : MethodName := ⟨RX5, "canStep", "(III)Z"⟩
abbrev cX5_syllablesOf : ByteArray := prog_7_method_20_code
def yX5_syllablesOf : MethodName := ⟨RX5, "syllablesOf", "(I)I"⟩
abbrev cX5_notesOf : ByteArray := prog_7_method_21_code
def yX5_notesOf : MethodName := ⟨RX5, "notesOf", "(I)I"⟩
abbrev cX5_at : ByteArray := prog_7_method_22_code
def yX5_at : MethodName := ⟨RX5, "at", "(II)I"⟩
abbrev cX5_take : ByteArray := prog_7_method_23_code
def yX5_take : MethodName := ⟨RX5, "take", "(III)V"⟩
abbrev cX5_layTable : ByteArray := prog_7_method_24_code
def yX5_layTable : MethodName := ⟨RX5, "layTable", "()V"⟩
abbrev cX5_go : ByteArray := prog_7_method_25_code
def yX5_go : MethodName := ⟨RX5, "go", "(III)V"⟩
abbrev cX5_stepOf : ByteArray := prog_7_method_26_code
def yX5_stepOf : MethodName := ⟨RX5, "stepOf", "(I)I"⟩
abbrev cX5_cost : ByteArray := prog_7_method_27_code
def yX5_cost : MethodName := ⟨RX5, "cost", "(II)I"⟩
abbrev cX5_nextStep : ByteArray := prog_7_method_28_code
def yX5_nextStep : MethodName := ⟨RX5, "nextStep", "(II)I"⟩
abbrev cX5_laySteps : ByteArray := prog_7_method_29_code
def yX5_laySteps : MethodName := ⟨RX5, "laySteps", "()V"⟩
abbrev cX5_least : ByteArray := prog_7_method_30_code
def yX5_least : MethodName := ⟨RX5, "least", "(III)I"⟩
abbrev cX5_ways : ByteArray := prog_7_method_31_code
def yX5_ways : MethodName := ⟨RX5, "ways", "(III)I"⟩
abbrev cX5_sung : ByteArray := prog_7_method_32_code
def yX5_sung : MethodName := ⟨RX5, "sung", "(IIII)I"⟩
abbrev cX5_verseOf : ByteArray := prog_7_method_33_code
def yX5_verseOf : MethodName := ⟨RX5, "verseOf", "(I)I"⟩
abbrev cX5_verse : ByteArray := prog_7_method_34_code
def yX5_verse : MethodName := ⟨RX5, "verse", "(I)I"⟩
abbrev cX5_best : ByteArray := prog_7_method_35_code
def yX5_best : MethodName := ⟨RX5, "best", "(I)I"⟩
abbrev cX5_turned : ByteArray := prog_7_method_36_code
def yX5_turned : MethodName := ⟨RX5, "turned", "(III)I"⟩
abbrev cX5_anew : ByteArray := prog_7_method_37_code
def yX5_anew : MethodName := ⟨RX5, "anew", "(III)I"⟩
abbrev cX5_image : ByteArray := prog_7_method_38_code
def yX5_image : MethodName := ⟨RX5, "image", "(I)I"⟩
abbrev cX5_restore : ByteArray := prog_7_method_39_code
def yX5_restore : MethodName := ⟨RX5, "restore", "(I)I"⟩
abbrev cX5_sumOf : ByteArray := prog_7_method_40_code
def yX5_sumOf : MethodName := ⟨RX5, "sumOf", "(II)I"⟩
abbrev cX5_lengths : ByteArray := prog_7_method_41_code
def yX5_lengths : MethodName := ⟨RX5, "lengths", "()I"⟩
abbrev cX5_count : ByteArray := prog_7_method_42_code
def yX5_count : MethodName := ⟨RX5, "count", "(I)I"⟩
def RJ9 : String := "java/lang/Math"
def TJ9 : u_T := fun k => match k with
  | _ => ("", "", "", false)
def tyJ9 : Nat → FieldType := fun k => match k with
  | _ => .int
abbrev wsJ90 : List Cond := u_ws RJ9 TJ9 0
theorem nmJ9 : ∀ a, a < 0 → ∀ b, b < 0 → a ≠ b → (TJ9 a).2.1 ≠ (TJ9 b).2.1 := by decide +kernel
theorem tyJ9_ok : ∀ k, k < 0 → parseFieldDescriptor (TJ9 k).2.2.1 = some (tyJ9 k) := by decide +kernel
abbrev cJ9_abs_0f7a4 : ByteArray := prog_8_method_59_code
def yJ9_abs_0f7a4 : MethodName := ⟨RJ9, "abs", "(I)I"⟩
abbrev cJ9_max_7cf53 : ByteArray := prog_8_method_65_code
def yJ9_max_7cf53 : MethodName := ⟨RJ9, "max", "(II)I"⟩
abbrev cJ9_min_7cf53 : ByteArray := prog_8_method_69_code
def yJ9_min_7cf53 : MethodName := ⟨RJ9, "min", "(II)I"⟩
def RJ10 : String := "java/lang/System"
def TJ10 : u_T := fun k => match k with
  | _ => ("", "", "", false)
def tyJ10 : Nat → FieldType := fun k => match k with
  | _ => .int
abbrev wsJ100 : List Cond := u_ws RJ10 TJ10 0
theorem nmJ10 : ∀ a, a < 0 → ∀ b, b < 0 → a ≠ b → (TJ10 a).2.1 ≠ (TJ10 b).2.1 := by decide +kernel
theorem tyJ10_ok : ∀ k, k < 0 → parseFieldDescriptor (TJ10 k).2.2.1 = some (tyJ10 k) := by decide +kernel
def RL : String := "TuneWordsLaw"
abbrev cL_law : ByteArray := code
def yL_law : MethodName := ⟨RL, "law", "([I)Z"⟩
abbrev classes : List vw_C := [(RX0, TX0, 3), (RX1, TX1, 11), (RX2, TX2, 2), (RX3, TX3, 4), (RX4, TX4, 5), (RX5, TX5, 17)]
def TBG : List Cond := lw_tbl.filter goodWord
theorem tb_of {w : Cond} (h : w ∈ lw_tbl) (g : goodWord w = true) : w ∈ TBG := List.mem_filter.mpr ⟨h, g⟩
theorem tb_all : TBG.all goodWord = true := List.all_eq_true.mpr fun _ h => (List.mem_filter.mp h).2
theorem tb_gi {y : MethodName} {b : ByteArray} {n : Nat} {r : Option FieldType} (hc : Cond.code y b n r ∈ TBG) : GoodIn TBG (Cond.code y b n r :: TBG) := by
  intro w hw
  have hm : w ∈ TBG := by
    rcases List.mem_cons.mp hw with h | h
    · rw [h]; exact hc
    · exact h
  exact ⟨hm, good_of_word (List.all_eq_true.mp tb_all w hm)⟩
def MF (y : MethodName) (b : ByteArray) (nl : Nat) (ret : Option FieldType) (n : Nat) : Prop := Cond.code y b nl ret ∈ TBG ∧ Cond.initialized y.cls ∈ TBG ∧ (y.cls ≠ "java/lang/invoke/MethodHandle" ∧ y.cls ≠ "java/lang/invoke/VarHandle" ∧ (parseMethodDescriptor y.desc).map (fun d => d.parameters.length) = some n)

