section
-- ===== PART A: goes FIRST, ahead of the names: the tables' words, and 'selects' of the private methods out of them =====
/-- a private method of a class that the tables say can be made, by its rows of tables_1 -/
def lw_okq (q : MethodName × Nat) : Prop := (q.1.cls ≠ "java/lang/invoke/MethodHandle" ∧ q.1.cls ≠ "java/lang/invoke/VarHandle") ∧ Cond.instantiable q.1.cls q.2 ∈ tables_1 ∧ Cond.privateMethod q.1 ∈ tables_1 ∧ Cond.instanceMethod q.1 ∈ tables_1
theorem lw_p0 : lw_okq (⟨"TuneWords", "verseOf", "(I)I"⟩, 5) := ⟨⟨by decide +kernel, by decide +kernel⟩, List.mem_of_getElem? (i := 10) (by decide +kernel), List.mem_of_getElem? (i := 372) (by decide +kernel), List.mem_of_getElem? (i := 373) (by decide +kernel)⟩
theorem lw_p1 : lw_okq (⟨"TuneWordsModel", "lineFault", "()I"⟩, 17) := ⟨⟨by decide +kernel, by decide +kernel⟩, List.mem_of_getElem? (i := 433) (by decide +kernel), List.mem_of_getElem? (i := 507) (by decide +kernel), List.mem_of_getElem? (i := 508) (by decide +kernel)⟩
theorem lw_p2 : lw_okq (⟨"TuneWordsModel", "isFigure", "(III)Z"⟩, 17) := ⟨⟨by decide +kernel, by decide +kernel⟩, List.mem_of_getElem? (i := 433) (by decide +kernel), List.mem_of_getElem? (i := 511) (by decide +kernel), List.mem_of_getElem? (i := 512) (by decide +kernel)⟩
theorem lw_p3 : lw_okq (⟨"TuneWordsModel", "tuneFault", "()I"⟩, 17) := ⟨⟨by decide +kernel, by decide +kernel⟩, List.mem_of_getElem? (i := 433) (by decide +kernel), List.mem_of_getElem? (i := 515) (by decide +kernel), List.mem_of_getElem? (i := 516) (by decide +kernel)⟩
theorem lw_p4 : lw_okq (⟨"TuneWordsModel", "lay", "(III)V"⟩, 17) := ⟨⟨by decide +kernel, by decide +kernel⟩, List.mem_of_getElem? (i := 433) (by decide +kernel), List.mem_of_getElem? (i := 552) (by decide +kernel), List.mem_of_getElem? (i := 553) (by decide +kernel)⟩
theorem lw_p5 : lw_okq (⟨"TuneWordsModel", "canStep", "(III)Z"⟩, 17) := ⟨⟨by decide +kernel, by decide +kernel⟩, List.mem_of_getElem? (i := 433) (by decide +kernel), List.mem_of_getElem? (i := 556) (by decide +kernel), List.mem_of_getElem? (i := 557) (by decide +kernel)⟩
theorem lw_p6 : lw_okq (⟨"TuneWordsModel", "costOf", "(III)I"⟩, 17) := ⟨⟨by decide +kernel, by decide +kernel⟩, List.mem_of_getElem? (i := 433) (by decide +kernel), List.mem_of_getElem? (i := 560) (by decide +kernel), List.mem_of_getElem? (i := 561) (by decide +kernel)⟩
theorem lw_p7 : lw_okq (⟨"TuneWordsModel", "fit", "(II)I"⟩, 17) := ⟨⟨by decide +kernel, by decide +kernel⟩, List.mem_of_getElem? (i := 433) (by decide +kernel), List.mem_of_getElem? (i := 564) (by decide +kernel), List.mem_of_getElem? (i := 565) (by decide +kernel)⟩
theorem lw_p8 : lw_okq (⟨"TuneWordsModel", "go", "(III)V"⟩, 17) := ⟨⟨by decide +kernel, by decide +kernel⟩, List.mem_of_getElem? (i := 433) (by decide +kernel), List.mem_of_getElem? (i := 578) (by decide +kernel), List.mem_of_getElem? (i := 579) (by decide +kernel)⟩
theorem lw_p9 : lw_okq (⟨"TuneWordsModel", "layTable", "()V"⟩, 17) := ⟨⟨by decide +kernel, by decide +kernel⟩, List.mem_of_getElem? (i := 433) (by decide +kernel), List.mem_of_getElem? (i := 582) (by decide +kernel), List.mem_of_getElem? (i := 583) (by decide +kernel)⟩
theorem lw_p10 : lw_okq (⟨"TuneWordsModel", "take", "(III)V"⟩, 17) := ⟨⟨by decide +kernel, by decide +kernel⟩, List.mem_of_getElem? (i := 433) (by decide +kernel), List.mem_of_getElem? (i := 589) (by decide +kernel), List.mem_of_getElem? (i := 590) (by decide +kernel)⟩
theorem lw_p11 : lw_okq (⟨"TuneWordsModel", "laySteps", "()V"⟩, 17) := ⟨⟨by decide +kernel, by decide +kernel⟩, List.mem_of_getElem? (i := 433) (by decide +kernel), List.mem_of_getElem? (i := 593) (by decide +kernel), List.mem_of_getElem? (i := 594) (by decide +kernel)⟩
theorem lw_p12 : lw_okq (⟨"TuneWordsModel", "nextStep", "(II)I"⟩, 17) := ⟨⟨by decide +kernel, by decide +kernel⟩, List.mem_of_getElem? (i := 433) (by decide +kernel), List.mem_of_getElem? (i := 597) (by decide +kernel), List.mem_of_getElem? (i := 598) (by decide +kernel)⟩
theorem lw_p13 : lw_okq (⟨"TuneWordsModel", "verseOf", "(I)I"⟩, 17) := ⟨⟨by decide +kernel, by decide +kernel⟩, List.mem_of_getElem? (i := 433) (by decide +kernel), List.mem_of_getElem? (i := 613) (by decide +kernel), List.mem_of_getElem? (i := 614) (by decide +kernel)⟩
theorem lw_p14 : lw_okq (⟨"TuneWordsModel", "sumOf", "(II)I"⟩, 17) := ⟨⟨by decide +kernel, by decide +kernel⟩, List.mem_of_getElem? (i := 433) (by decide +kernel), List.mem_of_getElem? (i := 641) (by decide +kernel), List.mem_of_getElem? (i := 642) (by decide +kernel)⟩
theorem lw_p15 : lw_okq (⟨"TuneWordsModel", "lengths", "()I"⟩, 17) := ⟨⟨by decide +kernel, by decide +kernel⟩, List.mem_of_getElem? (i := 433) (by decide +kernel), List.mem_of_getElem? (i := 645) (by decide +kernel), List.mem_of_getElem? (i := 646) (by decide +kernel)⟩
def lw_privs_1 : List (MethodName × Nat) := [(⟨"TuneWords", "verseOf", "(I)I"⟩, 5), (⟨"TuneWordsModel", "lineFault", "()I"⟩, 17), (⟨"TuneWordsModel", "isFigure", "(III)Z"⟩, 17), (⟨"TuneWordsModel", "tuneFault", "()I"⟩, 17), (⟨"TuneWordsModel", "lay", "(III)V"⟩, 17), (⟨"TuneWordsModel", "canStep", "(III)Z"⟩, 17), (⟨"TuneWordsModel", "costOf", "(III)I"⟩, 17), (⟨"TuneWordsModel", "fit", "(II)I"⟩, 17), (⟨"TuneWordsModel", "go", "(III)V"⟩, 17), (⟨"TuneWordsModel", "layTable", "()V"⟩, 17), (⟨"TuneWordsModel", "take", "(III)V"⟩, 17), (⟨"TuneWordsModel", "laySteps", "()V"⟩, 17), (⟨"TuneWordsModel", "nextStep", "(II)I"⟩, 17), (⟨"TuneWordsModel", "verseOf", "(I)I"⟩, 17), (⟨"TuneWordsModel", "sumOf", "(II)I"⟩, 17), (⟨"TuneWordsModel", "lengths", "()I"⟩, 17)]
theorem lw_r1 : ∀ q ∈ lw_privs_1, lw_okq q := List.forall_mem_cons.mpr ⟨lw_p0, List.forall_mem_cons.mpr ⟨lw_p1, List.forall_mem_cons.mpr ⟨lw_p2, List.forall_mem_cons.mpr ⟨lw_p3, List.forall_mem_cons.mpr ⟨lw_p4, List.forall_mem_cons.mpr ⟨lw_p5, List.forall_mem_cons.mpr ⟨lw_p6, List.forall_mem_cons.mpr ⟨lw_p7, List.forall_mem_cons.mpr ⟨lw_p8, List.forall_mem_cons.mpr ⟨lw_p9, List.forall_mem_cons.mpr ⟨lw_p10, List.forall_mem_cons.mpr ⟨lw_p11, List.forall_mem_cons.mpr ⟨lw_p12, List.forall_mem_cons.mpr ⟨lw_p13, List.forall_mem_cons.mpr ⟨lw_p14, List.forall_mem_cons.mpr ⟨lw_p15, fun _ h => absurd h List.not_mem_nil⟩⟩⟩⟩⟩⟩⟩⟩⟩⟩⟩⟩⟩⟩⟩⟩
def lw_privs : List (MethodName × Nat) := lw_privs_1
def lw_tbl : List Cond := k2_sels lw_privs ++ tables_1
theorem lw_privs_ok : ∀ q ∈ lw_privs, lw_okq q := lw_r1
def RX0 : String := "TuneWords$Book"
def TX0 : u_T := fun k => match k with
  | 0 => ("TuneWords$Book", "lines", "[LTuneWords$Row;", true)
  | 1 => ("TuneWords$Book", "tunes", "[LTuneWords$Row;", true)
  | _ => ("TuneWords$Book", "rules", "[I", true)
def tyX0 : Nat → FieldType := fun k => match k with
  | 0 => .array (.object "TuneWords$Row")
  | 1 => .array (.object "TuneWords$Row")
  | _ => .array .int
abbrev wsX00 : List Cond := u_ws RX0 TX0 3
theorem nmX0 : ∀ a, a < 3 → ∀ b, b < 3 → a ≠ b → (TX0 a).2.1 ≠ (TX0 b).2.1 := by decide +kernel
theorem tyX0_ok : ∀ k, k < 3 → parseFieldDescriptor (TX0 k).2.2.1 = some (tyX0 k) := by decide +kernel
abbrev cX0_init : ByteArray := prog_2_method_1_code
def yX0_init : MethodName := ⟨RX0, "<init>", "()V"⟩
abbrev cX0_copyFrom : ByteArray := prog_2_method_2_code
def yX0_copyFrom : MethodName := ⟨RX0, "copyFrom", "(LTuneWords$Book;)V"⟩
abbrev cX0_syllablesInAll : ByteArray := prog_2_method_3_code
def yX0_syllablesInAll : MethodName := ⟨RX0, "syllablesInAll", "()I"⟩
abbrev cX0_notesInAll : ByteArray := prog_2_method_4_code
def yX0_notesInAll : MethodName := ⟨RX0, "notesInAll", "()I"⟩
abbrev cX0_lengthsInAll : ByteArray := prog_2_method_5_code
def yX0_lengthsInAll : MethodName := ⟨RX0, "lengthsInAll", "()I"⟩
def RX1 : String := "TuneWords$Loom"
def TX1 : u_T := fun k => match k with
  | 0 => ("TuneWords$Loom", "words", "LTuneWords$Row;", true)
  | 1 => ("TuneWords$Loom", "melody", "LTuneWords$Row;", true)
  | 2 => ("TuneWords$Loom", "rules", "[I", true)
  | 3 => ("TuneWords$Loom", "leastFrom", "[[I", true)
  | 4 => ("TuneWords$Loom", "greatestFrom", "[[I", true)
  | 5 => ("TuneWords$Loom", "layingsFrom", "[[I", true)
  | 6 => ("TuneWords$Loom", "leastLayingsFrom", "[[I", true)
  | 7 => ("TuneWords$Loom", "steps", "[I", true)
  | 8 => ("TuneWords$Loom", "stepsTaken", "I", false)
  | 9 => ("TuneWords$Loom", "firstOn", "[I", true)
  | _ => ("TuneWords$Loom", "howManyOn", "[I", true)
def tyX1 : Nat → FieldType := fun k => match k with
  | 0 => .object "TuneWords$Row"
  | 1 => .object "TuneWords$Row"
  | 2 => .array .int
  | 3 => .array (.array .int)
  | 4 => .array (.array .int)
  | 5 => .array (.array .int)
  | 6 => .array (.array .int)
  | 7 => .array .int
  | 8 => .int
  | 9 => .array .int
  | _ => .array .int
abbrev wsX10 : List Cond := u_ws RX1 TX1 11
theorem nmX1 : ∀ a, a < 11 → ∀ b, b < 11 → a ≠ b → (TX1 a).2.1 ≠ (TX1 b).2.1 := by decide +kernel
theorem tyX1_ok : ∀ k, k < 11 → parseFieldDescriptor (TX1 k).2.2.1 = some (tyX1 k) := by decide +kernel
abbrev cX1_init : ByteArray := prog_3_method_1_code
def yX1_init : MethodName := ⟨RX1, "<init>", "()V"⟩
abbrev cX1_take : ByteArray := prog_3_method_2_code
def yX1_take : MethodName := ⟨RX1, "take", "(LTuneWords$Book;II)V"⟩
abbrev cX1_turnTune : ByteArray := prog_3_method_3_code
def yX1_turnTune : MethodName := ⟨RX1, "turnTune", "(LTuneWords$Row;I)V"⟩
abbrev cX1_stressSyllable : ByteArray := prog_3_method_4_code
def yX1_stressSyllable : MethodName := ⟨RX1, "stressSyllable", "(II)V"⟩
abbrev cX1_costOf : ByteArray := prog_3_method_5_code
def yX1_costOf : MethodName := ⟨RX1, "costOf", "(LTuneWords$Pad;)I"⟩
abbrev cX1_leastCost : ByteArray := prog_3_method_6_code
def yX1_leastCost : MethodName := ⟨RX1, "leastCost", "()I"⟩
abbrev cX1_greatestCost : ByteArray := prog_3_method_7_code
def yX1_greatestCost : MethodName := ⟨RX1, "greatestCost", "()I"⟩
abbrev cX1_howManyLayings : ByteArray := prog_3_method_8_code
def yX1_howManyLayings : MethodName := ⟨RX1, "howManyLayings", "()I"⟩
abbrev cX1_howManyLeast : ByteArray := prog_3_method_9_code
def yX1_howManyLeast : MethodName := ⟨RX1, "howManyLeast", "()I"⟩
abbrev cX1_tallied : ByteArray := prog_3_method_10_code
def yX1_tallied : MethodName := ⟨RX1, "tallied", "([[II)I"⟩
abbrev cX1_leastStep : ByteArray := prog_3_method_11_code
def yX1_leastStep : MethodName := ⟨RX1, "leastStep", "(I)I"⟩
abbrev cX1_firstSungOn : ByteArray := prog_3_method_12_code
def yX1_firstSungOn : MethodName := ⟨RX1, "firstSungOn", "(I)I"⟩
abbrev cX1_howManySungOn : ByteArray := prog_3_method_13_code
def yX1_howManySungOn : MethodName := ⟨RX1, "howManySungOn", "(I)I"⟩
abbrev cX1_traced : ByteArray := prog_3_method_14_code
def yX1_traced : MethodName := ⟨RX1, "traced", "([II)I"⟩
abbrev cX1_hasLaying : ByteArray := prog_3_method_15_code
def yX1_hasLaying : MethodName := ⟨RX1, "hasLaying", "()Z"⟩
abbrev cX1_isEnd : ByteArray := prog_3_method_16_code
def yX1_isEnd : MethodName := ⟨RX1, "isEnd", "(II)Z"⟩
abbrev cX1_canStep : ByteArray := prog_3_method_17_code
def yX1_canStep : MethodName := ⟨RX1, "canStep", "(III)Z"⟩
abbrev cX1_stepCost : ByteArray := prog_3_method_18_code
def yX1_stepCost : MethodName := ⟨RX1, "stepCost", "(III)I"⟩
abbrev cX1_weigh : ByteArray := prog_3_method_19_code
def yX1_weigh : MethodName := ⟨RX1, "weigh", "()V"⟩
abbrev cX1_leastAt : ByteArray := prog_3_method_20_code
def yX1_leastAt : MethodName := ⟨RX1, "leastAt", "(II)I"⟩
abbrev cX1_tally : ByteArray := prog_3_method_21_code
def yX1_tally : MethodName := ⟨RX1, "tally", "()V"⟩
abbrev cX1_tallyPlace : ByteArray := prog_3_method_22_code
def yX1_tallyPlace : MethodName := ⟨RX1, "tallyPlace", "(II)V"⟩
abbrev cX1_trace : ByteArray := prog_3_method_23_code
def yX1_trace : MethodName := ⟨RX1, "trace", "()V"⟩
abbrev cX1_leastStepFrom : ByteArray := prog_3_method_24_code
def yX1_leastStepFrom : MethodName := ⟨RX1, "leastStepFrom", "(II)I"⟩
def RX2 : String := "TuneWords$Pad"
def TX2 : u_T := fun k => match k with
  | 0 => ("TuneWords$Pad", "signs", "[I", true)
  | _ => ("TuneWords$Pad", "size", "I", false)
def tyX2 : Nat → FieldType := fun k => match k with
  | 0 => .array .int
  | _ => .int
abbrev wsX20 : List Cond := u_ws RX2 TX2 2
theorem nmX2 : ∀ a, a < 2 → ∀ b, b < 2 → a ≠ b → (TX2 a).2.1 ≠ (TX2 b).2.1 := by decide +kernel
theorem tyX2_ok : ∀ k, k < 2 → parseFieldDescriptor (TX2 k).2.2.1 = some (tyX2 k) := by decide +kernel
abbrev cX2_init : ByteArray := prog_4_method_1_code
def yX2_init : MethodName := ⟨RX2, "<init>", "()V"⟩
abbrev cX2_put : ByteArray := prog_4_method_2_code
def yX2_put : MethodName := ⟨RX2, "put", "(I)V"⟩
abbrev cX2_clear : ByteArray := prog_4_method_3_code
def yX2_clear : MethodName := ⟨RX2, "clear", "()V"⟩
abbrev cX2_faultAsLine : ByteArray := prog_4_method_4_code
def yX2_faultAsLine : MethodName := ⟨RX2, "faultAsLine", "()I"⟩
abbrev cX2_faultAsTune : ByteArray := prog_4_method_5_code
def yX2_faultAsTune : MethodName := ⟨RX2, "faultAsTune", "()I"⟩
abbrev cX2_readLine : ByteArray := prog_4_method_6_code
def yX2_readLine : MethodName := ⟨RX2, "readLine", "(LTuneWords$Row;)V"⟩
abbrev cX2_readTune : ByteArray := prog_4_method_7_code
def yX2_readTune : MethodName := ⟨RX2, "readTune", "(LTuneWords$Row;)V"⟩
abbrev cX2_hasStepsOnly : ByteArray := prog_4_method_8_code
def yX2_hasStepsOnly : MethodName := ⟨RX2, "hasStepsOnly", "()Z"⟩
abbrev cX2_stepAt : ByteArray := prog_4_method_9_code
def yX2_stepAt : MethodName := ⟨RX2, "stepAt", "(I)I"⟩
def RX3 : String := "TuneWords$Row"
def TX3 : u_T := fun k => match k with
  | 0 => ("TuneWords$Row", "room", "I", true)
  | 1 => ("TuneWords$Row", "weights", "[I", true)
  | 2 => ("TuneWords$Row", "spans", "[I", true)
  | _ => ("TuneWords$Row", "size", "I", false)
def tyX3 : Nat → FieldType := fun k => match k with
  | 0 => .int
  | 1 => .array .int
  | 2 => .array .int
  | _ => .int
abbrev wsX30 : List Cond := u_ws RX3 TX3 4
theorem nmX3 : ∀ a, a < 4 → ∀ b, b < 4 → a ≠ b → (TX3 a).2.1 ≠ (TX3 b).2.1 := by decide +kernel
theorem tyX3_ok : ∀ k, k < 4 → parseFieldDescriptor (TX3 k).2.2.1 = some (tyX3 k) := by decide +kernel
abbrev cX3_init : ByteArray := prog_5_method_1_code
def yX3_init : MethodName := ⟨RX3, "<init>", "(I)V"⟩
abbrev cX3_clear : ByteArray := prog_5_method_2_code
def yX3_clear : MethodName := ⟨RX3, "clear", "()V"⟩
abbrev cX3_add : ByteArray := prog_5_method_3_code
def yX3_add : MethodName := ⟨RX3, "add", "(II)V"⟩
abbrev cX3_lengthenLast : ByteArray := prog_5_method_4_code
def yX3_lengthenLast : MethodName := ⟨RX3, "lengthenLast", "()V"⟩
abbrev cX3_addPlaces : ByteArray := prog_5_method_5_code
def yX3_addPlaces : MethodName := ⟨RX3, "addPlaces", "(LTuneWords$Row;II)V"⟩
abbrev cX3_copyFrom : ByteArray := prog_5_method_6_code
def yX3_copyFrom : MethodName := ⟨RX3, "copyFrom", "(LTuneWords$Row;)V"⟩
abbrev cX3_spansInAll : ByteArray := prog_5_method_7_code
def yX3_spansInAll : MethodName := ⟨RX3, "spansInAll", "()I"⟩
def RX4 : String := "TuneWords"
def TX4 : u_T := fun k => match k with
  | 0 => ("TuneWords", "pad", "LTuneWords$Pad;", true)
  | 1 => ("TuneWords", "book", "LTuneWords$Book;", true)
  | 2 => ("TuneWords", "images", "[LTuneWords$Book;", true)
  | 3 => ("TuneWords", "loom", "LTuneWords$Loom;", true)
  | _ => ("TuneWords", "keptImages", "I", false)
def tyX4 : Nat → FieldType := fun k => match k with
  | 0 => .object "TuneWords$Pad"
  | 1 => .object "TuneWords$Book"
  | 2 => .array (.object "TuneWords$Book")
  | 3 => .object "TuneWords$Loom"
  | _ => .int
abbrev wsX40 : List Cond := u_ws RX4 TX4 5
theorem nmX4 : ∀ a, a < 5 → ∀ b, b < 5 → a ≠ b → (TX4 a).2.1 ≠ (TX4 b).2.1 := by decide +kernel
theorem tyX4_ok : ∀ k, k < 5 → parseFieldDescriptor (TX4 k).2.2.1 = some (tyX4 k) := by decide +kernel
abbrev cX4_init : ByteArray := prog_1_method_1_code
def yX4_init : MethodName := ⟨RX4, "<init>", "()V"⟩
abbrev cX4_say : ByteArray := prog_1_method_2_code
def yX4_say : MethodName := ⟨RX4, "say", "(I)I"⟩
abbrev cX4_wipe : ByteArray := prog_1_method_3_code
def yX4_wipe : MethodName := ⟨RX4, "wipe", "()I"⟩
abbrev cX4_fault : ByteArray := prog_1_method_4_code
def yX4_fault : MethodName := ⟨RX4, "fault", "(I)I"⟩
abbrev cX4_line : ByteArray := prog_1_method_5_code
def yX4_line : MethodName := ⟨RX4, "line", "(I)I"⟩
abbrev cX4_tune : ByteArray := prog_1_method_6_code
def yX4_tune : MethodName := ⟨RX4, "tune", "(I)I"⟩
abbrev cX4_rule : ByteArray := prog_1_method_7_code
def yX4_rule : MethodName := ⟨RX4, "rule", "(II)I"⟩
abbrev cX4_syllable : ByteArray := prog_1_method_8_code
def yX4_syllable : MethodName := ⟨RX4, "syllable", "(III)I"⟩
abbrev cX4_note : ByteArray := prog_1_method_9_code
def yX4_note : MethodName := ⟨RX4, "note", "(III)I"⟩
abbrev cX4_cost : ByteArray := prog_1_method_10_code
def yX4_cost : MethodName := ⟨RX4, "cost", "(II)I"⟩
abbrev cX4_least : ByteArray := prog_1_method_11_code
def yX4_least : MethodName := ⟨RX4, "least", "(III)I"⟩
abbrev cX4_ways : ByteArray := prog_1_method_12_code
def yX4_ways : MethodName := ⟨RX4, "ways", "(III)I"⟩
abbrev cX4_sung : ByteArray := prog_1_method_13_code
def yX4_sung : MethodName := ⟨RX4, "sung", "(IIII)I"⟩
abbrev cX4_verse : ByteArray := prog_1_method_14_code
def yX4_verse : MethodName := ⟨RX4, "verse", "(I)I"⟩
abbrev cX4_best : ByteArray := prog_1_method_15_code
def yX4_best : MethodName := ⟨RX4, "best", "(I)I"⟩
abbrev cX4_turned : ByteArray := prog_1_method_16_code
def yX4_turned : MethodName := ⟨RX4, "turned", "(III)I"⟩
abbrev cX4_anew : ByteArray := prog_1_method_17_code
def yX4_anew : MethodName := ⟨RX4, "anew", "(III)I"⟩
abbrev cX4_image : ByteArray := prog_1_method_18_code
def yX4_image : MethodName := ⟨RX4, "image", "(I)I"⟩
abbrev cX4_restore : ByteArray := prog_1_method_19_code
def yX4_restore : MethodName := ⟨RX4, "restore", "(I)I"⟩
abbrev cX4_count : ByteArray := prog_1_method_20_code
def yX4_count : MethodName := ⟨RX4, "count", "(I)I"⟩
abbrev cX4_isWithin : ByteArray := prog_1_method_21_code
def yX4_isWithin : MethodName := ⟨RX4, "isWithin", "(III)Z"⟩
abbrev cX4_isLine : ByteArray := prog_1_method_22_code
def yX4_isLine : MethodName := ⟨RX4, "isLine", "(I)Z"⟩
abbrev cX4_isTune : ByteArray := prog_1_method_23_code
def yX4_isTune : MethodName := ⟨RX4, "isTune", "(I)Z"⟩
abbrev cX4_areKnown : ByteArray := prog_1_method_24_code
def yX4_areKnown : MethodName := ⟨RX4, "areKnown", "(II)Z"⟩
abbrev cX4_isCheaper : ByteArray := prog_1_method_25_code
def yX4_isCheaper : MethodName := ⟨RX4, "isCheaper", "(II)Z"⟩
abbrev cX4_partOf : ByteArray := prog_1_method_26_code
def yX4_partOf : MethodName := ⟨RX4, "partOf", "(LTuneWords$Row;II)I"⟩
abbrev cX4_verseOf : ByteArray := prog_1_method_27_code
def yX4_verseOf : MethodName := ⟨RX4, "verseOf", "(I)I"⟩
def RX5 : String := "TuneWordsModel"
def TX5 : u_T := fun k => match k with
  | 0 => ("TuneWordsModel", "state", "[I", true)
  | 1 => ("TuneWordsModel", "images", "[I", true)
  | 2 => ("TuneWordsModel", "isKept", "[Z", true)
  | 3 => ("TuneWordsModel", "pad", "[I", true)
  | 4 => ("TuneWordsModel", "said", "I", false)
  | 5 => ("TuneWordsModel", "stress", "[I", true)
  | 6 => ("TuneWordsModel", "isLong", "[I", true)
  | 7 => ("TuneWordsModel", "beat", "[I", true)
  | 8 => ("TuneWordsModel", "length", "[I", true)
  | 9 => ("TuneWordsModel", "syllables", "I", false)
  | 10 => ("TuneWordsModel", "notes", "I", false)
  | 11 => ("TuneWordsModel", "least", "[I", true)
  | 12 => ("TuneWordsModel", "most", "[I", true)
  | 13 => ("TuneWordsModel", "ways", "[I", true)
  | 14 => ("TuneWordsModel", "leastWays", "[I", true)
  | 15 => ("TuneWordsModel", "steps", "[I", true)
  | _ => ("TuneWordsModel", "stepMany", "I", false)
def tyX5 : Nat → FieldType := fun k => match k with
  | 0 => .array .int
  | 1 => .array .int
  | 2 => .array .boolean
  | 3 => .array .int
  | 4 => .int
  | 5 => .array .int
  | 6 => .array .int
  | 7 => .array .int
  | 8 => .array .int
  | 9 => .int
  | 10 => .int
  | 11 => .array .int
  | 12 => .array .int
  | 13 => .array .int
  | 14 => .array .int
  | 15 => .array .int
  | _ => .int
abbrev wsX50 : List Cond := u_ws RX5 TX5 17
theorem nmX5 : ∀ a, a < 17 → ∀ b, b < 17 → a ≠ b → (TX5 a).2.1 ≠ (TX5 b).2.1 := by decide +kernel
theorem tyX5_ok : ∀ k, k < 17 → parseFieldDescriptor (TX5 k).2.2.1 = some (tyX5 k) := by decide +kernel
abbrev cX5_init : ByteArray := prog_7_method_1_code
def yX5_init : MethodName := ⟨RX5, "<init>", "()V"⟩
abbrev cX5_in : ByteArray := prog_7_method_2_code
def yX5_in : MethodName := ⟨RX5, "in", "(III)Z"⟩
abbrev cX5_isLine : ByteArray := prog_7_method_3_code
def yX5_isLine : MethodName := ⟨RX5, "isLine", "(I)Z"⟩
abbrev cX5_isTune : ByteArray := prog_7_method_4_code
def yX5_isTune : MethodName := ⟨RX5, "isTune", "(I)Z"⟩
abbrev cX5_say : ByteArray := prog_7_method_5_code
def yX5_say : MethodName := ⟨RX5, "say", "(I)I"⟩
abbrev cX5_wipe : ByteArray := prog_7_method_6_code
def yX5_wipe : MethodName := ⟨RX5, "wipe", "()I"⟩
abbrev cX5_isFigure : ByteArray := prog_7_method_7_code
def yX5_isFigure : MethodName := ⟨RX5, "isFigure", "(III)Z"⟩
abbrev cX5_lineFault : ByteArray := prog_7_method_8_code
def yX5_lineFault : MethodName := ⟨RX5, "lineFault", "()I"⟩
abbrev cX5_tuneFault : ByteArray := prog_7_method_9_code
def yX5_tuneFault : MethodName := ⟨RX5, "tuneFault", "()I"⟩
abbrev cX5_fault : ByteArray := prog_7_method_10_code
def yX5_fault : MethodName := ⟨RX5, "fault", "(I)I"⟩
abbrev cX5_line : ByteArray := prog_7_method_11_code
def yX5_line : MethodName := ⟨RX5, "line", "(I)I"⟩
abbrev cX5_tune : ByteArray := prog_7_method_12_code
def yX5_tune : MethodName := ⟨RX5, "tune", "(I)I"⟩
abbrev cX5_rule : ByteArray := prog_7_method_13_code
def yX5_rule : MethodName := ⟨RX5, "rule", "(II)I"⟩
abbrev cX5_syllable : ByteArray := prog_7_method_14_code
def yX5_syllable : MethodName := ⟨RX5, "syllable", "(III)I"⟩
abbrev cX5_note : ByteArray := prog_7_method_15_code
def yX5_note : MethodName := ⟨RX5, "note", "(III)I"⟩
abbrev cX5_lay : ByteArray := prog_7_method_16_code
def yX5_lay : MethodName := ⟨RX5, "lay", "(III)V"⟩
abbrev cX5_fit : ByteArray := prog_7_method_17_code
def yX5_fit : MethodName := ⟨RX5, "fit", "(II)I"⟩
abbrev cX5_costOf : ByteArray := prog_7_method_18_code
def yX5_costOf : MethodName := ⟨RX5, "costOf", "(III)I"⟩
abbrev cX5_canStep : ByteArray := prog_7_method_19_code
def yX5_canStep : MethodName := ⟨RX5, "canStep", "(III)Z"⟩
abbrev cX5_syllablesOf : ByteArray := prog_7_method_20_code
def yX5_syllablesOf : MethodName := ⟨RX5, "syllablesOf", "(I)I"⟩
abbrev cX5_notesOf : ByteArray := prog_7_method_21_code
def yX5_notesOf : MethodName := ⟨RX5, "notesOf", "(I)I"⟩
abbrev cX5_at : ByteArray := prog_7_method_22_code
def yX5_at : MethodName := ⟨RX5, "at", "(II)I"⟩
abbrev cX5_take : ByteArray := prog_7_method_23_code
def yX5_take : MethodName := ⟨RX5, "take", "(III)V"⟩
abbrev cX5_layTable : ByteArray := prog_7_method_24_code
def yX5_layTable : MethodName := ⟨RX5, "layTable", "()V"⟩
abbrev cX5_go : ByteArray := prog_7_method_25_code
def yX5_go : MethodName := ⟨RX5, "go", "(III)V"⟩
abbrev cX5_stepOf : ByteArray := prog_7_method_26_code
def yX5_stepOf : MethodName := ⟨RX5, "stepOf", "(I)I"⟩
abbrev cX5_cost : ByteArray := prog_7_method_27_code
def yX5_cost : MethodName := ⟨RX5, "cost", "(II)I"⟩
abbrev cX5_nextStep : ByteArray := prog_7_method_28_code
def yX5_nextStep : MethodName := ⟨RX5, "nextStep", "(II)I"⟩
abbrev cX5_laySteps : ByteArray := prog_7_method_29_code
def yX5_laySteps : MethodName := ⟨RX5, "laySteps", "()V"⟩
abbrev cX5_least : ByteArray := prog_7_method_30_code
def yX5_least : MethodName := ⟨RX5, "least", "(III)I"⟩
abbrev cX5_ways : ByteArray := prog_7_method_31_code
def yX5_ways : MethodName := ⟨RX5, "ways", "(III)I"⟩
abbrev cX5_sung : ByteArray := prog_7_method_32_code
def yX5_sung : MethodName := ⟨RX5, "sung", "(IIII)I"⟩
abbrev cX5_verseOf : ByteArray := prog_7_method_33_code
def yX5_verseOf : MethodName := ⟨RX5, "verseOf", "(I)I"⟩
abbrev cX5_verse : ByteArray := prog_7_method_34_code
def yX5_verse : MethodName := ⟨RX5, "verse", "(I)I"⟩
abbrev cX5_best : ByteArray := prog_7_method_35_code
def yX5_best : MethodName := ⟨RX5, "best", "(I)I"⟩
abbrev cX5_turned : ByteArray := prog_7_method_36_code
def yX5_turned : MethodName := ⟨RX5, "turned", "(III)I"⟩
abbrev cX5_anew : ByteArray := prog_7_method_37_code
def yX5_anew : MethodName := ⟨RX5, "anew", "(III)I"⟩
abbrev cX5_image : ByteArray := prog_7_method_38_code
def yX5_image : MethodName := ⟨RX5, "image", "(I)I"⟩
abbrev cX5_restore : ByteArray := prog_7_method_39_code
def yX5_restore : MethodName := ⟨RX5, "restore", "(I)I"⟩
abbrev cX5_sumOf : ByteArray := prog_7_method_40_code
def yX5_sumOf : MethodName := ⟨RX5, "sumOf", "(II)I"⟩
abbrev cX5_lengths : ByteArray := prog_7_method_41_code
def yX5_lengths : MethodName := ⟨RX5, "lengths", "()I"⟩
abbrev cX5_count : ByteArray := prog_7_method_42_code
def yX5_count : MethodName := ⟨RX5, "count", "(I)I"⟩
def RJ9 : String := "java/lang/Math"
def TJ9 : u_T := fun k => match k with
  | _ => ("", "", "", false)
def tyJ9 : Nat → FieldType := fun k => match k with
  | _ => .int
abbrev wsJ90 : List Cond := u_ws RJ9 TJ9 0
theorem nmJ9 : ∀ a, a < 0 → ∀ b, b < 0 → a ≠ b → (TJ9 a).2.1 ≠ (TJ9 b).2.1 := by decide +kernel
theorem tyJ9_ok : ∀ k, k < 0 → parseFieldDescriptor (TJ9 k).2.2.1 = some (tyJ9 k) := by decide +kernel
abbrev cJ9_abs_0f7a4 : ByteArray := prog_8_method_59_code
def yJ9_abs_0f7a4 : MethodName := ⟨RJ9, "abs", "(I)I"⟩
abbrev cJ9_max_7cf53 : ByteArray := prog_8_method_65_code
def yJ9_max_7cf53 : MethodName := ⟨RJ9, "max", "(II)I"⟩
abbrev cJ9_min_7cf53 : ByteArray := prog_8_method_69_code
def yJ9_min_7cf53 : MethodName := ⟨RJ9, "min", "(II)I"⟩
def RJ10 : String := "java/lang/System"
def TJ10 : u_T := fun k => match k with
  | _ => ("", "", "", false)
def tyJ10 : Nat → FieldType := fun k => match k with
  | _ => .int
abbrev wsJ100 : List Cond := u_ws RJ10 TJ10 0
theorem nmJ10 : ∀ a, a < 0 → ∀ b, b < 0 → a ≠ b → (TJ10 a).2.1 ≠ (TJ10 b).2.1 := by decide +kernel
theorem tyJ10_ok : ∀ k, k < 0 → parseFieldDescriptor (TJ10 k).2.2.1 = some (tyJ10 k) := by decide +kernel
def RL : String := "TuneWordsLaw"
abbrev cL_law : ByteArray := code
def yL_law : MethodName := ⟨RL, "law", "([I)Z"⟩
abbrev classes : List vw_C := [(RX0, TX0, 3), (RX1, TX1, 11), (RX2, TX2, 2), (RX3, TX3, 4), (RX4, TX4, 5), (RX5, TX5, 17)]
def TBG : List Cond := lw_tbl.filter goodWord
theorem tb_of {w : Cond} (h : w ∈ lw_tbl) (g : goodWord w = true) : w ∈ TBG := List.mem_filter.mpr ⟨h, g⟩
theorem tb_all : TBG.all goodWord = true := List.all_eq_true.mpr fun _ h => (List.mem_filter.mp h).2
theorem tb_gi {y : MethodName} {b : ByteArray} {n : Nat} {r : Option FieldType} (hc : Cond.code y b n r ∈ TBG) : GoodIn TBG (Cond.code y b n r :: TBG) := by
  intro w hw
  have hm : w ∈ TBG := by
    rcases List.mem_cons.mp hw with h | h
    · rw [h]; exact hc
    · exact h
  exact ⟨hm, good_of_word (List.all_eq_true.mp tb_all w hm)⟩
def MF (y : MethodName) (b : ByteArray) (nl : Nat) (ret : Option FieldType) (n : Nat) : Prop := Cond.code y b nl ret ∈ TBG ∧ Cond.initialized y.cls ∈ TBG ∧ (y.cls ≠ "java/lang/invoke/MethodHandle" ∧ y.cls ≠ "java/lang/invoke/VarHandle" ∧ (parseMethodDescriptor y.desc).map (fun d => d.parameters.length) = some n)
end
section
theorem kn_L : Cond.initialized RL ∈ TBG := tb_of (List.mem_of_getElem? (i := 16) (by decide +kernel)) (by decide +kernel)
theorem kn_X4 : Cond.initialized RX4 ∈ TBG := tb_of (List.mem_of_getElem? (i := 17) (by decide +kernel)) (by decide +kernel)
theorem kn_X2 : Cond.initialized RX2 ∈ TBG := tb_of (List.mem_of_getElem? (i := 18) (by decide +kernel)) (by decide +kernel)
theorem kn_X0 : Cond.initialized RX0 ∈ TBG := tb_of (List.mem_of_getElem? (i := 19) (by decide +kernel)) (by decide +kernel)
theorem kn_X3 : Cond.initialized RX3 ∈ TBG := tb_of (List.mem_of_getElem? (i := 20) (by decide +kernel)) (by decide +kernel)
theorem kn_J9 : Cond.initialized RJ9 ∈ TBG := tb_of (List.mem_of_getElem? (i := 21) (by decide +kernel)) (by decide +kernel)
theorem kn_X1 : Cond.initialized RX1 ∈ TBG := tb_of (List.mem_of_getElem? (i := 22) (by decide +kernel)) (by decide +kernel)
theorem kn_X5 : Cond.initialized RX5 ∈ TBG := tb_of (List.mem_of_getElem? (i := 23) (by decide +kernel)) (by decide +kernel)
theorem kn_J10 : Cond.initialized RJ10 ∈ TBG := tb_of (List.mem_of_getElem? (i := 24) (by decide +kernel)) (by decide +kernel)
theorem kk_L_7 : Cond.classLink RL 7 RX4 ∈ TBG := tb_of (List.mem_of_getElem? (i := 25) (by decide +kernel)) (by decide +kernel)
theorem kt_X4 : Cond.instantiable RX4 5 ∈ TBG := tb_of (List.mem_of_getElem? (i := 26) (by decide +kernel)) (by decide +kernel)
theorem km_L_9 : Cond.methodLink RL 9 yX4_init ∈ TBG := tb_of (List.mem_of_getElem? (i := 27) (by decide +kernel)) (by decide +kernel)
theorem ki_yX4_init : Cond.instanceMethod yX4_init ∈ TBG := tb_of (List.mem_of_getElem? (i := 28) (by decide +kernel)) (by decide +kernel)
theorem kc_yX4_init : Cond.code yX4_init cX4_init 1 none ∈ TBG := tb_of (List.mem_of_getElem? (i := 29) (by decide +kernel)) (by decide +kernel)
theorem km_X4_3 : Cond.methodLink RX4 3 objectInit ∈ TBG := tb_of (List.mem_of_getElem? (i := 30) (by decide +kernel)) (by decide +kernel)
theorem ki_objectInit : Cond.instanceMethod objectInit ∈ TBG := tb_of (List.mem_of_getElem? (i := 31) (by decide +kernel)) (by decide +kernel)
theorem kc_objectInit : Cond.code objectInit object_method_1_code 1 none ∈ TBG := tb_of (List.mem_of_getElem? (i := 32) (by decide +kernel)) (by decide +kernel)
theorem kk_X4_9 : Cond.classLink RX4 9 RX2 ∈ TBG := tb_of (List.mem_of_getElem? (i := 33) (by decide +kernel)) (by decide +kernel)
theorem kt_X2 : Cond.instantiable RX2 2 ∈ TBG := tb_of (List.mem_of_getElem? (i := 34) (by decide +kernel)) (by decide +kernel)
theorem ki_yX2_init : Cond.instanceMethod yX2_init ∈ TBG := tb_of (List.mem_of_getElem? (i := 36) (by decide +kernel)) (by decide +kernel)
theorem kc_yX2_init : Cond.code yX2_init cX2_init 1 none ∈ TBG := tb_of (List.mem_of_getElem? (i := 37) (by decide +kernel)) (by decide +kernel)
theorem km_X2_3 : Cond.methodLink RX2 3 objectInit ∈ TBG := tb_of (List.mem_of_getElem? (i := 38) (by decide +kernel)) (by decide +kernel)
theorem kf_X2_9 : Cond.fieldLink RX2 9 RX2 "signs" "[I" ∈ TBG := tb_of (List.mem_of_getElem? (i := 39) (by decide +kernel)) (by decide +kernel)
theorem kf_X2_15 : Cond.fieldLink RX2 15 RX2 "size" "I" ∈ TBG := tb_of (List.mem_of_getElem? (i := 40) (by decide +kernel)) (by decide +kernel)
theorem kf_X4_42 : Cond.fieldLink RX4 42 RX2 "size" "I" ∈ TBG := tb_of (List.mem_of_getElem? (i := 41) (by decide +kernel)) (by decide +kernel)
theorem kf_X1_91 : Cond.fieldLink RX1 91 RX2 "size" "I" ∈ TBG := tb_of (List.mem_of_getElem? (i := 42) (by decide +kernel)) (by decide +kernel)
theorem ka_int : Cond.arrayClass .int ∈ TBG := tb_of (List.mem_of_getElem? (i := 48) (by decide +kernel)) (by decide +kernel)
theorem kk_X4_16 : Cond.classLink RX4 16 RX0 ∈ TBG := tb_of (List.mem_of_getElem? (i := 49) (by decide +kernel)) (by decide +kernel)
theorem kt_X0 : Cond.instantiable RX0 3 ∈ TBG := tb_of (List.mem_of_getElem? (i := 50) (by decide +kernel)) (by decide +kernel)
theorem km_X4_18 : Cond.methodLink RX4 18 yX0_init ∈ TBG := tb_of (List.mem_of_getElem? (i := 51) (by decide +kernel)) (by decide +kernel)
theorem ki_yX0_init : Cond.instanceMethod yX0_init ∈ TBG := tb_of (List.mem_of_getElem? (i := 52) (by decide +kernel)) (by decide +kernel)
theorem kc_yX0_init : Cond.code yX0_init cX0_init 2 none ∈ TBG := tb_of (List.mem_of_getElem? (i := 53) (by decide +kernel)) (by decide +kernel)
theorem km_X0_3 : Cond.methodLink RX0 3 objectInit ∈ TBG := tb_of (List.mem_of_getElem? (i := 54) (by decide +kernel)) (by decide +kernel)
theorem kk_X0_9 : Cond.classLink RX0 9 RX3 ∈ TBG := tb_of (List.mem_of_getElem? (i := 55) (by decide +kernel)) (by decide +kernel)
theorem kt_X3 : Cond.instantiable RX3 4 ∈ TBG := tb_of (List.mem_of_getElem? (i := 57) (by decide +kernel)) (by decide +kernel)
theorem km_X0_24 : Cond.methodLink RX0 24 yX3_init ∈ TBG := tb_of (List.mem_of_getElem? (i := 58) (by decide +kernel)) (by decide +kernel)
theorem ki_yX3_init : Cond.instanceMethod yX3_init ∈ TBG := tb_of (List.mem_of_getElem? (i := 59) (by decide +kernel)) (by decide +kernel)
theorem kc_yX3_init : Cond.code yX3_init cX3_init 2 none ∈ TBG := tb_of (List.mem_of_getElem? (i := 60) (by decide +kernel)) (by decide +kernel)
theorem km_X3_1 : Cond.methodLink RX3 1 objectInit ∈ TBG := tb_of (List.mem_of_getElem? (i := 61) (by decide +kernel)) (by decide +kernel)
theorem km_X3_13 : Cond.methodLink RX3 13 yJ9_max_7cf53 ∈ TBG := tb_of (List.mem_of_getElem? (i := 62) (by decide +kernel)) (by decide +kernel)
theorem ks_yJ9_max_7cf53 : Cond.static yJ9_max_7cf53 ∈ TBG := tb_of (List.mem_of_getElem? (i := 63) (by decide +kernel)) (by decide +kernel)
theorem kc_yJ9_max_7cf53 : Cond.code yJ9_max_7cf53 cJ9_max_7cf53 2 (some .int) ∈ TBG := tb_of (List.mem_of_getElem? (i := 64) (by decide +kernel)) (by decide +kernel)
theorem kf_X3_19 : Cond.fieldLink RX3 19 RX3 "room" "I" ∈ TBG := tb_of (List.mem_of_getElem? (i := 65) (by decide +kernel)) (by decide +kernel)
theorem kf_X3_22 : Cond.fieldLink RX3 22 RX3 "weights" "[I" ∈ TBG := tb_of (List.mem_of_getElem? (i := 66) (by decide +kernel)) (by decide +kernel)
theorem kf_X1_88 : Cond.fieldLink RX1 88 RX3 "weights" "[I" ∈ TBG := tb_of (List.mem_of_getElem? (i := 67) (by decide +kernel)) (by decide +kernel)
theorem kf_X4_156 : Cond.fieldLink RX4 156 RX3 "weights" "[I" ∈ TBG := tb_of (List.mem_of_getElem? (i := 68) (by decide +kernel)) (by decide +kernel)
theorem kf_X3_26 : Cond.fieldLink RX3 26 RX3 "spans" "[I" ∈ TBG := tb_of (List.mem_of_getElem? (i := 69) (by decide +kernel)) (by decide +kernel)
theorem kf_X1_141 : Cond.fieldLink RX1 141 RX3 "spans" "[I" ∈ TBG := tb_of (List.mem_of_getElem? (i := 70) (by decide +kernel)) (by decide +kernel)
theorem kf_X4_159 : Cond.fieldLink RX4 159 RX3 "spans" "[I" ∈ TBG := tb_of (List.mem_of_getElem? (i := 71) (by decide +kernel)) (by decide +kernel)
theorem kf_X3_7 : Cond.fieldLink RX3 7 RX3 "size" "I" ∈ TBG := tb_of (List.mem_of_getElem? (i := 72) (by decide +kernel)) (by decide +kernel)
theorem kf_X1_77 : Cond.fieldLink RX1 77 RX3 "size" "I" ∈ TBG := tb_of (List.mem_of_getElem? (i := 73) (by decide +kernel)) (by decide +kernel)
theorem kf_X0_37 : Cond.fieldLink RX0 37 RX3 "size" "I" ∈ TBG := tb_of (List.mem_of_getElem? (i := 74) (by decide +kernel)) (by decide +kernel)
theorem kf_X4_71 : Cond.fieldLink RX4 71 RX3 "size" "I" ∈ TBG := tb_of (List.mem_of_getElem? (i := 75) (by decide +kernel)) (by decide +kernel)
theorem kf_X0_11 : Cond.fieldLink RX0 11 RX0 "lines" "[LTuneWords$Row;" ∈ TBG := tb_of (List.mem_of_getElem? (i := 85) (by decide +kernel)) (by decide +kernel)
theorem kf_X1_54 : Cond.fieldLink RX1 54 RX0 "lines" "[LTuneWords$Row;" ∈ TBG := tb_of (List.mem_of_getElem? (i := 86) (by decide +kernel)) (by decide +kernel)
theorem kf_X4_63 : Cond.fieldLink RX4 63 RX0 "lines" "[LTuneWords$Row;" ∈ TBG := tb_of (List.mem_of_getElem? (i := 87) (by decide +kernel)) (by decide +kernel)
theorem kf_X0_17 : Cond.fieldLink RX0 17 RX0 "tunes" "[LTuneWords$Row;" ∈ TBG := tb_of (List.mem_of_getElem? (i := 88) (by decide +kernel)) (by decide +kernel)
theorem kf_X1_64 : Cond.fieldLink RX1 64 RX0 "tunes" "[LTuneWords$Row;" ∈ TBG := tb_of (List.mem_of_getElem? (i := 89) (by decide +kernel)) (by decide +kernel)
theorem kf_X4_77 : Cond.fieldLink RX4 77 RX0 "tunes" "[LTuneWords$Row;" ∈ TBG := tb_of (List.mem_of_getElem? (i := 90) (by decide +kernel)) (by decide +kernel)
theorem kf_X0_20 : Cond.fieldLink RX0 20 RX0 "rules" "[I" ∈ TBG := tb_of (List.mem_of_getElem? (i := 91) (by decide +kernel)) (by decide +kernel)
theorem kf_X1_67 : Cond.fieldLink RX1 67 RX0 "rules" "[I" ∈ TBG := tb_of (List.mem_of_getElem? (i := 92) (by decide +kernel)) (by decide +kernel)
theorem kf_X4_83 : Cond.fieldLink RX4 83 RX0 "rules" "[I" ∈ TBG := tb_of (List.mem_of_getElem? (i := 93) (by decide +kernel)) (by decide +kernel)
theorem kk_X4_27 : Cond.classLink RX4 27 RX1 ∈ TBG := tb_of (List.mem_of_getElem? (i := 102) (by decide +kernel)) (by decide +kernel)
theorem kt_X1 : Cond.instantiable RX1 11 ∈ TBG := tb_of (List.mem_of_getElem? (i := 103) (by decide +kernel)) (by decide +kernel)
theorem ki_yX1_init : Cond.instanceMethod yX1_init ∈ TBG := tb_of (List.mem_of_getElem? (i := 105) (by decide +kernel)) (by decide +kernel)
theorem kc_yX1_init : Cond.code yX1_init cX1_init 1 none ∈ TBG := tb_of (List.mem_of_getElem? (i := 106) (by decide +kernel)) (by decide +kernel)
theorem km_X1_3 : Cond.methodLink RX1 3 objectInit ∈ TBG := tb_of (List.mem_of_getElem? (i := 107) (by decide +kernel)) (by decide +kernel)
theorem kk_X1_9 : Cond.classLink RX1 9 RX3 ∈ TBG := tb_of (List.mem_of_getElem? (i := 108) (by decide +kernel)) (by decide +kernel)
theorem km_X1_11 : Cond.methodLink RX1 11 yX3_init ∈ TBG := tb_of (List.mem_of_getElem? (i := 109) (by decide +kernel)) (by decide +kernel)
theorem kk_X1_27 : Cond.classLink RX1 27 "[[I" ∈ TBG := tb_of (List.mem_of_getElem? (i := 110) (by decide +kernel)) (by decide +kernel)
theorem kf_X1_14 : Cond.fieldLink RX1 14 RX1 "words" "LTuneWords$Row;" ∈ TBG := tb_of (List.mem_of_getElem? (i := 112) (by decide +kernel)) (by decide +kernel)
theorem kf_X1_20 : Cond.fieldLink RX1 20 RX1 "melody" "LTuneWords$Row;" ∈ TBG := tb_of (List.mem_of_getElem? (i := 113) (by decide +kernel)) (by decide +kernel)
theorem kf_X1_23 : Cond.fieldLink RX1 23 RX1 "rules" "[I" ∈ TBG := tb_of (List.mem_of_getElem? (i := 114) (by decide +kernel)) (by decide +kernel)
theorem kf_X1_29 : Cond.fieldLink RX1 29 RX1 "leastFrom" "[[I" ∈ TBG := tb_of (List.mem_of_getElem? (i := 115) (by decide +kernel)) (by decide +kernel)
theorem kf_X1_32 : Cond.fieldLink RX1 32 RX1 "greatestFrom" "[[I" ∈ TBG := tb_of (List.mem_of_getElem? (i := 116) (by decide +kernel)) (by decide +kernel)
theorem kf_X1_35 : Cond.fieldLink RX1 35 RX1 "layingsFrom" "[[I" ∈ TBG := tb_of (List.mem_of_getElem? (i := 117) (by decide +kernel)) (by decide +kernel)
theorem kf_X1_38 : Cond.fieldLink RX1 38 RX1 "leastLayingsFrom" "[[I" ∈ TBG := tb_of (List.mem_of_getElem? (i := 118) (by decide +kernel)) (by decide +kernel)
theorem kf_X1_41 : Cond.fieldLink RX1 41 RX1 "steps" "[I" ∈ TBG := tb_of (List.mem_of_getElem? (i := 119) (by decide +kernel)) (by decide +kernel)
theorem kf_X1_44 : Cond.fieldLink RX1 44 RX1 "stepsTaken" "I" ∈ TBG := tb_of (List.mem_of_getElem? (i := 120) (by decide +kernel)) (by decide +kernel)
theorem kf_X1_48 : Cond.fieldLink RX1 48 RX1 "firstOn" "[I" ∈ TBG := tb_of (List.mem_of_getElem? (i := 121) (by decide +kernel)) (by decide +kernel)
theorem kf_X1_51 : Cond.fieldLink RX1 51 RX1 "howManyOn" "[I" ∈ TBG := tb_of (List.mem_of_getElem? (i := 122) (by decide +kernel)) (by decide +kernel)
theorem kf_X4_12 : Cond.fieldLink RX4 12 RX4 "pad" "LTuneWords$Pad;" ∈ TBG := tb_of (List.mem_of_getElem? (i := 146) (by decide +kernel)) (by decide +kernel)
theorem kf_X4_19 : Cond.fieldLink RX4 19 RX4 "book" "LTuneWords$Book;" ∈ TBG := tb_of (List.mem_of_getElem? (i := 147) (by decide +kernel)) (by decide +kernel)
theorem kf_X4_23 : Cond.fieldLink RX4 23 RX4 "images" "[LTuneWords$Book;" ∈ TBG := tb_of (List.mem_of_getElem? (i := 148) (by decide +kernel)) (by decide +kernel)
theorem kf_X4_30 : Cond.fieldLink RX4 30 RX4 "loom" "LTuneWords$Loom;" ∈ TBG := tb_of (List.mem_of_getElem? (i := 149) (by decide +kernel)) (by decide +kernel)
theorem kf_X4_34 : Cond.fieldLink RX4 34 RX4 "keptImages" "I" ∈ TBG := tb_of (List.mem_of_getElem? (i := 150) (by decide +kernel)) (by decide +kernel)
theorem km_L_13 : Cond.methodLink RL 13 yX4_say ∈ TBG := tb_of (List.mem_of_getElem? (i := 162) (by decide +kernel)) (by decide +kernel)
theorem ki_yX4_say : Cond.instanceMethod yX4_say ∈ TBG := tb_of (List.mem_of_getElem? (i := 163) (by decide +kernel)) (by decide +kernel)
theorem kl_yX4_say : Cond.selects RX4 yX4_say yX4_say ∈ TBG := tb_of (List.mem_of_getElem? (i := 164) (by decide +kernel)) (by decide +kernel)
theorem kc_yX4_say : Cond.code yX4_say cX4_say 2 (some .int) ∈ TBG := tb_of (List.mem_of_getElem? (i := 165) (by decide +kernel)) (by decide +kernel)
theorem km_X4_38 : Cond.methodLink RX4 38 yX4_isWithin ∈ TBG := tb_of (List.mem_of_getElem? (i := 166) (by decide +kernel)) (by decide +kernel)
theorem ks_yX4_isWithin : Cond.static yX4_isWithin ∈ TBG := tb_of (List.mem_of_getElem? (i := 167) (by decide +kernel)) (by decide +kernel)
theorem kc_yX4_isWithin : Cond.code yX4_isWithin cX4_isWithin 3 (some .boolean) ∈ TBG := tb_of (List.mem_of_getElem? (i := 168) (by decide +kernel)) (by decide +kernel)
theorem km_X4_45 : Cond.methodLink RX4 45 yX2_put ∈ TBG := tb_of (List.mem_of_getElem? (i := 169) (by decide +kernel)) (by decide +kernel)
theorem ki_yX2_put : Cond.instanceMethod yX2_put ∈ TBG := tb_of (List.mem_of_getElem? (i := 170) (by decide +kernel)) (by decide +kernel)
theorem kl_yX2_put : Cond.selects RX2 yX2_put yX2_put ∈ TBG := tb_of (List.mem_of_getElem? (i := 171) (by decide +kernel)) (by decide +kernel)
theorem kc_yX2_put : Cond.code yX2_put cX2_put 2 none ∈ TBG := tb_of (List.mem_of_getElem? (i := 172) (by decide +kernel)) (by decide +kernel)
theorem km_L_18 : Cond.methodLink RL 18 yX4_wipe ∈ TBG := tb_of (List.mem_of_getElem? (i := 173) (by decide +kernel)) (by decide +kernel)
theorem ki_yX4_wipe : Cond.instanceMethod yX4_wipe ∈ TBG := tb_of (List.mem_of_getElem? (i := 174) (by decide +kernel)) (by decide +kernel)
theorem kl_yX4_wipe : Cond.selects RX4 yX4_wipe yX4_wipe ∈ TBG := tb_of (List.mem_of_getElem? (i := 175) (by decide +kernel)) (by decide +kernel)
theorem kc_yX4_wipe : Cond.code yX4_wipe cX4_wipe 2 (some .int) ∈ TBG := tb_of (List.mem_of_getElem? (i := 176) (by decide +kernel)) (by decide +kernel)
theorem km_X4_49 : Cond.methodLink RX4 49 yX2_clear ∈ TBG := tb_of (List.mem_of_getElem? (i := 177) (by decide +kernel)) (by decide +kernel)
theorem ki_yX2_clear : Cond.instanceMethod yX2_clear ∈ TBG := tb_of (List.mem_of_getElem? (i := 178) (by decide +kernel)) (by decide +kernel)
theorem kl_yX2_clear : Cond.selects RX2 yX2_clear yX2_clear ∈ TBG := tb_of (List.mem_of_getElem? (i := 179) (by decide +kernel)) (by decide +kernel)
theorem kc_yX2_clear : Cond.code yX2_clear cX2_clear 1 none ∈ TBG := tb_of (List.mem_of_getElem? (i := 180) (by decide +kernel)) (by decide +kernel)
theorem km_L_23 : Cond.methodLink RL 23 yX4_fault ∈ TBG := tb_of (List.mem_of_getElem? (i := 181) (by decide +kernel)) (by decide +kernel)
theorem ki_yX4_fault : Cond.instanceMethod yX4_fault ∈ TBG := tb_of (List.mem_of_getElem? (i := 182) (by decide +kernel)) (by decide +kernel)
theorem kl_yX4_fault : Cond.selects RX4 yX4_fault yX4_fault ∈ TBG := tb_of (List.mem_of_getElem? (i := 183) (by decide +kernel)) (by decide +kernel)
theorem kc_yX4_fault : Cond.code yX4_fault cX4_fault 2 (some .int) ∈ TBG := tb_of (List.mem_of_getElem? (i := 184) (by decide +kernel)) (by decide +kernel)
theorem km_X4_52 : Cond.methodLink RX4 52 yX2_faultAsLine ∈ TBG := tb_of (List.mem_of_getElem? (i := 185) (by decide +kernel)) (by decide +kernel)
theorem ki_yX2_faultAsLine : Cond.instanceMethod yX2_faultAsLine ∈ TBG := tb_of (List.mem_of_getElem? (i := 186) (by decide +kernel)) (by decide +kernel)
theorem kl_yX2_faultAsLine : Cond.selects RX2 yX2_faultAsLine yX2_faultAsLine ∈ TBG := tb_of (List.mem_of_getElem? (i := 187) (by decide +kernel)) (by decide +kernel)
theorem kc_yX2_faultAsLine : Cond.code yX2_faultAsLine cX2_faultAsLine 4 (some .int) ∈ TBG := tb_of (List.mem_of_getElem? (i := 188) (by decide +kernel)) (by decide +kernel)
theorem km_X4_56 : Cond.methodLink RX4 56 yX2_faultAsTune ∈ TBG := tb_of (List.mem_of_getElem? (i := 190) (by decide +kernel)) (by decide +kernel)
theorem ki_yX2_faultAsTune : Cond.instanceMethod yX2_faultAsTune ∈ TBG := tb_of (List.mem_of_getElem? (i := 191) (by decide +kernel)) (by decide +kernel)
theorem kl_yX2_faultAsTune : Cond.selects RX2 yX2_faultAsTune yX2_faultAsTune ∈ TBG := tb_of (List.mem_of_getElem? (i := 192) (by decide +kernel)) (by decide +kernel)
theorem kc_yX2_faultAsTune : Cond.code yX2_faultAsTune cX2_faultAsTune 4 (some .int) ∈ TBG := tb_of (List.mem_of_getElem? (i := 193) (by decide +kernel)) (by decide +kernel)
theorem km_L_27 : Cond.methodLink RL 27 yX4_line ∈ TBG := tb_of (List.mem_of_getElem? (i := 194) (by decide +kernel)) (by decide +kernel)
theorem ki_yX4_line : Cond.instanceMethod yX4_line ∈ TBG := tb_of (List.mem_of_getElem? (i := 195) (by decide +kernel)) (by decide +kernel)
theorem kl_yX4_line : Cond.selects RX4 yX4_line yX4_line ∈ TBG := tb_of (List.mem_of_getElem? (i := 196) (by decide +kernel)) (by decide +kernel)
theorem kc_yX4_line : Cond.code yX4_line cX4_line 3 (some .int) ∈ TBG := tb_of (List.mem_of_getElem? (i := 197) (by decide +kernel)) (by decide +kernel)
theorem km_X4_59 : Cond.methodLink RX4 59 yX4_isLine ∈ TBG := tb_of (List.mem_of_getElem? (i := 198) (by decide +kernel)) (by decide +kernel)
theorem ks_yX4_isLine : Cond.static yX4_isLine ∈ TBG := tb_of (List.mem_of_getElem? (i := 199) (by decide +kernel)) (by decide +kernel)
theorem kc_yX4_isLine : Cond.code yX4_isLine cX4_isLine 1 (some .boolean) ∈ TBG := tb_of (List.mem_of_getElem? (i := 200) (by decide +kernel)) (by decide +kernel)
theorem km_X4_67 : Cond.methodLink RX4 67 yX2_readLine ∈ TBG := tb_of (List.mem_of_getElem? (i := 201) (by decide +kernel)) (by decide +kernel)
theorem ki_yX2_readLine : Cond.instanceMethod yX2_readLine ∈ TBG := tb_of (List.mem_of_getElem? (i := 202) (by decide +kernel)) (by decide +kernel)
theorem kl_yX2_readLine : Cond.selects RX2 yX2_readLine yX2_readLine ∈ TBG := tb_of (List.mem_of_getElem? (i := 203) (by decide +kernel)) (by decide +kernel)
theorem kc_yX2_readLine : Cond.code yX2_readLine cX2_readLine 3 none ∈ TBG := tb_of (List.mem_of_getElem? (i := 204) (by decide +kernel)) (by decide +kernel)
theorem km_X2_23 : Cond.methodLink RX2 23 yX3_clear ∈ TBG := tb_of (List.mem_of_getElem? (i := 205) (by decide +kernel)) (by decide +kernel)
theorem ki_yX3_clear : Cond.instanceMethod yX3_clear ∈ TBG := tb_of (List.mem_of_getElem? (i := 206) (by decide +kernel)) (by decide +kernel)
theorem kl_yX3_clear : Cond.selects RX3 yX3_clear yX3_clear ∈ TBG := tb_of (List.mem_of_getElem? (i := 207) (by decide +kernel)) (by decide +kernel)
theorem kc_yX3_clear : Cond.code yX3_clear cX3_clear 1 none ∈ TBG := tb_of (List.mem_of_getElem? (i := 208) (by decide +kernel)) (by decide +kernel)
theorem km_X2_28 : Cond.methodLink RX2 28 yX3_lengthenLast ∈ TBG := tb_of (List.mem_of_getElem? (i := 209) (by decide +kernel)) (by decide +kernel)
theorem ki_yX3_lengthenLast : Cond.instanceMethod yX3_lengthenLast ∈ TBG := tb_of (List.mem_of_getElem? (i := 210) (by decide +kernel)) (by decide +kernel)
theorem kl_yX3_lengthenLast : Cond.selects RX3 yX3_lengthenLast yX3_lengthenLast ∈ TBG := tb_of (List.mem_of_getElem? (i := 211) (by decide +kernel)) (by decide +kernel)
theorem kc_yX3_lengthenLast : Cond.code yX3_lengthenLast cX3_lengthenLast 1 none ∈ TBG := tb_of (List.mem_of_getElem? (i := 212) (by decide +kernel)) (by decide +kernel)
theorem km_X2_31 : Cond.methodLink RX2 31 yX3_add ∈ TBG := tb_of (List.mem_of_getElem? (i := 213) (by decide +kernel)) (by decide +kernel)
theorem ki_yX3_add : Cond.instanceMethod yX3_add ∈ TBG := tb_of (List.mem_of_getElem? (i := 214) (by decide +kernel)) (by decide +kernel)
theorem kl_yX3_add : Cond.selects RX3 yX3_add yX3_add ∈ TBG := tb_of (List.mem_of_getElem? (i := 215) (by decide +kernel)) (by decide +kernel)
theorem kc_yX3_add : Cond.code yX3_add cX3_add 3 none ∈ TBG := tb_of (List.mem_of_getElem? (i := 216) (by decide +kernel)) (by decide +kernel)
theorem km_L_31 : Cond.methodLink RL 31 yX4_tune ∈ TBG := tb_of (List.mem_of_getElem? (i := 217) (by decide +kernel)) (by decide +kernel)
theorem ki_yX4_tune : Cond.instanceMethod yX4_tune ∈ TBG := tb_of (List.mem_of_getElem? (i := 218) (by decide +kernel)) (by decide +kernel)
theorem kl_yX4_tune : Cond.selects RX4 yX4_tune yX4_tune ∈ TBG := tb_of (List.mem_of_getElem? (i := 219) (by decide +kernel)) (by decide +kernel)
theorem kc_yX4_tune : Cond.code yX4_tune cX4_tune 3 (some .int) ∈ TBG := tb_of (List.mem_of_getElem? (i := 220) (by decide +kernel)) (by decide +kernel)
theorem km_X4_74 : Cond.methodLink RX4 74 yX4_isTune ∈ TBG := tb_of (List.mem_of_getElem? (i := 221) (by decide +kernel)) (by decide +kernel)
theorem ks_yX4_isTune : Cond.static yX4_isTune ∈ TBG := tb_of (List.mem_of_getElem? (i := 222) (by decide +kernel)) (by decide +kernel)
theorem kc_yX4_isTune : Cond.code yX4_isTune cX4_isTune 1 (some .boolean) ∈ TBG := tb_of (List.mem_of_getElem? (i := 223) (by decide +kernel)) (by decide +kernel)
theorem km_X4_80 : Cond.methodLink RX4 80 yX2_readTune ∈ TBG := tb_of (List.mem_of_getElem? (i := 224) (by decide +kernel)) (by decide +kernel)
theorem ki_yX2_readTune : Cond.instanceMethod yX2_readTune ∈ TBG := tb_of (List.mem_of_getElem? (i := 225) (by decide +kernel)) (by decide +kernel)
theorem kl_yX2_readTune : Cond.selects RX2 yX2_readTune yX2_readTune ∈ TBG := tb_of (List.mem_of_getElem? (i := 226) (by decide +kernel)) (by decide +kernel)
theorem kc_yX2_readTune : Cond.code yX2_readTune cX2_readTune 3 none ∈ TBG := tb_of (List.mem_of_getElem? (i := 227) (by decide +kernel)) (by decide +kernel)
theorem km_L_35 : Cond.methodLink RL 35 yX4_rule ∈ TBG := tb_of (List.mem_of_getElem? (i := 228) (by decide +kernel)) (by decide +kernel)
theorem ki_yX4_rule : Cond.instanceMethod yX4_rule ∈ TBG := tb_of (List.mem_of_getElem? (i := 229) (by decide +kernel)) (by decide +kernel)
theorem kl_yX4_rule : Cond.selects RX4 yX4_rule yX4_rule ∈ TBG := tb_of (List.mem_of_getElem? (i := 230) (by decide +kernel)) (by decide +kernel)
theorem kc_yX4_rule : Cond.code yX4_rule cX4_rule 4 (some .int) ∈ TBG := tb_of (List.mem_of_getElem? (i := 231) (by decide +kernel)) (by decide +kernel)
theorem km_L_40 : Cond.methodLink RL 40 yX4_syllable ∈ TBG := tb_of (List.mem_of_getElem? (i := 232) (by decide +kernel)) (by decide +kernel)
theorem ki_yX4_syllable : Cond.instanceMethod yX4_syllable ∈ TBG := tb_of (List.mem_of_getElem? (i := 233) (by decide +kernel)) (by decide +kernel)
theorem kl_yX4_syllable : Cond.selects RX4 yX4_syllable yX4_syllable ∈ TBG := tb_of (List.mem_of_getElem? (i := 234) (by decide +kernel)) (by decide +kernel)
theorem kc_yX4_syllable : Cond.code yX4_syllable cX4_syllable 4 (some .int) ∈ TBG := tb_of (List.mem_of_getElem? (i := 235) (by decide +kernel)) (by decide +kernel)
theorem km_X4_87 : Cond.methodLink RX4 87 yX4_partOf ∈ TBG := tb_of (List.mem_of_getElem? (i := 236) (by decide +kernel)) (by decide +kernel)
theorem ks_yX4_partOf : Cond.static yX4_partOf ∈ TBG := tb_of (List.mem_of_getElem? (i := 237) (by decide +kernel)) (by decide +kernel)
theorem kc_yX4_partOf : Cond.code yX4_partOf cX4_partOf 3 (some .int) ∈ TBG := tb_of (List.mem_of_getElem? (i := 238) (by decide +kernel)) (by decide +kernel)
theorem km_L_45 : Cond.methodLink RL 45 yX4_note ∈ TBG := tb_of (List.mem_of_getElem? (i := 239) (by decide +kernel)) (by decide +kernel)
theorem ki_yX4_note : Cond.instanceMethod yX4_note ∈ TBG := tb_of (List.mem_of_getElem? (i := 240) (by decide +kernel)) (by decide +kernel)
theorem kl_yX4_note : Cond.selects RX4 yX4_note yX4_note ∈ TBG := tb_of (List.mem_of_getElem? (i := 241) (by decide +kernel)) (by decide +kernel)
theorem kc_yX4_note : Cond.code yX4_note cX4_note 4 (some .int) ∈ TBG := tb_of (List.mem_of_getElem? (i := 242) (by decide +kernel)) (by decide +kernel)
theorem km_L_49 : Cond.methodLink RL 49 yX4_cost ∈ TBG := tb_of (List.mem_of_getElem? (i := 243) (by decide +kernel)) (by decide +kernel)
theorem ki_yX4_cost : Cond.instanceMethod yX4_cost ∈ TBG := tb_of (List.mem_of_getElem? (i := 244) (by decide +kernel)) (by decide +kernel)
theorem kl_yX4_cost : Cond.selects RX4 yX4_cost yX4_cost ∈ TBG := tb_of (List.mem_of_getElem? (i := 245) (by decide +kernel)) (by decide +kernel)
theorem kc_yX4_cost : Cond.code yX4_cost cX4_cost 3 (some .int) ∈ TBG := tb_of (List.mem_of_getElem? (i := 246) (by decide +kernel)) (by decide +kernel)
theorem km_X4_91 : Cond.methodLink RX4 91 yX4_areKnown ∈ TBG := tb_of (List.mem_of_getElem? (i := 247) (by decide +kernel)) (by decide +kernel)
theorem ks_yX4_areKnown : Cond.static yX4_areKnown ∈ TBG := tb_of (List.mem_of_getElem? (i := 248) (by decide +kernel)) (by decide +kernel)
theorem kc_yX4_areKnown : Cond.code yX4_areKnown cX4_areKnown 2 (some .boolean) ∈ TBG := tb_of (List.mem_of_getElem? (i := 249) (by decide +kernel)) (by decide +kernel)
theorem km_X4_95 : Cond.methodLink RX4 95 yX2_hasStepsOnly ∈ TBG := tb_of (List.mem_of_getElem? (i := 250) (by decide +kernel)) (by decide +kernel)
theorem ki_yX2_hasStepsOnly : Cond.instanceMethod yX2_hasStepsOnly ∈ TBG := tb_of (List.mem_of_getElem? (i := 251) (by decide +kernel)) (by decide +kernel)
theorem kl_yX2_hasStepsOnly : Cond.selects RX2 yX2_hasStepsOnly yX2_hasStepsOnly ∈ TBG := tb_of (List.mem_of_getElem? (i := 252) (by decide +kernel)) (by decide +kernel)
theorem kc_yX2_hasStepsOnly : Cond.code yX2_hasStepsOnly cX2_hasStepsOnly 2 (some .boolean) ∈ TBG := tb_of (List.mem_of_getElem? (i := 253) (by decide +kernel)) (by decide +kernel)
theorem km_X2_35 : Cond.methodLink RX2 35 yX2_stepAt ∈ TBG := tb_of (List.mem_of_getElem? (i := 254) (by decide +kernel)) (by decide +kernel)
theorem ki_yX2_stepAt : Cond.instanceMethod yX2_stepAt ∈ TBG := tb_of (List.mem_of_getElem? (i := 255) (by decide +kernel)) (by decide +kernel)
theorem kl_yX2_stepAt : Cond.selects RX2 yX2_stepAt yX2_stepAt ∈ TBG := tb_of (List.mem_of_getElem? (i := 256) (by decide +kernel)) (by decide +kernel)
theorem kc_yX2_stepAt : Cond.code yX2_stepAt cX2_stepAt 2 (some .int) ∈ TBG := tb_of (List.mem_of_getElem? (i := 257) (by decide +kernel)) (by decide +kernel)
theorem km_X4_99 : Cond.methodLink RX4 99 yX1_take ∈ TBG := tb_of (List.mem_of_getElem? (i := 258) (by decide +kernel)) (by decide +kernel)
theorem ki_yX1_take : Cond.instanceMethod yX1_take ∈ TBG := tb_of (List.mem_of_getElem? (i := 259) (by decide +kernel)) (by decide +kernel)
theorem kl_yX1_take : Cond.selects RX1 yX1_take yX1_take ∈ TBG := tb_of (List.mem_of_getElem? (i := 260) (by decide +kernel)) (by decide +kernel)
theorem kc_yX1_take : Cond.code yX1_take cX1_take 4 none ∈ TBG := tb_of (List.mem_of_getElem? (i := 261) (by decide +kernel)) (by decide +kernel)
theorem km_X1_60 : Cond.methodLink RX1 60 yX3_copyFrom ∈ TBG := tb_of (List.mem_of_getElem? (i := 262) (by decide +kernel)) (by decide +kernel)
theorem ki_yX3_copyFrom : Cond.instanceMethod yX3_copyFrom ∈ TBG := tb_of (List.mem_of_getElem? (i := 263) (by decide +kernel)) (by decide +kernel)
theorem kl_yX3_copyFrom : Cond.selects RX3 yX3_copyFrom yX3_copyFrom ∈ TBG := tb_of (List.mem_of_getElem? (i := 264) (by decide +kernel)) (by decide +kernel)
theorem kc_yX3_copyFrom : Cond.code yX3_copyFrom cX3_copyFrom 2 none ∈ TBG := tb_of (List.mem_of_getElem? (i := 265) (by decide +kernel)) (by decide +kernel)
theorem km_X3_36 : Cond.methodLink RX3 36 yX3_clear ∈ TBG := tb_of (List.mem_of_getElem? (i := 266) (by decide +kernel)) (by decide +kernel)
theorem km_X3_39 : Cond.methodLink RX3 39 yX3_addPlaces ∈ TBG := tb_of (List.mem_of_getElem? (i := 267) (by decide +kernel)) (by decide +kernel)
theorem ki_yX3_addPlaces : Cond.instanceMethod yX3_addPlaces ∈ TBG := tb_of (List.mem_of_getElem? (i := 268) (by decide +kernel)) (by decide +kernel)
theorem kl_yX3_addPlaces : Cond.selects RX3 yX3_addPlaces yX3_addPlaces ∈ TBG := tb_of (List.mem_of_getElem? (i := 269) (by decide +kernel)) (by decide +kernel)
theorem kc_yX3_addPlaces : Cond.code yX3_addPlaces cX3_addPlaces 6 none ∈ TBG := tb_of (List.mem_of_getElem? (i := 270) (by decide +kernel)) (by decide +kernel)
theorem km_X3_29 : Cond.methodLink RX3 29 yJ9_min_7cf53 ∈ TBG := tb_of (List.mem_of_getElem? (i := 271) (by decide +kernel)) (by decide +kernel)
theorem ks_yJ9_min_7cf53 : Cond.static yJ9_min_7cf53 ∈ TBG := tb_of (List.mem_of_getElem? (i := 272) (by decide +kernel)) (by decide +kernel)
theorem kc_yJ9_min_7cf53 : Cond.code yJ9_min_7cf53 cJ9_min_7cf53 2 (some .int) ∈ TBG := tb_of (List.mem_of_getElem? (i := 273) (by decide +kernel)) (by decide +kernel)
theorem km_X3_32 : Cond.methodLink RX3 32 yX3_add ∈ TBG := tb_of (List.mem_of_getElem? (i := 274) (by decide +kernel)) (by decide +kernel)
theorem km_X1_68 : Cond.methodLink RX1 68 arraycopyName ∈ TBG := tb_of (List.mem_of_getElem? (i := 275) (by decide +kernel)) (by decide +kernel)
theorem ks_arraycopyName : Cond.static arraycopyName ∈ TBG := tb_of (List.mem_of_getElem? (i := 276) (by decide +kernel)) (by decide +kernel)
theorem kx_arraycopyName : Cond.native arraycopyName ∈ TBG := tb_of (List.mem_of_getElem? (i := 277) (by decide +kernel)) (by decide +kernel)
theorem km_X4_103 : Cond.methodLink RX4 103 yX1_costOf ∈ TBG := tb_of (List.mem_of_getElem? (i := 278) (by decide +kernel)) (by decide +kernel)
theorem ki_yX1_costOf : Cond.instanceMethod yX1_costOf ∈ TBG := tb_of (List.mem_of_getElem? (i := 279) (by decide +kernel)) (by decide +kernel)
theorem kl_yX1_costOf : Cond.selects RX1 yX1_costOf yX1_costOf ∈ TBG := tb_of (List.mem_of_getElem? (i := 280) (by decide +kernel)) (by decide +kernel)
theorem kc_yX1_costOf : Cond.code yX1_costOf cX1_costOf 7 (some .int) ∈ TBG := tb_of (List.mem_of_getElem? (i := 281) (by decide +kernel)) (by decide +kernel)
theorem km_X1_94 : Cond.methodLink RX1 94 yX2_stepAt ∈ TBG := tb_of (List.mem_of_getElem? (i := 282) (by decide +kernel)) (by decide +kernel)
theorem km_X1_98 : Cond.methodLink RX1 98 yX1_canStep ∈ TBG := tb_of (List.mem_of_getElem? (i := 283) (by decide +kernel)) (by decide +kernel)
theorem ki_yX1_canStep : Cond.instanceMethod yX1_canStep ∈ TBG := tb_of (List.mem_of_getElem? (i := 284) (by decide +kernel)) (by decide +kernel)
theorem kl_yX1_canStep : Cond.selects RX1 yX1_canStep yX1_canStep ∈ TBG := tb_of (List.mem_of_getElem? (i := 285) (by decide +kernel)) (by decide +kernel)
theorem kc_yX1_canStep : Cond.code yX1_canStep cX1_canStep 4 (some .boolean) ∈ TBG := tb_of (List.mem_of_getElem? (i := 286) (by decide +kernel)) (by decide +kernel)
theorem km_X1_101 : Cond.methodLink RX1 101 yX1_stepCost ∈ TBG := tb_of (List.mem_of_getElem? (i := 287) (by decide +kernel)) (by decide +kernel)
theorem ki_yX1_stepCost : Cond.instanceMethod yX1_stepCost ∈ TBG := tb_of (List.mem_of_getElem? (i := 288) (by decide +kernel)) (by decide +kernel)
theorem kl_yX1_stepCost : Cond.selects RX1 yX1_stepCost yX1_stepCost ∈ TBG := tb_of (List.mem_of_getElem? (i := 289) (by decide +kernel)) (by decide +kernel)
theorem kc_yX1_stepCost : Cond.code yX1_stepCost cX1_stepCost 7 (some .int) ∈ TBG := tb_of (List.mem_of_getElem? (i := 290) (by decide +kernel)) (by decide +kernel)
theorem km_X1_136 : Cond.methodLink RX1 136 yJ9_abs_0f7a4 ∈ TBG := tb_of (List.mem_of_getElem? (i := 291) (by decide +kernel)) (by decide +kernel)
theorem ks_yJ9_abs_0f7a4 : Cond.static yJ9_abs_0f7a4 ∈ TBG := tb_of (List.mem_of_getElem? (i := 292) (by decide +kernel)) (by decide +kernel)
theorem kc_yJ9_abs_0f7a4 : Cond.code yJ9_abs_0f7a4 cJ9_abs_0f7a4 1 (some .int) ∈ TBG := tb_of (List.mem_of_getElem? (i := 293) (by decide +kernel)) (by decide +kernel)
theorem km_X1_111 : Cond.methodLink RX1 111 yX1_isEnd ∈ TBG := tb_of (List.mem_of_getElem? (i := 298) (by decide +kernel)) (by decide +kernel)
theorem ki_yX1_isEnd : Cond.instanceMethod yX1_isEnd ∈ TBG := tb_of (List.mem_of_getElem? (i := 299) (by decide +kernel)) (by decide +kernel)
theorem kl_yX1_isEnd : Cond.selects RX1 yX1_isEnd yX1_isEnd ∈ TBG := tb_of (List.mem_of_getElem? (i := 300) (by decide +kernel)) (by decide +kernel)
theorem kc_yX1_isEnd : Cond.code yX1_isEnd cX1_isEnd 3 (some .boolean) ∈ TBG := tb_of (List.mem_of_getElem? (i := 301) (by decide +kernel)) (by decide +kernel)
theorem km_L_53 : Cond.methodLink RL 53 yX4_least ∈ TBG := tb_of (List.mem_of_getElem? (i := 302) (by decide +kernel)) (by decide +kernel)
theorem ki_yX4_least : Cond.instanceMethod yX4_least ∈ TBG := tb_of (List.mem_of_getElem? (i := 303) (by decide +kernel)) (by decide +kernel)
theorem kl_yX4_least : Cond.selects RX4 yX4_least yX4_least ∈ TBG := tb_of (List.mem_of_getElem? (i := 304) (by decide +kernel)) (by decide +kernel)
theorem kc_yX4_least : Cond.code yX4_least cX4_least 4 (some .int) ∈ TBG := tb_of (List.mem_of_getElem? (i := 305) (by decide +kernel)) (by decide +kernel)
theorem km_X4_107 : Cond.methodLink RX4 107 yX1_leastCost ∈ TBG := tb_of (List.mem_of_getElem? (i := 306) (by decide +kernel)) (by decide +kernel)
theorem ki_yX1_leastCost : Cond.instanceMethod yX1_leastCost ∈ TBG := tb_of (List.mem_of_getElem? (i := 307) (by decide +kernel)) (by decide +kernel)
theorem kl_yX1_leastCost : Cond.selects RX1 yX1_leastCost yX1_leastCost ∈ TBG := tb_of (List.mem_of_getElem? (i := 308) (by decide +kernel)) (by decide +kernel)
theorem kc_yX1_leastCost : Cond.code yX1_leastCost cX1_leastCost 1 (some .int) ∈ TBG := tb_of (List.mem_of_getElem? (i := 309) (by decide +kernel)) (by decide +kernel)
theorem km_X1_115 : Cond.methodLink RX1 115 yX1_hasLaying ∈ TBG := tb_of (List.mem_of_getElem? (i := 310) (by decide +kernel)) (by decide +kernel)
theorem ki_yX1_hasLaying : Cond.instanceMethod yX1_hasLaying ∈ TBG := tb_of (List.mem_of_getElem? (i := 311) (by decide +kernel)) (by decide +kernel)
theorem kl_yX1_hasLaying : Cond.selects RX1 yX1_hasLaying yX1_hasLaying ∈ TBG := tb_of (List.mem_of_getElem? (i := 312) (by decide +kernel)) (by decide +kernel)
theorem kc_yX1_hasLaying : Cond.code yX1_hasLaying cX1_hasLaying 1 (some .boolean) ∈ TBG := tb_of (List.mem_of_getElem? (i := 313) (by decide +kernel)) (by decide +kernel)
theorem km_X1_119 : Cond.methodLink RX1 119 yX1_weigh ∈ TBG := tb_of (List.mem_of_getElem? (i := 314) (by decide +kernel)) (by decide +kernel)
theorem ki_yX1_weigh : Cond.instanceMethod yX1_weigh ∈ TBG := tb_of (List.mem_of_getElem? (i := 315) (by decide +kernel)) (by decide +kernel)
theorem kl_yX1_weigh : Cond.selects RX1 yX1_weigh yX1_weigh ∈ TBG := tb_of (List.mem_of_getElem? (i := 316) (by decide +kernel)) (by decide +kernel)
theorem kc_yX1_weigh : Cond.code yX1_weigh cX1_weigh 3 none ∈ TBG := tb_of (List.mem_of_getElem? (i := 317) (by decide +kernel)) (by decide +kernel)
theorem km_X1_144 : Cond.methodLink RX1 144 yX1_leastAt ∈ TBG := tb_of (List.mem_of_getElem? (i := 318) (by decide +kernel)) (by decide +kernel)
theorem ki_yX1_leastAt : Cond.instanceMethod yX1_leastAt ∈ TBG := tb_of (List.mem_of_getElem? (i := 319) (by decide +kernel)) (by decide +kernel)
theorem kl_yX1_leastAt : Cond.selects RX1 yX1_leastAt yX1_leastAt ∈ TBG := tb_of (List.mem_of_getElem? (i := 320) (by decide +kernel)) (by decide +kernel)
theorem kc_yX1_leastAt : Cond.code yX1_leastAt cX1_leastAt 7 (some .int) ∈ TBG := tb_of (List.mem_of_getElem? (i := 321) (by decide +kernel)) (by decide +kernel)
theorem ks_yX4_isCheaper : Cond.static yX4_isCheaper ∈ TBG := tb_of (List.mem_of_getElem? (i := 323) (by decide +kernel)) (by decide +kernel)
theorem kc_yX4_isCheaper : Cond.code yX4_isCheaper cX4_isCheaper 2 (some .boolean) ∈ TBG := tb_of (List.mem_of_getElem? (i := 324) (by decide +kernel)) (by decide +kernel)
theorem km_X4_110 : Cond.methodLink RX4 110 yX1_leastStep ∈ TBG := tb_of (List.mem_of_getElem? (i := 325) (by decide +kernel)) (by decide +kernel)
theorem ki_yX1_leastStep : Cond.instanceMethod yX1_leastStep ∈ TBG := tb_of (List.mem_of_getElem? (i := 326) (by decide +kernel)) (by decide +kernel)
theorem kl_yX1_leastStep : Cond.selects RX1 yX1_leastStep yX1_leastStep ∈ TBG := tb_of (List.mem_of_getElem? (i := 327) (by decide +kernel)) (by decide +kernel)
theorem kc_yX1_leastStep : Cond.code yX1_leastStep cX1_leastStep 2 (some .int) ∈ TBG := tb_of (List.mem_of_getElem? (i := 328) (by decide +kernel)) (by decide +kernel)
theorem km_X1_129 : Cond.methodLink RX1 129 yX1_trace ∈ TBG := tb_of (List.mem_of_getElem? (i := 329) (by decide +kernel)) (by decide +kernel)
theorem ki_yX1_trace : Cond.instanceMethod yX1_trace ∈ TBG := tb_of (List.mem_of_getElem? (i := 330) (by decide +kernel)) (by decide +kernel)
theorem kl_yX1_trace : Cond.selects RX1 yX1_trace yX1_trace ∈ TBG := tb_of (List.mem_of_getElem? (i := 331) (by decide +kernel)) (by decide +kernel)
theorem kc_yX1_trace : Cond.code yX1_trace cX1_trace 5 none ∈ TBG := tb_of (List.mem_of_getElem? (i := 332) (by decide +kernel)) (by decide +kernel)
theorem km_X1_158 : Cond.methodLink RX1 158 yX1_leastStepFrom ∈ TBG := tb_of (List.mem_of_getElem? (i := 333) (by decide +kernel)) (by decide +kernel)
theorem ki_yX1_leastStepFrom : Cond.instanceMethod yX1_leastStepFrom ∈ TBG := tb_of (List.mem_of_getElem? (i := 334) (by decide +kernel)) (by decide +kernel)
theorem kl_yX1_leastStepFrom : Cond.selects RX1 yX1_leastStepFrom yX1_leastStepFrom ∈ TBG := tb_of (List.mem_of_getElem? (i := 335) (by decide +kernel)) (by decide +kernel)
theorem kc_yX1_leastStepFrom : Cond.code yX1_leastStepFrom cX1_leastStepFrom 5 (some .int) ∈ TBG := tb_of (List.mem_of_getElem? (i := 336) (by decide +kernel)) (by decide +kernel)
theorem km_L_57 : Cond.methodLink RL 57 yX4_ways ∈ TBG := tb_of (List.mem_of_getElem? (i := 338) (by decide +kernel)) (by decide +kernel)
theorem ki_yX4_ways : Cond.instanceMethod yX4_ways ∈ TBG := tb_of (List.mem_of_getElem? (i := 339) (by decide +kernel)) (by decide +kernel)
theorem kl_yX4_ways : Cond.selects RX4 yX4_ways yX4_ways ∈ TBG := tb_of (List.mem_of_getElem? (i := 340) (by decide +kernel)) (by decide +kernel)
theorem kc_yX4_ways : Cond.code yX4_ways cX4_ways 4 (some .int) ∈ TBG := tb_of (List.mem_of_getElem? (i := 341) (by decide +kernel)) (by decide +kernel)
theorem km_X4_114 : Cond.methodLink RX4 114 yX1_howManyLayings ∈ TBG := tb_of (List.mem_of_getElem? (i := 342) (by decide +kernel)) (by decide +kernel)
theorem ki_yX1_howManyLayings : Cond.instanceMethod yX1_howManyLayings ∈ TBG := tb_of (List.mem_of_getElem? (i := 343) (by decide +kernel)) (by decide +kernel)
theorem kl_yX1_howManyLayings : Cond.selects RX1 yX1_howManyLayings yX1_howManyLayings ∈ TBG := tb_of (List.mem_of_getElem? (i := 344) (by decide +kernel)) (by decide +kernel)
theorem kc_yX1_howManyLayings : Cond.code yX1_howManyLayings cX1_howManyLayings 1 (some .int) ∈ TBG := tb_of (List.mem_of_getElem? (i := 345) (by decide +kernel)) (by decide +kernel)
theorem km_X1_122 : Cond.methodLink RX1 122 yX1_tallied ∈ TBG := tb_of (List.mem_of_getElem? (i := 346) (by decide +kernel)) (by decide +kernel)
theorem ki_yX1_tallied : Cond.instanceMethod yX1_tallied ∈ TBG := tb_of (List.mem_of_getElem? (i := 347) (by decide +kernel)) (by decide +kernel)
theorem kl_yX1_tallied : Cond.selects RX1 yX1_tallied yX1_tallied ∈ TBG := tb_of (List.mem_of_getElem? (i := 348) (by decide +kernel)) (by decide +kernel)
theorem kc_yX1_tallied : Cond.code yX1_tallied cX1_tallied 3 (some .int) ∈ TBG := tb_of (List.mem_of_getElem? (i := 349) (by decide +kernel)) (by decide +kernel)
theorem km_X1_126 : Cond.methodLink RX1 126 yX1_tally ∈ TBG := tb_of (List.mem_of_getElem? (i := 350) (by decide +kernel)) (by decide +kernel)
theorem ki_yX1_tally : Cond.instanceMethod yX1_tally ∈ TBG := tb_of (List.mem_of_getElem? (i := 351) (by decide +kernel)) (by decide +kernel)
theorem kl_yX1_tally : Cond.selects RX1 yX1_tally yX1_tally ∈ TBG := tb_of (List.mem_of_getElem? (i := 352) (by decide +kernel)) (by decide +kernel)
theorem kc_yX1_tally : Cond.code yX1_tally cX1_tally 3 none ∈ TBG := tb_of (List.mem_of_getElem? (i := 353) (by decide +kernel)) (by decide +kernel)
theorem km_X1_151 : Cond.methodLink RX1 151 yX1_tallyPlace ∈ TBG := tb_of (List.mem_of_getElem? (i := 354) (by decide +kernel)) (by decide +kernel)
theorem ki_yX1_tallyPlace : Cond.instanceMethod yX1_tallyPlace ∈ TBG := tb_of (List.mem_of_getElem? (i := 355) (by decide +kernel)) (by decide +kernel)
theorem kl_yX1_tallyPlace : Cond.selects RX1 yX1_tallyPlace yX1_tallyPlace ∈ TBG := tb_of (List.mem_of_getElem? (i := 356) (by decide +kernel)) (by decide +kernel)
theorem kc_yX1_tallyPlace : Cond.code yX1_tallyPlace cX1_tallyPlace 10 none ∈ TBG := tb_of (List.mem_of_getElem? (i := 357) (by decide +kernel)) (by decide +kernel)
theorem km_X1_155 : Cond.methodLink RX1 155 yJ9_max_7cf53 ∈ TBG := tb_of (List.mem_of_getElem? (i := 358) (by decide +kernel)) (by decide +kernel)
theorem km_X4_117 : Cond.methodLink RX4 117 yX1_howManyLeast ∈ TBG := tb_of (List.mem_of_getElem? (i := 359) (by decide +kernel)) (by decide +kernel)
theorem ki_yX1_howManyLeast : Cond.instanceMethod yX1_howManyLeast ∈ TBG := tb_of (List.mem_of_getElem? (i := 360) (by decide +kernel)) (by decide +kernel)
theorem kl_yX1_howManyLeast : Cond.selects RX1 yX1_howManyLeast yX1_howManyLeast ∈ TBG := tb_of (List.mem_of_getElem? (i := 361) (by decide +kernel)) (by decide +kernel)
theorem kc_yX1_howManyLeast : Cond.code yX1_howManyLeast cX1_howManyLeast 1 (some .int) ∈ TBG := tb_of (List.mem_of_getElem? (i := 362) (by decide +kernel)) (by decide +kernel)
theorem km_X4_120 : Cond.methodLink RX4 120 yX1_greatestCost ∈ TBG := tb_of (List.mem_of_getElem? (i := 363) (by decide +kernel)) (by decide +kernel)
theorem ki_yX1_greatestCost : Cond.instanceMethod yX1_greatestCost ∈ TBG := tb_of (List.mem_of_getElem? (i := 364) (by decide +kernel)) (by decide +kernel)
theorem kl_yX1_greatestCost : Cond.selects RX1 yX1_greatestCost yX1_greatestCost ∈ TBG := tb_of (List.mem_of_getElem? (i := 365) (by decide +kernel)) (by decide +kernel)
theorem kc_yX1_greatestCost : Cond.code yX1_greatestCost cX1_greatestCost 1 (some .int) ∈ TBG := tb_of (List.mem_of_getElem? (i := 366) (by decide +kernel)) (by decide +kernel)
theorem km_L_61 : Cond.methodLink RL 61 yX4_sung ∈ TBG := tb_of (List.mem_of_getElem? (i := 367) (by decide +kernel)) (by decide +kernel)
theorem ki_yX4_sung : Cond.instanceMethod yX4_sung ∈ TBG := tb_of (List.mem_of_getElem? (i := 368) (by decide +kernel)) (by decide +kernel)
theorem kl_yX4_sung : Cond.selects RX4 yX4_sung yX4_sung ∈ TBG := tb_of (List.mem_of_getElem? (i := 369) (by decide +kernel)) (by decide +kernel)
theorem kc_yX4_sung : Cond.code yX4_sung cX4_sung 5 (some .int) ∈ TBG := tb_of (List.mem_of_getElem? (i := 370) (by decide +kernel)) (by decide +kernel)
theorem km_X4_123 : Cond.methodLink RX4 123 yX1_firstSungOn ∈ TBG := tb_of (List.mem_of_getElem? (i := 371) (by decide +kernel)) (by decide +kernel)
theorem ki_yX1_firstSungOn : Cond.instanceMethod yX1_firstSungOn ∈ TBG := tb_of (List.mem_of_getElem? (i := 372) (by decide +kernel)) (by decide +kernel)
theorem kl_yX1_firstSungOn : Cond.selects RX1 yX1_firstSungOn yX1_firstSungOn ∈ TBG := tb_of (List.mem_of_getElem? (i := 373) (by decide +kernel)) (by decide +kernel)
theorem kc_yX1_firstSungOn : Cond.code yX1_firstSungOn cX1_firstSungOn 2 (some .int) ∈ TBG := tb_of (List.mem_of_getElem? (i := 374) (by decide +kernel)) (by decide +kernel)
theorem km_X1_132 : Cond.methodLink RX1 132 yX1_traced ∈ TBG := tb_of (List.mem_of_getElem? (i := 375) (by decide +kernel)) (by decide +kernel)
theorem ki_yX1_traced : Cond.instanceMethod yX1_traced ∈ TBG := tb_of (List.mem_of_getElem? (i := 376) (by decide +kernel)) (by decide +kernel)
theorem kl_yX1_traced : Cond.selects RX1 yX1_traced yX1_traced ∈ TBG := tb_of (List.mem_of_getElem? (i := 377) (by decide +kernel)) (by decide +kernel)
theorem kc_yX1_traced : Cond.code yX1_traced cX1_traced 3 (some .int) ∈ TBG := tb_of (List.mem_of_getElem? (i := 378) (by decide +kernel)) (by decide +kernel)
theorem km_X4_126 : Cond.methodLink RX4 126 yX1_howManySungOn ∈ TBG := tb_of (List.mem_of_getElem? (i := 379) (by decide +kernel)) (by decide +kernel)
theorem ki_yX1_howManySungOn : Cond.instanceMethod yX1_howManySungOn ∈ TBG := tb_of (List.mem_of_getElem? (i := 380) (by decide +kernel)) (by decide +kernel)
theorem kl_yX1_howManySungOn : Cond.selects RX1 yX1_howManySungOn yX1_howManySungOn ∈ TBG := tb_of (List.mem_of_getElem? (i := 381) (by decide +kernel)) (by decide +kernel)
theorem kc_yX1_howManySungOn : Cond.code yX1_howManySungOn cX1_howManySungOn 2 (some .int) ∈ TBG := tb_of (List.mem_of_getElem? (i := 382) (by decide +kernel)) (by decide +kernel)
theorem km_L_66 : Cond.methodLink RL 66 yX4_verse ∈ TBG := tb_of (List.mem_of_getElem? (i := 383) (by decide +kernel)) (by decide +kernel)
theorem ki_yX4_verse : Cond.instanceMethod yX4_verse ∈ TBG := tb_of (List.mem_of_getElem? (i := 384) (by decide +kernel)) (by decide +kernel)
theorem kl_yX4_verse : Cond.selects RX4 yX4_verse yX4_verse ∈ TBG := tb_of (List.mem_of_getElem? (i := 385) (by decide +kernel)) (by decide +kernel)
theorem kc_yX4_verse : Cond.code yX4_verse cX4_verse 2 (some .int) ∈ TBG := tb_of (List.mem_of_getElem? (i := 386) (by decide +kernel)) (by decide +kernel)
theorem km_X4_129 : Cond.methodLink RX4 129 yX4_verseOf ∈ TBG := tb_of (List.mem_of_getElem? (i := 387) (by decide +kernel)) (by decide +kernel)
theorem ki_yX4_verseOf : Cond.instanceMethod yX4_verseOf ∈ TBG := tb_of (List.mem_of_getElem? (i := 389) (by decide +kernel)) (by decide +kernel)
theorem kc_yX4_verseOf : Cond.code yX4_verseOf cX4_verseOf 4 (some .int) ∈ TBG := tb_of (List.mem_of_getElem? (i := 390) (by decide +kernel)) (by decide +kernel)
theorem km_X4_147 : Cond.methodLink RX4 147 yX0_syllablesInAll ∈ TBG := tb_of (List.mem_of_getElem? (i := 391) (by decide +kernel)) (by decide +kernel)
theorem ki_yX0_syllablesInAll : Cond.instanceMethod yX0_syllablesInAll ∈ TBG := tb_of (List.mem_of_getElem? (i := 392) (by decide +kernel)) (by decide +kernel)
theorem kl_yX0_syllablesInAll : Cond.selects RX0 yX0_syllablesInAll yX0_syllablesInAll ∈ TBG := tb_of (List.mem_of_getElem? (i := 393) (by decide +kernel)) (by decide +kernel)
theorem kc_yX0_syllablesInAll : Cond.code yX0_syllablesInAll cX0_syllablesInAll 3 (some .int) ∈ TBG := tb_of (List.mem_of_getElem? (i := 394) (by decide +kernel)) (by decide +kernel)
theorem km_L_70 : Cond.methodLink RL 70 yX4_best ∈ TBG := tb_of (List.mem_of_getElem? (i := 395) (by decide +kernel)) (by decide +kernel)
theorem ki_yX4_best : Cond.instanceMethod yX4_best ∈ TBG := tb_of (List.mem_of_getElem? (i := 396) (by decide +kernel)) (by decide +kernel)
theorem kl_yX4_best : Cond.selects RX4 yX4_best yX4_best ∈ TBG := tb_of (List.mem_of_getElem? (i := 397) (by decide +kernel)) (by decide +kernel)
theorem kc_yX4_best : Cond.code yX4_best cX4_best 6 (some .int) ∈ TBG := tb_of (List.mem_of_getElem? (i := 398) (by decide +kernel)) (by decide +kernel)
theorem km_X4_132 : Cond.methodLink RX4 132 yX4_isCheaper ∈ TBG := tb_of (List.mem_of_getElem? (i := 399) (by decide +kernel)) (by decide +kernel)
theorem km_L_74 : Cond.methodLink RL 74 yX4_turned ∈ TBG := tb_of (List.mem_of_getElem? (i := 400) (by decide +kernel)) (by decide +kernel)
theorem ki_yX4_turned : Cond.instanceMethod yX4_turned ∈ TBG := tb_of (List.mem_of_getElem? (i := 401) (by decide +kernel)) (by decide +kernel)
theorem kl_yX4_turned : Cond.selects RX4 yX4_turned yX4_turned ∈ TBG := tb_of (List.mem_of_getElem? (i := 402) (by decide +kernel)) (by decide +kernel)
theorem kc_yX4_turned : Cond.code yX4_turned cX4_turned 9 (some .int) ∈ TBG := tb_of (List.mem_of_getElem? (i := 403) (by decide +kernel)) (by decide +kernel)
theorem km_X4_135 : Cond.methodLink RX4 135 yX1_turnTune ∈ TBG := tb_of (List.mem_of_getElem? (i := 404) (by decide +kernel)) (by decide +kernel)
theorem ki_yX1_turnTune : Cond.instanceMethod yX1_turnTune ∈ TBG := tb_of (List.mem_of_getElem? (i := 405) (by decide +kernel)) (by decide +kernel)
theorem kl_yX1_turnTune : Cond.selects RX1 yX1_turnTune yX1_turnTune ∈ TBG := tb_of (List.mem_of_getElem? (i := 406) (by decide +kernel)) (by decide +kernel)
theorem kc_yX1_turnTune : Cond.code yX1_turnTune cX1_turnTune 3 none ∈ TBG := tb_of (List.mem_of_getElem? (i := 407) (by decide +kernel)) (by decide +kernel)
theorem km_X1_74 : Cond.methodLink RX1 74 yX3_clear ∈ TBG := tb_of (List.mem_of_getElem? (i := 408) (by decide +kernel)) (by decide +kernel)
theorem km_X1_80 : Cond.methodLink RX1 80 yX3_addPlaces ∈ TBG := tb_of (List.mem_of_getElem? (i := 409) (by decide +kernel)) (by decide +kernel)
theorem km_L_78 : Cond.methodLink RL 78 yX4_anew ∈ TBG := tb_of (List.mem_of_getElem? (i := 410) (by decide +kernel)) (by decide +kernel)
theorem ki_yX4_anew : Cond.instanceMethod yX4_anew ∈ TBG := tb_of (List.mem_of_getElem? (i := 411) (by decide +kernel)) (by decide +kernel)
theorem kl_yX4_anew : Cond.selects RX4 yX4_anew yX4_anew ∈ TBG := tb_of (List.mem_of_getElem? (i := 412) (by decide +kernel)) (by decide +kernel)
theorem kc_yX4_anew : Cond.code yX4_anew cX4_anew 11 (some .int) ∈ TBG := tb_of (List.mem_of_getElem? (i := 413) (by decide +kernel)) (by decide +kernel)
theorem km_X4_139 : Cond.methodLink RX4 139 yX1_stressSyllable ∈ TBG := tb_of (List.mem_of_getElem? (i := 414) (by decide +kernel)) (by decide +kernel)
theorem ki_yX1_stressSyllable : Cond.instanceMethod yX1_stressSyllable ∈ TBG := tb_of (List.mem_of_getElem? (i := 415) (by decide +kernel)) (by decide +kernel)
theorem kl_yX1_stressSyllable : Cond.selects RX1 yX1_stressSyllable yX1_stressSyllable ∈ TBG := tb_of (List.mem_of_getElem? (i := 416) (by decide +kernel)) (by decide +kernel)
theorem kc_yX1_stressSyllable : Cond.code yX1_stressSyllable cX1_stressSyllable 3 none ∈ TBG := tb_of (List.mem_of_getElem? (i := 417) (by decide +kernel)) (by decide +kernel)
theorem km_L_82 : Cond.methodLink RL 82 yX4_image ∈ TBG := tb_of (List.mem_of_getElem? (i := 418) (by decide +kernel)) (by decide +kernel)
theorem ki_yX4_image : Cond.instanceMethod yX4_image ∈ TBG := tb_of (List.mem_of_getElem? (i := 419) (by decide +kernel)) (by decide +kernel)
theorem kl_yX4_image : Cond.selects RX4 yX4_image yX4_image ∈ TBG := tb_of (List.mem_of_getElem? (i := 420) (by decide +kernel)) (by decide +kernel)
theorem kc_yX4_image : Cond.code yX4_image cX4_image 2 (some .int) ∈ TBG := tb_of (List.mem_of_getElem? (i := 421) (by decide +kernel)) (by decide +kernel)
theorem km_X4_143 : Cond.methodLink RX4 143 yX0_copyFrom ∈ TBG := tb_of (List.mem_of_getElem? (i := 422) (by decide +kernel)) (by decide +kernel)
theorem ki_yX0_copyFrom : Cond.instanceMethod yX0_copyFrom ∈ TBG := tb_of (List.mem_of_getElem? (i := 423) (by decide +kernel)) (by decide +kernel)
theorem kl_yX0_copyFrom : Cond.selects RX0 yX0_copyFrom yX0_copyFrom ∈ TBG := tb_of (List.mem_of_getElem? (i := 424) (by decide +kernel)) (by decide +kernel)
theorem kc_yX0_copyFrom : Cond.code yX0_copyFrom cX0_copyFrom 3 none ∈ TBG := tb_of (List.mem_of_getElem? (i := 425) (by decide +kernel)) (by decide +kernel)
theorem km_X0_27 : Cond.methodLink RX0 27 yX3_copyFrom ∈ TBG := tb_of (List.mem_of_getElem? (i := 426) (by decide +kernel)) (by decide +kernel)
theorem km_X0_31 : Cond.methodLink RX0 31 arraycopyName ∈ TBG := tb_of (List.mem_of_getElem? (i := 427) (by decide +kernel)) (by decide +kernel)
theorem km_L_86 : Cond.methodLink RL 86 yX4_restore ∈ TBG := tb_of (List.mem_of_getElem? (i := 428) (by decide +kernel)) (by decide +kernel)
theorem ki_yX4_restore : Cond.instanceMethod yX4_restore ∈ TBG := tb_of (List.mem_of_getElem? (i := 429) (by decide +kernel)) (by decide +kernel)
theorem kl_yX4_restore : Cond.selects RX4 yX4_restore yX4_restore ∈ TBG := tb_of (List.mem_of_getElem? (i := 430) (by decide +kernel)) (by decide +kernel)
theorem kc_yX4_restore : Cond.code yX4_restore cX4_restore 2 (some .int) ∈ TBG := tb_of (List.mem_of_getElem? (i := 431) (by decide +kernel)) (by decide +kernel)
theorem km_L_90 : Cond.methodLink RL 90 yX4_count ∈ TBG := tb_of (List.mem_of_getElem? (i := 432) (by decide +kernel)) (by decide +kernel)
theorem ki_yX4_count : Cond.instanceMethod yX4_count ∈ TBG := tb_of (List.mem_of_getElem? (i := 433) (by decide +kernel)) (by decide +kernel)
theorem kl_yX4_count : Cond.selects RX4 yX4_count yX4_count ∈ TBG := tb_of (List.mem_of_getElem? (i := 434) (by decide +kernel)) (by decide +kernel)
theorem kc_yX4_count : Cond.code yX4_count cX4_count 2 (some .int) ∈ TBG := tb_of (List.mem_of_getElem? (i := 435) (by decide +kernel)) (by decide +kernel)
theorem km_X4_150 : Cond.methodLink RX4 150 yX0_notesInAll ∈ TBG := tb_of (List.mem_of_getElem? (i := 436) (by decide +kernel)) (by decide +kernel)
theorem ki_yX0_notesInAll : Cond.instanceMethod yX0_notesInAll ∈ TBG := tb_of (List.mem_of_getElem? (i := 437) (by decide +kernel)) (by decide +kernel)
theorem kl_yX0_notesInAll : Cond.selects RX0 yX0_notesInAll yX0_notesInAll ∈ TBG := tb_of (List.mem_of_getElem? (i := 438) (by decide +kernel)) (by decide +kernel)
theorem kc_yX0_notesInAll : Cond.code yX0_notesInAll cX0_notesInAll 3 (some .int) ∈ TBG := tb_of (List.mem_of_getElem? (i := 439) (by decide +kernel)) (by decide +kernel)
theorem km_X4_153 : Cond.methodLink RX4 153 yX0_lengthsInAll ∈ TBG := tb_of (List.mem_of_getElem? (i := 440) (by decide +kernel)) (by decide +kernel)
theorem ki_yX0_lengthsInAll : Cond.instanceMethod yX0_lengthsInAll ∈ TBG := tb_of (List.mem_of_getElem? (i := 441) (by decide +kernel)) (by decide +kernel)
theorem kl_yX0_lengthsInAll : Cond.selects RX0 yX0_lengthsInAll yX0_lengthsInAll ∈ TBG := tb_of (List.mem_of_getElem? (i := 442) (by decide +kernel)) (by decide +kernel)
theorem kc_yX0_lengthsInAll : Cond.code yX0_lengthsInAll cX0_lengthsInAll 3 (some .int) ∈ TBG := tb_of (List.mem_of_getElem? (i := 443) (by decide +kernel)) (by decide +kernel)
theorem km_X0_41 : Cond.methodLink RX0 41 yX3_spansInAll ∈ TBG := tb_of (List.mem_of_getElem? (i := 444) (by decide +kernel)) (by decide +kernel)
theorem ki_yX3_spansInAll : Cond.instanceMethod yX3_spansInAll ∈ TBG := tb_of (List.mem_of_getElem? (i := 445) (by decide +kernel)) (by decide +kernel)
theorem kl_yX3_spansInAll : Cond.selects RX3 yX3_spansInAll yX3_spansInAll ∈ TBG := tb_of (List.mem_of_getElem? (i := 446) (by decide +kernel)) (by decide +kernel)
theorem kc_yX3_spansInAll : Cond.code yX3_spansInAll cX3_spansInAll 3 (some .int) ∈ TBG := tb_of (List.mem_of_getElem? (i := 447) (by decide +kernel)) (by decide +kernel)
theorem kk_L_10 : Cond.classLink RL 10 RX5 ∈ TBG := tb_of (List.mem_of_getElem? (i := 448) (by decide +kernel)) (by decide +kernel)
theorem kt_X5 : Cond.instantiable RX5 17 ∈ TBG := tb_of (List.mem_of_getElem? (i := 449) (by decide +kernel)) (by decide +kernel)
theorem km_L_12 : Cond.methodLink RL 12 yX5_init ∈ TBG := tb_of (List.mem_of_getElem? (i := 450) (by decide +kernel)) (by decide +kernel)
theorem ki_yX5_init : Cond.instanceMethod yX5_init ∈ TBG := tb_of (List.mem_of_getElem? (i := 451) (by decide +kernel)) (by decide +kernel)
theorem kc_yX5_init : Cond.code yX5_init cX5_init 1 none ∈ TBG := tb_of (List.mem_of_getElem? (i := 452) (by decide +kernel)) (by decide +kernel)
theorem km_X5_1 : Cond.methodLink RX5 1 objectInit ∈ TBG := tb_of (List.mem_of_getElem? (i := 453) (by decide +kernel)) (by decide +kernel)
theorem kf_X5_7 : Cond.fieldLink RX5 7 RX5 "state" "[I" ∈ TBG := tb_of (List.mem_of_getElem? (i := 454) (by decide +kernel)) (by decide +kernel)
theorem kf_X5_13 : Cond.fieldLink RX5 13 RX5 "images" "[I" ∈ TBG := tb_of (List.mem_of_getElem? (i := 455) (by decide +kernel)) (by decide +kernel)
theorem kf_X5_16 : Cond.fieldLink RX5 16 RX5 "isKept" "[Z" ∈ TBG := tb_of (List.mem_of_getElem? (i := 456) (by decide +kernel)) (by decide +kernel)
theorem kf_X5_20 : Cond.fieldLink RX5 20 RX5 "pad" "[I" ∈ TBG := tb_of (List.mem_of_getElem? (i := 457) (by decide +kernel)) (by decide +kernel)
theorem kf_X5_54 : Cond.fieldLink RX5 54 RX5 "said" "I" ∈ TBG := tb_of (List.mem_of_getElem? (i := 458) (by decide +kernel)) (by decide +kernel)
theorem kf_X5_23 : Cond.fieldLink RX5 23 RX5 "stress" "[I" ∈ TBG := tb_of (List.mem_of_getElem? (i := 459) (by decide +kernel)) (by decide +kernel)
theorem kf_X5_26 : Cond.fieldLink RX5 26 RX5 "isLong" "[I" ∈ TBG := tb_of (List.mem_of_getElem? (i := 460) (by decide +kernel)) (by decide +kernel)
theorem kf_X5_29 : Cond.fieldLink RX5 29 RX5 "beat" "[I" ∈ TBG := tb_of (List.mem_of_getElem? (i := 461) (by decide +kernel)) (by decide +kernel)
theorem kf_X5_32 : Cond.fieldLink RX5 32 RX5 "length" "[I" ∈ TBG := tb_of (List.mem_of_getElem? (i := 462) (by decide +kernel)) (by decide +kernel)
theorem kf_X5_75 : Cond.fieldLink RX5 75 RX5 "syllables" "I" ∈ TBG := tb_of (List.mem_of_getElem? (i := 463) (by decide +kernel)) (by decide +kernel)
theorem kf_X5_78 : Cond.fieldLink RX5 78 RX5 "notes" "I" ∈ TBG := tb_of (List.mem_of_getElem? (i := 464) (by decide +kernel)) (by decide +kernel)
theorem kf_X5_35 : Cond.fieldLink RX5 35 RX5 "least" "[I" ∈ TBG := tb_of (List.mem_of_getElem? (i := 465) (by decide +kernel)) (by decide +kernel)
theorem kf_X5_38 : Cond.fieldLink RX5 38 RX5 "most" "[I" ∈ TBG := tb_of (List.mem_of_getElem? (i := 466) (by decide +kernel)) (by decide +kernel)
theorem kf_X5_41 : Cond.fieldLink RX5 41 RX5 "ways" "[I" ∈ TBG := tb_of (List.mem_of_getElem? (i := 467) (by decide +kernel)) (by decide +kernel)
theorem kf_X5_44 : Cond.fieldLink RX5 44 RX5 "leastWays" "[I" ∈ TBG := tb_of (List.mem_of_getElem? (i := 468) (by decide +kernel)) (by decide +kernel)
theorem kf_X5_47 : Cond.fieldLink RX5 47 RX5 "steps" "[I" ∈ TBG := tb_of (List.mem_of_getElem? (i := 469) (by decide +kernel)) (by decide +kernel)
theorem kf_X5_115 : Cond.fieldLink RX5 115 RX5 "stepMany" "I" ∈ TBG := tb_of (List.mem_of_getElem? (i := 470) (by decide +kernel)) (by decide +kernel)
theorem ka_boolean : Cond.arrayClass .boolean ∈ TBG := tb_of (List.mem_of_getElem? (i := 506) (by decide +kernel)) (by decide +kernel)
theorem km_L_17 : Cond.methodLink RL 17 yX5_say ∈ TBG := tb_of (List.mem_of_getElem? (i := 507) (by decide +kernel)) (by decide +kernel)
theorem ki_yX5_say : Cond.instanceMethod yX5_say ∈ TBG := tb_of (List.mem_of_getElem? (i := 508) (by decide +kernel)) (by decide +kernel)
theorem kl_yX5_say : Cond.selects RX5 yX5_say yX5_say ∈ TBG := tb_of (List.mem_of_getElem? (i := 509) (by decide +kernel)) (by decide +kernel)
theorem kc_yX5_say : Cond.code yX5_say cX5_say 2 (some .int) ∈ TBG := tb_of (List.mem_of_getElem? (i := 510) (by decide +kernel)) (by decide +kernel)
theorem km_X5_50 : Cond.methodLink RX5 50 yX5_in ∈ TBG := tb_of (List.mem_of_getElem? (i := 511) (by decide +kernel)) (by decide +kernel)
theorem ks_yX5_in : Cond.static yX5_in ∈ TBG := tb_of (List.mem_of_getElem? (i := 512) (by decide +kernel)) (by decide +kernel)
theorem kc_yX5_in : Cond.code yX5_in cX5_in 3 (some .boolean) ∈ TBG := tb_of (List.mem_of_getElem? (i := 513) (by decide +kernel)) (by decide +kernel)
theorem km_L_22 : Cond.methodLink RL 22 yX5_wipe ∈ TBG := tb_of (List.mem_of_getElem? (i := 514) (by decide +kernel)) (by decide +kernel)
theorem ki_yX5_wipe : Cond.instanceMethod yX5_wipe ∈ TBG := tb_of (List.mem_of_getElem? (i := 515) (by decide +kernel)) (by decide +kernel)
theorem kl_yX5_wipe : Cond.selects RX5 yX5_wipe yX5_wipe ∈ TBG := tb_of (List.mem_of_getElem? (i := 516) (by decide +kernel)) (by decide +kernel)
theorem kc_yX5_wipe : Cond.code yX5_wipe cX5_wipe 2 (some .int) ∈ TBG := tb_of (List.mem_of_getElem? (i := 517) (by decide +kernel)) (by decide +kernel)
theorem km_L_26 : Cond.methodLink RL 26 yX5_fault ∈ TBG := tb_of (List.mem_of_getElem? (i := 518) (by decide +kernel)) (by decide +kernel)
theorem ki_yX5_fault : Cond.instanceMethod yX5_fault ∈ TBG := tb_of (List.mem_of_getElem? (i := 519) (by decide +kernel)) (by decide +kernel)
theorem kl_yX5_fault : Cond.selects RX5 yX5_fault yX5_fault ∈ TBG := tb_of (List.mem_of_getElem? (i := 520) (by decide +kernel)) (by decide +kernel)
theorem kc_yX5_fault : Cond.code yX5_fault cX5_fault 2 (some .int) ∈ TBG := tb_of (List.mem_of_getElem? (i := 521) (by decide +kernel)) (by decide +kernel)
theorem km_X5_61 : Cond.methodLink RX5 61 yX5_lineFault ∈ TBG := tb_of (List.mem_of_getElem? (i := 522) (by decide +kernel)) (by decide +kernel)
theorem ki_yX5_lineFault : Cond.instanceMethod yX5_lineFault ∈ TBG := tb_of (List.mem_of_getElem? (i := 524) (by decide +kernel)) (by decide +kernel)
theorem kc_yX5_lineFault : Cond.code yX5_lineFault cX5_lineFault 5 (some .int) ∈ TBG := tb_of (List.mem_of_getElem? (i := 525) (by decide +kernel)) (by decide +kernel)
theorem km_X5_58 : Cond.methodLink RX5 58 yX5_isFigure ∈ TBG := tb_of (List.mem_of_getElem? (i := 526) (by decide +kernel)) (by decide +kernel)
theorem ki_yX5_isFigure : Cond.instanceMethod yX5_isFigure ∈ TBG := tb_of (List.mem_of_getElem? (i := 528) (by decide +kernel)) (by decide +kernel)
theorem kc_yX5_isFigure : Cond.code yX5_isFigure cX5_isFigure 4 (some .boolean) ∈ TBG := tb_of (List.mem_of_getElem? (i := 529) (by decide +kernel)) (by decide +kernel)
theorem km_X5_65 : Cond.methodLink RX5 65 yX5_tuneFault ∈ TBG := tb_of (List.mem_of_getElem? (i := 530) (by decide +kernel)) (by decide +kernel)
theorem ki_yX5_tuneFault : Cond.instanceMethod yX5_tuneFault ∈ TBG := tb_of (List.mem_of_getElem? (i := 532) (by decide +kernel)) (by decide +kernel)
theorem kc_yX5_tuneFault : Cond.code yX5_tuneFault cX5_tuneFault 3 (some .int) ∈ TBG := tb_of (List.mem_of_getElem? (i := 533) (by decide +kernel)) (by decide +kernel)
theorem km_L_30 : Cond.methodLink RL 30 yX5_line ∈ TBG := tb_of (List.mem_of_getElem? (i := 534) (by decide +kernel)) (by decide +kernel)
theorem ki_yX5_line : Cond.instanceMethod yX5_line ∈ TBG := tb_of (List.mem_of_getElem? (i := 535) (by decide +kernel)) (by decide +kernel)
theorem kl_yX5_line : Cond.selects RX5 yX5_line yX5_line ∈ TBG := tb_of (List.mem_of_getElem? (i := 536) (by decide +kernel)) (by decide +kernel)
theorem kc_yX5_line : Cond.code yX5_line cX5_line 4 (some .int) ∈ TBG := tb_of (List.mem_of_getElem? (i := 537) (by decide +kernel)) (by decide +kernel)
theorem km_X5_68 : Cond.methodLink RX5 68 yX5_isLine ∈ TBG := tb_of (List.mem_of_getElem? (i := 538) (by decide +kernel)) (by decide +kernel)
theorem ks_yX5_isLine : Cond.static yX5_isLine ∈ TBG := tb_of (List.mem_of_getElem? (i := 539) (by decide +kernel)) (by decide +kernel)
theorem kc_yX5_isLine : Cond.code yX5_isLine cX5_isLine 1 (some .boolean) ∈ TBG := tb_of (List.mem_of_getElem? (i := 540) (by decide +kernel)) (by decide +kernel)
theorem km_L_34 : Cond.methodLink RL 34 yX5_tune ∈ TBG := tb_of (List.mem_of_getElem? (i := 541) (by decide +kernel)) (by decide +kernel)
theorem ki_yX5_tune : Cond.instanceMethod yX5_tune ∈ TBG := tb_of (List.mem_of_getElem? (i := 542) (by decide +kernel)) (by decide +kernel)
theorem kl_yX5_tune : Cond.selects RX5 yX5_tune yX5_tune ∈ TBG := tb_of (List.mem_of_getElem? (i := 543) (by decide +kernel)) (by decide +kernel)
theorem kc_yX5_tune : Cond.code yX5_tune cX5_tune 4 (some .int) ∈ TBG := tb_of (List.mem_of_getElem? (i := 544) (by decide +kernel)) (by decide +kernel)
theorem km_X5_72 : Cond.methodLink RX5 72 yX5_isTune ∈ TBG := tb_of (List.mem_of_getElem? (i := 545) (by decide +kernel)) (by decide +kernel)
theorem ks_yX5_isTune : Cond.static yX5_isTune ∈ TBG := tb_of (List.mem_of_getElem? (i := 546) (by decide +kernel)) (by decide +kernel)
theorem kc_yX5_isTune : Cond.code yX5_isTune cX5_isTune 1 (some .boolean) ∈ TBG := tb_of (List.mem_of_getElem? (i := 547) (by decide +kernel)) (by decide +kernel)
theorem km_L_39 : Cond.methodLink RL 39 yX5_rule ∈ TBG := tb_of (List.mem_of_getElem? (i := 548) (by decide +kernel)) (by decide +kernel)
theorem ki_yX5_rule : Cond.instanceMethod yX5_rule ∈ TBG := tb_of (List.mem_of_getElem? (i := 549) (by decide +kernel)) (by decide +kernel)
theorem kl_yX5_rule : Cond.selects RX5 yX5_rule yX5_rule ∈ TBG := tb_of (List.mem_of_getElem? (i := 550) (by decide +kernel)) (by decide +kernel)
theorem kc_yX5_rule : Cond.code yX5_rule cX5_rule 4 (some .int) ∈ TBG := tb_of (List.mem_of_getElem? (i := 551) (by decide +kernel)) (by decide +kernel)
theorem km_L_44 : Cond.methodLink RL 44 yX5_syllable ∈ TBG := tb_of (List.mem_of_getElem? (i := 552) (by decide +kernel)) (by decide +kernel)
theorem ki_yX5_syllable : Cond.instanceMethod yX5_syllable ∈ TBG := tb_of (List.mem_of_getElem? (i := 553) (by decide +kernel)) (by decide +kernel)
theorem kl_yX5_syllable : Cond.selects RX5 yX5_syllable yX5_syllable ∈ TBG := tb_of (List.mem_of_getElem? (i := 554) (by decide +kernel)) (by decide +kernel)
theorem kc_yX5_syllable : Cond.code yX5_syllable cX5_syllable 4 (some .int) ∈ TBG := tb_of (List.mem_of_getElem? (i := 555) (by decide +kernel)) (by decide +kernel)
theorem km_L_48 : Cond.methodLink RL 48 yX5_note ∈ TBG := tb_of (List.mem_of_getElem? (i := 556) (by decide +kernel)) (by decide +kernel)
theorem ki_yX5_note : Cond.instanceMethod yX5_note ∈ TBG := tb_of (List.mem_of_getElem? (i := 557) (by decide +kernel)) (by decide +kernel)
theorem kl_yX5_note : Cond.selects RX5 yX5_note yX5_note ∈ TBG := tb_of (List.mem_of_getElem? (i := 558) (by decide +kernel)) (by decide +kernel)
theorem kc_yX5_note : Cond.code yX5_note cX5_note 4 (some .int) ∈ TBG := tb_of (List.mem_of_getElem? (i := 559) (by decide +kernel)) (by decide +kernel)
theorem km_L_52 : Cond.methodLink RL 52 yX5_cost ∈ TBG := tb_of (List.mem_of_getElem? (i := 560) (by decide +kernel)) (by decide +kernel)
theorem ki_yX5_cost : Cond.instanceMethod yX5_cost ∈ TBG := tb_of (List.mem_of_getElem? (i := 561) (by decide +kernel)) (by decide +kernel)
theorem kl_yX5_cost : Cond.selects RX5 yX5_cost yX5_cost ∈ TBG := tb_of (List.mem_of_getElem? (i := 562) (by decide +kernel)) (by decide +kernel)
theorem kc_yX5_cost : Cond.code yX5_cost cX5_cost 8 (some .int) ∈ TBG := tb_of (List.mem_of_getElem? (i := 563) (by decide +kernel)) (by decide +kernel)
theorem km_X5_112 : Cond.methodLink RX5 112 yX5_stepOf ∈ TBG := tb_of (List.mem_of_getElem? (i := 564) (by decide +kernel)) (by decide +kernel)
theorem ks_yX5_stepOf : Cond.static yX5_stepOf ∈ TBG := tb_of (List.mem_of_getElem? (i := 565) (by decide +kernel)) (by decide +kernel)
theorem kc_yX5_stepOf : Cond.code yX5_stepOf cX5_stepOf 1 (some .int) ∈ TBG := tb_of (List.mem_of_getElem? (i := 566) (by decide +kernel)) (by decide +kernel)
theorem km_X5_106 : Cond.methodLink RX5 106 yX5_lay ∈ TBG := tb_of (List.mem_of_getElem? (i := 567) (by decide +kernel)) (by decide +kernel)
theorem ki_yX5_lay : Cond.instanceMethod yX5_lay ∈ TBG := tb_of (List.mem_of_getElem? (i := 569) (by decide +kernel)) (by decide +kernel)
theorem kc_yX5_lay : Cond.code yX5_lay cX5_lay 6 none ∈ TBG := tb_of (List.mem_of_getElem? (i := 570) (by decide +kernel)) (by decide +kernel)
theorem km_X5_99 : Cond.methodLink RX5 99 yX5_canStep ∈ TBG := tb_of (List.mem_of_getElem? (i := 571) (by decide +kernel)) (by decide +kernel)
theorem ki_yX5_canStep : Cond.instanceMethod yX5_canStep ∈ TBG := tb_of (List.mem_of_getElem? (i := 573) (by decide +kernel)) (by decide +kernel)
theorem kc_yX5_canStep : Cond.code yX5_canStep cX5_canStep 4 (some .boolean) ∈ TBG := tb_of (List.mem_of_getElem? (i := 574) (by decide +kernel)) (by decide +kernel)
theorem km_X5_95 : Cond.methodLink RX5 95 yX5_costOf ∈ TBG := tb_of (List.mem_of_getElem? (i := 575) (by decide +kernel)) (by decide +kernel)
theorem ki_yX5_costOf : Cond.instanceMethod yX5_costOf ∈ TBG := tb_of (List.mem_of_getElem? (i := 577) (by decide +kernel)) (by decide +kernel)
theorem kc_yX5_costOf : Cond.code yX5_costOf cX5_costOf 4 (some .int) ∈ TBG := tb_of (List.mem_of_getElem? (i := 578) (by decide +kernel)) (by decide +kernel)
theorem km_X5_81 : Cond.methodLink RX5 81 yX5_fit ∈ TBG := tb_of (List.mem_of_getElem? (i := 579) (by decide +kernel)) (by decide +kernel)
theorem ki_yX5_fit : Cond.instanceMethod yX5_fit ∈ TBG := tb_of (List.mem_of_getElem? (i := 581) (by decide +kernel)) (by decide +kernel)
theorem kc_yX5_fit : Cond.code yX5_fit cX5_fit 4 (some .int) ∈ TBG := tb_of (List.mem_of_getElem? (i := 582) (by decide +kernel)) (by decide +kernel)
theorem km_X5_88 : Cond.methodLink RX5 88 yX5_syllablesOf ∈ TBG := tb_of (List.mem_of_getElem? (i := 583) (by decide +kernel)) (by decide +kernel)
theorem ks_yX5_syllablesOf : Cond.static yX5_syllablesOf ∈ TBG := tb_of (List.mem_of_getElem? (i := 584) (by decide +kernel)) (by decide +kernel)
theorem kc_yX5_syllablesOf : Cond.code yX5_syllablesOf cX5_syllablesOf 1 (some .int) ∈ TBG := tb_of (List.mem_of_getElem? (i := 585) (by decide +kernel)) (by decide +kernel)
theorem km_X5_92 : Cond.methodLink RX5 92 yX5_notesOf ∈ TBG := tb_of (List.mem_of_getElem? (i := 586) (by decide +kernel)) (by decide +kernel)
theorem ks_yX5_notesOf : Cond.static yX5_notesOf ∈ TBG := tb_of (List.mem_of_getElem? (i := 587) (by decide +kernel)) (by decide +kernel)
theorem kc_yX5_notesOf : Cond.code yX5_notesOf cX5_notesOf 1 (some .int) ∈ TBG := tb_of (List.mem_of_getElem? (i := 588) (by decide +kernel)) (by decide +kernel)
theorem km_L_56 : Cond.methodLink RL 56 yX5_least ∈ TBG := tb_of (List.mem_of_getElem? (i := 589) (by decide +kernel)) (by decide +kernel)
theorem ki_yX5_least : Cond.instanceMethod yX5_least ∈ TBG := tb_of (List.mem_of_getElem? (i := 590) (by decide +kernel)) (by decide +kernel)
theorem kl_yX5_least : Cond.selects RX5 yX5_least yX5_least ∈ TBG := tb_of (List.mem_of_getElem? (i := 591) (by decide +kernel)) (by decide +kernel)
theorem kc_yX5_least : Cond.code yX5_least cX5_least 4 (some .int) ∈ TBG := tb_of (List.mem_of_getElem? (i := 592) (by decide +kernel)) (by decide +kernel)
theorem km_X5_121 : Cond.methodLink RX5 121 yX5_go ∈ TBG := tb_of (List.mem_of_getElem? (i := 593) (by decide +kernel)) (by decide +kernel)
theorem ki_yX5_go : Cond.instanceMethod yX5_go ∈ TBG := tb_of (List.mem_of_getElem? (i := 595) (by decide +kernel)) (by decide +kernel)
theorem kc_yX5_go : Cond.code yX5_go cX5_go 4 none ∈ TBG := tb_of (List.mem_of_getElem? (i := 596) (by decide +kernel)) (by decide +kernel)
theorem km_X5_109 : Cond.methodLink RX5 109 yX5_layTable ∈ TBG := tb_of (List.mem_of_getElem? (i := 597) (by decide +kernel)) (by decide +kernel)
theorem ki_yX5_layTable : Cond.instanceMethod yX5_layTable ∈ TBG := tb_of (List.mem_of_getElem? (i := 599) (by decide +kernel)) (by decide +kernel)
theorem kc_yX5_layTable : Cond.code yX5_layTable cX5_layTable 5 none ∈ TBG := tb_of (List.mem_of_getElem? (i := 600) (by decide +kernel)) (by decide +kernel)
theorem km_X5_85 : Cond.methodLink RX5 85 yX5_at ∈ TBG := tb_of (List.mem_of_getElem? (i := 601) (by decide +kernel)) (by decide +kernel)
theorem ks_yX5_at : Cond.static yX5_at ∈ TBG := tb_of (List.mem_of_getElem? (i := 602) (by decide +kernel)) (by decide +kernel)
theorem kc_yX5_at : Cond.code yX5_at cX5_at 2 (some .int) ∈ TBG := tb_of (List.mem_of_getElem? (i := 603) (by decide +kernel)) (by decide +kernel)
theorem km_X5_102 : Cond.methodLink RX5 102 yX5_take ∈ TBG := tb_of (List.mem_of_getElem? (i := 604) (by decide +kernel)) (by decide +kernel)
theorem ki_yX5_take : Cond.instanceMethod yX5_take ∈ TBG := tb_of (List.mem_of_getElem? (i := 606) (by decide +kernel)) (by decide +kernel)
theorem kc_yX5_take : Cond.code yX5_take cX5_take 7 none ∈ TBG := tb_of (List.mem_of_getElem? (i := 607) (by decide +kernel)) (by decide +kernel)
theorem km_X5_124 : Cond.methodLink RX5 124 yX5_laySteps ∈ TBG := tb_of (List.mem_of_getElem? (i := 608) (by decide +kernel)) (by decide +kernel)
theorem ki_yX5_laySteps : Cond.instanceMethod yX5_laySteps ∈ TBG := tb_of (List.mem_of_getElem? (i := 610) (by decide +kernel)) (by decide +kernel)
theorem kc_yX5_laySteps : Cond.code yX5_laySteps cX5_laySteps 4 none ∈ TBG := tb_of (List.mem_of_getElem? (i := 611) (by decide +kernel)) (by decide +kernel)
theorem km_X5_118 : Cond.methodLink RX5 118 yX5_nextStep ∈ TBG := tb_of (List.mem_of_getElem? (i := 612) (by decide +kernel)) (by decide +kernel)
theorem ki_yX5_nextStep : Cond.instanceMethod yX5_nextStep ∈ TBG := tb_of (List.mem_of_getElem? (i := 614) (by decide +kernel)) (by decide +kernel)
theorem kc_yX5_nextStep : Cond.code yX5_nextStep cX5_nextStep 5 (some .int) ∈ TBG := tb_of (List.mem_of_getElem? (i := 615) (by decide +kernel)) (by decide +kernel)
theorem km_L_60 : Cond.methodLink RL 60 yX5_ways ∈ TBG := tb_of (List.mem_of_getElem? (i := 616) (by decide +kernel)) (by decide +kernel)
theorem ki_yX5_ways : Cond.instanceMethod yX5_ways ∈ TBG := tb_of (List.mem_of_getElem? (i := 617) (by decide +kernel)) (by decide +kernel)
theorem kl_yX5_ways : Cond.selects RX5 yX5_ways yX5_ways ∈ TBG := tb_of (List.mem_of_getElem? (i := 618) (by decide +kernel)) (by decide +kernel)
theorem kc_yX5_ways : Cond.code yX5_ways cX5_ways 4 (some .int) ∈ TBG := tb_of (List.mem_of_getElem? (i := 619) (by decide +kernel)) (by decide +kernel)
theorem km_L_65 : Cond.methodLink RL 65 yX5_sung ∈ TBG := tb_of (List.mem_of_getElem? (i := 620) (by decide +kernel)) (by decide +kernel)
theorem ki_yX5_sung : Cond.instanceMethod yX5_sung ∈ TBG := tb_of (List.mem_of_getElem? (i := 621) (by decide +kernel)) (by decide +kernel)
theorem kl_yX5_sung : Cond.selects RX5 yX5_sung yX5_sung ∈ TBG := tb_of (List.mem_of_getElem? (i := 622) (by decide +kernel)) (by decide +kernel)
theorem kc_yX5_sung : Cond.code yX5_sung cX5_sung 10 (some .int) ∈ TBG := tb_of (List.mem_of_getElem? (i := 623) (by decide +kernel)) (by decide +kernel)
theorem km_L_69 : Cond.methodLink RL 69 yX5_verse ∈ TBG := tb_of (List.mem_of_getElem? (i := 624) (by decide +kernel)) (by decide +kernel)
theorem ki_yX5_verse : Cond.instanceMethod yX5_verse ∈ TBG := tb_of (List.mem_of_getElem? (i := 625) (by decide +kernel)) (by decide +kernel)
theorem kl_yX5_verse : Cond.selects RX5 yX5_verse yX5_verse ∈ TBG := tb_of (List.mem_of_getElem? (i := 626) (by decide +kernel)) (by decide +kernel)
theorem kc_yX5_verse : Cond.code yX5_verse cX5_verse 2 (some .int) ∈ TBG := tb_of (List.mem_of_getElem? (i := 627) (by decide +kernel)) (by decide +kernel)
theorem km_X5_127 : Cond.methodLink RX5 127 yX5_verseOf ∈ TBG := tb_of (List.mem_of_getElem? (i := 628) (by decide +kernel)) (by decide +kernel)
theorem ki_yX5_verseOf : Cond.instanceMethod yX5_verseOf ∈ TBG := tb_of (List.mem_of_getElem? (i := 630) (by decide +kernel)) (by decide +kernel)
theorem kc_yX5_verseOf : Cond.code yX5_verseOf cX5_verseOf 5 (some .int) ∈ TBG := tb_of (List.mem_of_getElem? (i := 631) (by decide +kernel)) (by decide +kernel)
theorem km_L_73 : Cond.methodLink RL 73 yX5_best ∈ TBG := tb_of (List.mem_of_getElem? (i := 632) (by decide +kernel)) (by decide +kernel)
theorem ki_yX5_best : Cond.instanceMethod yX5_best ∈ TBG := tb_of (List.mem_of_getElem? (i := 633) (by decide +kernel)) (by decide +kernel)
theorem kl_yX5_best : Cond.selects RX5 yX5_best yX5_best ∈ TBG := tb_of (List.mem_of_getElem? (i := 634) (by decide +kernel)) (by decide +kernel)
theorem kc_yX5_best : Cond.code yX5_best cX5_best 6 (some .int) ∈ TBG := tb_of (List.mem_of_getElem? (i := 635) (by decide +kernel)) (by decide +kernel)
theorem km_L_77 : Cond.methodLink RL 77 yX5_turned ∈ TBG := tb_of (List.mem_of_getElem? (i := 636) (by decide +kernel)) (by decide +kernel)
theorem ki_yX5_turned : Cond.instanceMethod yX5_turned ∈ TBG := tb_of (List.mem_of_getElem? (i := 637) (by decide +kernel)) (by decide +kernel)
theorem kl_yX5_turned : Cond.selects RX5 yX5_turned yX5_turned ∈ TBG := tb_of (List.mem_of_getElem? (i := 638) (by decide +kernel)) (by decide +kernel)
theorem kc_yX5_turned : Cond.code yX5_turned cX5_turned 7 (some .int) ∈ TBG := tb_of (List.mem_of_getElem? (i := 639) (by decide +kernel)) (by decide +kernel)
theorem km_L_81 : Cond.methodLink RL 81 yX5_anew ∈ TBG := tb_of (List.mem_of_getElem? (i := 640) (by decide +kernel)) (by decide +kernel)
theorem ki_yX5_anew : Cond.instanceMethod yX5_anew ∈ TBG := tb_of (List.mem_of_getElem? (i := 641) (by decide +kernel)) (by decide +kernel)
theorem kl_yX5_anew : Cond.selects RX5 yX5_anew yX5_anew ∈ TBG := tb_of (List.mem_of_getElem? (i := 642) (by decide +kernel)) (by decide +kernel)
theorem kc_yX5_anew : Cond.code yX5_anew cX5_anew 10 (some .int) ∈ TBG := tb_of (List.mem_of_getElem? (i := 643) (by decide +kernel)) (by decide +kernel)
theorem km_L_85 : Cond.methodLink RL 85 yX5_image ∈ TBG := tb_of (List.mem_of_getElem? (i := 644) (by decide +kernel)) (by decide +kernel)
theorem ki_yX5_image : Cond.instanceMethod yX5_image ∈ TBG := tb_of (List.mem_of_getElem? (i := 645) (by decide +kernel)) (by decide +kernel)
theorem kl_yX5_image : Cond.selects RX5 yX5_image yX5_image ∈ TBG := tb_of (List.mem_of_getElem? (i := 646) (by decide +kernel)) (by decide +kernel)
theorem kc_yX5_image : Cond.code yX5_image cX5_image 3 (some .int) ∈ TBG := tb_of (List.mem_of_getElem? (i := 647) (by decide +kernel)) (by decide +kernel)
theorem km_L_89 : Cond.methodLink RL 89 yX5_restore ∈ TBG := tb_of (List.mem_of_getElem? (i := 648) (by decide +kernel)) (by decide +kernel)
theorem ki_yX5_restore : Cond.instanceMethod yX5_restore ∈ TBG := tb_of (List.mem_of_getElem? (i := 649) (by decide +kernel)) (by decide +kernel)
theorem kl_yX5_restore : Cond.selects RX5 yX5_restore yX5_restore ∈ TBG := tb_of (List.mem_of_getElem? (i := 650) (by decide +kernel)) (by decide +kernel)
theorem kc_yX5_restore : Cond.code yX5_restore cX5_restore 3 (some .int) ∈ TBG := tb_of (List.mem_of_getElem? (i := 651) (by decide +kernel)) (by decide +kernel)
theorem km_L_93 : Cond.methodLink RL 93 yX5_count ∈ TBG := tb_of (List.mem_of_getElem? (i := 652) (by decide +kernel)) (by decide +kernel)
theorem ki_yX5_count : Cond.instanceMethod yX5_count ∈ TBG := tb_of (List.mem_of_getElem? (i := 653) (by decide +kernel)) (by decide +kernel)
theorem kl_yX5_count : Cond.selects RX5 yX5_count yX5_count ∈ TBG := tb_of (List.mem_of_getElem? (i := 654) (by decide +kernel)) (by decide +kernel)
theorem kc_yX5_count : Cond.code yX5_count cX5_count 2 (some .int) ∈ TBG := tb_of (List.mem_of_getElem? (i := 655) (by decide +kernel)) (by decide +kernel)
theorem km_X5_130 : Cond.methodLink RX5 130 yX5_sumOf ∈ TBG := tb_of (List.mem_of_getElem? (i := 656) (by decide +kernel)) (by decide +kernel)
theorem ki_yX5_sumOf : Cond.instanceMethod yX5_sumOf ∈ TBG := tb_of (List.mem_of_getElem? (i := 658) (by decide +kernel)) (by decide +kernel)
theorem kc_yX5_sumOf : Cond.code yX5_sumOf cX5_sumOf 5 (some .int) ∈ TBG := tb_of (List.mem_of_getElem? (i := 659) (by decide +kernel)) (by decide +kernel)
theorem km_X5_133 : Cond.methodLink RX5 133 yX5_lengths ∈ TBG := tb_of (List.mem_of_getElem? (i := 660) (by decide +kernel)) (by decide +kernel)
theorem ki_yX5_lengths : Cond.instanceMethod yX5_lengths ∈ TBG := tb_of (List.mem_of_getElem? (i := 662) (by decide +kernel)) (by decide +kernel)
theorem kc_yX5_lengths : Cond.code yX5_lengths cX5_lengths 3 (some .int) ∈ TBG := tb_of (List.mem_of_getElem? (i := 663) (by decide +kernel)) (by decide +kernel)
theorem kl_yX4_verseOf : Cond.selects RX4 yX4_verseOf yX4_verseOf ∈ TBG := tb_of (List.mem_of_getElem? (i := 0) (by decide +kernel)) (by decide +kernel)
theorem kl_yX5_lineFault : Cond.selects RX5 yX5_lineFault yX5_lineFault ∈ TBG := tb_of (List.mem_of_getElem? (i := 1) (by decide +kernel)) (by decide +kernel)
theorem kl_yX5_isFigure : Cond.selects RX5 yX5_isFigure yX5_isFigure ∈ TBG := tb_of (List.mem_of_getElem? (i := 2) (by decide +kernel)) (by decide +kernel)
theorem kl_yX5_tuneFault : Cond.selects RX5 yX5_tuneFault yX5_tuneFault ∈ TBG := tb_of (List.mem_of_getElem? (i := 3) (by decide +kernel)) (by decide +kernel)
theorem kl_yX5_lay : Cond.selects RX5 yX5_lay yX5_lay ∈ TBG := tb_of (List.mem_of_getElem? (i := 4) (by decide +kernel)) (by decide +kernel)
theorem kl_yX5_canStep : Cond.selects RX5 yX5_canStep yX5_canStep ∈ TBG := tb_of (List.mem_of_getElem? (i := 5) (by decide +kernel)) (by decide +kernel)
theorem kl_yX5_costOf : Cond.selects RX5 yX5_costOf yX5_costOf ∈ TBG := tb_of (List.mem_of_getElem? (i := 6) (by decide +kernel)) (by decide +kernel)
theorem kl_yX5_fit : Cond.selects RX5 yX5_fit yX5_fit ∈ TBG := tb_of (List.mem_of_getElem? (i := 7) (by decide +kernel)) (by decide +kernel)
theorem kl_yX5_go : Cond.selects RX5 yX5_go yX5_go ∈ TBG := tb_of (List.mem_of_getElem? (i := 8) (by decide +kernel)) (by decide +kernel)
theorem kl_yX5_layTable : Cond.selects RX5 yX5_layTable yX5_layTable ∈ TBG := tb_of (List.mem_of_getElem? (i := 9) (by decide +kernel)) (by decide +kernel)
theorem kl_yX5_take : Cond.selects RX5 yX5_take yX5_take ∈ TBG := tb_of (List.mem_of_getElem? (i := 10) (by decide +kernel)) (by decide +kernel)
theorem kl_yX5_laySteps : Cond.selects RX5 yX5_laySteps yX5_laySteps ∈ TBG := tb_of (List.mem_of_getElem? (i := 11) (by decide +kernel)) (by decide +kernel)
theorem kl_yX5_nextStep : Cond.selects RX5 yX5_nextStep yX5_nextStep ∈ TBG := tb_of (List.mem_of_getElem? (i := 12) (by decide +kernel)) (by decide +kernel)
theorem kl_yX5_verseOf : Cond.selects RX5 yX5_verseOf yX5_verseOf ∈ TBG := tb_of (List.mem_of_getElem? (i := 13) (by decide +kernel)) (by decide +kernel)
theorem kl_yX5_sumOf : Cond.selects RX5 yX5_sumOf yX5_sumOf ∈ TBG := tb_of (List.mem_of_getElem? (i := 14) (by decide +kernel)) (by decide +kernel)
theorem kl_yX5_lengths : Cond.selects RX5 yX5_lengths yX5_lengths ∈ TBG := tb_of (List.mem_of_getElem? (i := 15) (by decide +kernel)) (by decide +kernel)
theorem in_X0 : ∀ w ∈ u_ws RX0 TX0 3, w ∈ TBG := fun w h => tb_of ((show ∀ w ∈ u_ws RX0 TX0 3, w ∈ lw_tbl by decide +kernel) w h) ((show ∀ w ∈ u_ws RX0 TX0 3, goodWord w = true by decide +kernel) w h)
theorem in_X1 : ∀ w ∈ u_ws RX1 TX1 11, w ∈ TBG := fun w h => tb_of ((show ∀ w ∈ u_ws RX1 TX1 11, w ∈ lw_tbl by decide +kernel) w h) ((show ∀ w ∈ u_ws RX1 TX1 11, goodWord w = true by decide +kernel) w h)
theorem in_X2 : ∀ w ∈ u_ws RX2 TX2 2, w ∈ TBG := fun w h => tb_of ((show ∀ w ∈ u_ws RX2 TX2 2, w ∈ lw_tbl by decide +kernel) w h) ((show ∀ w ∈ u_ws RX2 TX2 2, goodWord w = true by decide +kernel) w h)
theorem in_X3 : ∀ w ∈ u_ws RX3 TX3 4, w ∈ TBG := fun w h => tb_of ((show ∀ w ∈ u_ws RX3 TX3 4, w ∈ lw_tbl by decide +kernel) w h) ((show ∀ w ∈ u_ws RX3 TX3 4, goodWord w = true by decide +kernel) w h)
theorem in_X4 : ∀ w ∈ u_ws RX4 TX4 5, w ∈ TBG := fun w h => tb_of ((show ∀ w ∈ u_ws RX4 TX4 5, w ∈ lw_tbl by decide +kernel) w h) ((show ∀ w ∈ u_ws RX4 TX4 5, goodWord w = true by decide +kernel) w h)
theorem in_X5 : ∀ w ∈ u_ws RX5 TX5 17, w ∈ TBG := fun w h => tb_of ((show ∀ w ∈ u_ws RX5 TX5 17, w ∈ lw_tbl by decide +kernel) w h) ((show ∀ w ∈ u_ws RX5 TX5 17, goodWord w = true by decide +kernel) w h)
theorem mf_yX0_init : MF yX0_init cX0_init 2 none 0 := ⟨kc_yX0_init, kn_X0, by decide +kernel⟩
theorem mf_yX0_copyFrom : MF yX0_copyFrom cX0_copyFrom 3 none 1 := ⟨kc_yX0_copyFrom, kn_X0, by decide +kernel⟩
theorem mf_yX0_syllablesInAll : MF yX0_syllablesInAll cX0_syllablesInAll 3 (some .int) 0 := ⟨kc_yX0_syllablesInAll, kn_X0, by decide +kernel⟩
theorem mf_yX0_notesInAll : MF yX0_notesInAll cX0_notesInAll 3 (some .int) 0 := ⟨kc_yX0_notesInAll, kn_X0, by decide +kernel⟩
theorem mf_yX0_lengthsInAll : MF yX0_lengthsInAll cX0_lengthsInAll 3 (some .int) 0 := ⟨kc_yX0_lengthsInAll, kn_X0, by decide +kernel⟩
theorem mf_yX1_init : MF yX1_init cX1_init 1 none 0 := ⟨kc_yX1_init, kn_X1, by decide +kernel⟩
theorem mf_yX1_take : MF yX1_take cX1_take 4 none 3 := ⟨kc_yX1_take, kn_X1, by decide +kernel⟩
theorem mf_yX1_turnTune : MF yX1_turnTune cX1_turnTune 3 none 2 := ⟨kc_yX1_turnTune, kn_X1, by decide +kernel⟩
theorem mf_yX1_stressSyllable : MF yX1_stressSyllable cX1_stressSyllable 3 none 2 := ⟨kc_yX1_stressSyllable, kn_X1, by decide +kernel⟩
theorem mf_yX1_costOf : MF yX1_costOf cX1_costOf 7 (some .int) 1 := ⟨kc_yX1_costOf, kn_X1, by decide +kernel⟩
theorem mf_yX1_leastCost : MF yX1_leastCost cX1_leastCost 1 (some .int) 0 := ⟨kc_yX1_leastCost, kn_X1, by decide +kernel⟩
theorem mf_yX1_greatestCost : MF yX1_greatestCost cX1_greatestCost 1 (some .int) 0 := ⟨kc_yX1_greatestCost, kn_X1, by decide +kernel⟩
theorem mf_yX1_howManyLayings : MF yX1_howManyLayings cX1_howManyLayings 1 (some .int) 0 := ⟨kc_yX1_howManyLayings, kn_X1, by decide +kernel⟩
theorem mf_yX1_howManyLeast : MF yX1_howManyLeast cX1_howManyLeast 1 (some .int) 0 := ⟨kc_yX1_howManyLeast, kn_X1, by decide +kernel⟩
theorem mf_yX1_tallied : MF yX1_tallied cX1_tallied 3 (some .int) 2 := ⟨kc_yX1_tallied, kn_X1, by decide +kernel⟩
theorem mf_yX1_leastStep : MF yX1_leastStep cX1_leastStep 2 (some .int) 1 := ⟨kc_yX1_leastStep, kn_X1, by decide +kernel⟩
theorem mf_yX1_firstSungOn : MF yX1_firstSungOn cX1_firstSungOn 2 (some .int) 1 := ⟨kc_yX1_firstSungOn, kn_X1, by decide +kernel⟩
theorem mf_yX1_howManySungOn : MF yX1_howManySungOn cX1_howManySungOn 2 (some .int) 1 := ⟨kc_yX1_howManySungOn, kn_X1, by decide +kernel⟩
theorem mf_yX1_traced : MF yX1_traced cX1_traced 3 (some .int) 2 := ⟨kc_yX1_traced, kn_X1, by decide +kernel⟩
theorem mf_yX1_hasLaying : MF yX1_hasLaying cX1_hasLaying 1 (some .boolean) 0 := ⟨kc_yX1_hasLaying, kn_X1, by decide +kernel⟩
theorem mf_yX1_isEnd : MF yX1_isEnd cX1_isEnd 3 (some .boolean) 2 := ⟨kc_yX1_isEnd, kn_X1, by decide +kernel⟩
theorem mf_yX1_canStep : MF yX1_canStep cX1_canStep 4 (some .boolean) 3 := ⟨kc_yX1_canStep, kn_X1, by decide +kernel⟩
theorem mf_yX1_stepCost : MF yX1_stepCost cX1_stepCost 7 (some .int) 3 := ⟨kc_yX1_stepCost, kn_X1, by decide +kernel⟩
theorem mf_yX1_weigh : MF yX1_weigh cX1_weigh 3 none 0 := ⟨kc_yX1_weigh, kn_X1, by decide +kernel⟩
theorem mf_yX1_leastAt : MF yX1_leastAt cX1_leastAt 7 (some .int) 2 := ⟨kc_yX1_leastAt, kn_X1, by decide +kernel⟩
theorem mf_yX1_tally : MF yX1_tally cX1_tally 3 none 0 := ⟨kc_yX1_tally, kn_X1, by decide +kernel⟩
theorem mf_yX1_tallyPlace : MF yX1_tallyPlace cX1_tallyPlace 10 none 2 := ⟨kc_yX1_tallyPlace, kn_X1, by decide +kernel⟩
theorem mf_yX1_trace : MF yX1_trace cX1_trace 5 none 0 := ⟨kc_yX1_trace, kn_X1, by decide +kernel⟩
theorem mf_yX1_leastStepFrom : MF yX1_leastStepFrom cX1_leastStepFrom 5 (some .int) 2 := ⟨kc_yX1_leastStepFrom, kn_X1, by decide +kernel⟩
theorem mf_yX2_init : MF yX2_init cX2_init 1 none 0 := ⟨kc_yX2_init, kn_X2, by decide +kernel⟩
theorem mf_yX2_put : MF yX2_put cX2_put 2 none 1 := ⟨kc_yX2_put, kn_X2, by decide +kernel⟩
theorem mf_yX2_clear : MF yX2_clear cX2_clear 1 none 0 := ⟨kc_yX2_clear, kn_X2, by decide +kernel⟩
theorem mf_yX2_faultAsLine : MF yX2_faultAsLine cX2_faultAsLine 4 (some .int) 0 := ⟨kc_yX2_faultAsLine, kn_X2, by decide +kernel⟩
theorem mf_yX2_faultAsTune : MF yX2_faultAsTune cX2_faultAsTune 4 (some .int) 0 := ⟨kc_yX2_faultAsTune, kn_X2, by decide +kernel⟩
theorem mf_yX2_readLine : MF yX2_readLine cX2_readLine 3 none 1 := ⟨kc_yX2_readLine, kn_X2, by decide +kernel⟩
theorem mf_yX2_readTune : MF yX2_readTune cX2_readTune 3 none 1 := ⟨kc_yX2_readTune, kn_X2, by decide +kernel⟩
theorem mf_yX2_hasStepsOnly : MF yX2_hasStepsOnly cX2_hasStepsOnly 2 (some .boolean) 0 := ⟨kc_yX2_hasStepsOnly, kn_X2, by decide +kernel⟩
theorem mf_yX2_stepAt : MF yX2_stepAt cX2_stepAt 2 (some .int) 1 := ⟨kc_yX2_stepAt, kn_X2, by decide +kernel⟩
theorem mf_yX3_init : MF yX3_init cX3_init 2 none 1 := ⟨kc_yX3_init, kn_X3, by decide +kernel⟩
theorem mf_yX3_clear : MF yX3_clear cX3_clear 1 none 0 := ⟨kc_yX3_clear, kn_X3, by decide +kernel⟩
theorem mf_yX3_add : MF yX3_add cX3_add 3 none 2 := ⟨kc_yX3_add, kn_X3, by decide +kernel⟩
theorem mf_yX3_lengthenLast : MF yX3_lengthenLast cX3_lengthenLast 1 none 0 := ⟨kc_yX3_lengthenLast, kn_X3, by decide +kernel⟩
theorem mf_yX3_addPlaces : MF yX3_addPlaces cX3_addPlaces 6 none 3 := ⟨kc_yX3_addPlaces, kn_X3, by decide +kernel⟩
theorem mf_yX3_copyFrom : MF yX3_copyFrom cX3_copyFrom 2 none 1 := ⟨kc_yX3_copyFrom, kn_X3, by decide +kernel⟩
theorem mf_yX3_spansInAll : MF yX3_spansInAll cX3_spansInAll 3 (some .int) 0 := ⟨kc_yX3_spansInAll, kn_X3, by decide +kernel⟩
theorem mf_yX4_init : MF yX4_init cX4_init 1 none 0 := ⟨kc_yX4_init, kn_X4, by decide +kernel⟩
theorem mf_yX4_say : MF yX4_say cX4_say 2 (some .int) 1 := ⟨kc_yX4_say, kn_X4, by decide +kernel⟩
theorem mf_yX4_wipe : MF yX4_wipe cX4_wipe 2 (some .int) 0 := ⟨kc_yX4_wipe, kn_X4, by decide +kernel⟩
theorem mf_yX4_fault : MF yX4_fault cX4_fault 2 (some .int) 1 := ⟨kc_yX4_fault, kn_X4, by decide +kernel⟩
theorem mf_yX4_line : MF yX4_line cX4_line 3 (some .int) 1 := ⟨kc_yX4_line, kn_X4, by decide +kernel⟩
theorem mf_yX4_tune : MF yX4_tune cX4_tune 3 (some .int) 1 := ⟨kc_yX4_tune, kn_X4, by decide +kernel⟩
theorem mf_yX4_rule : MF yX4_rule cX4_rule 4 (some .int) 2 := ⟨kc_yX4_rule, kn_X4, by decide +kernel⟩
theorem mf_yX4_syllable : MF yX4_syllable cX4_syllable 4 (some .int) 3 := ⟨kc_yX4_syllable, kn_X4, by decide +kernel⟩
theorem mf_yX4_note : MF yX4_note cX4_note 4 (some .int) 3 := ⟨kc_yX4_note, kn_X4, by decide +kernel⟩
theorem mf_yX4_cost : MF yX4_cost cX4_cost 3 (some .int) 2 := ⟨kc_yX4_cost, kn_X4, by decide +kernel⟩
theorem mf_yX4_least : MF yX4_least cX4_least 4 (some .int) 3 := ⟨kc_yX4_least, kn_X4, by decide +kernel⟩
theorem mf_yX4_ways : MF yX4_ways cX4_ways 4 (some .int) 3 := ⟨kc_yX4_ways, kn_X4, by decide +kernel⟩
theorem mf_yX4_sung : MF yX4_sung cX4_sung 5 (some .int) 4 := ⟨kc_yX4_sung, kn_X4, by decide +kernel⟩
theorem mf_yX4_verse : MF yX4_verse cX4_verse 2 (some .int) 1 := ⟨kc_yX4_verse, kn_X4, by decide +kernel⟩
theorem mf_yX4_best : MF yX4_best cX4_best 6 (some .int) 1 := ⟨kc_yX4_best, kn_X4, by decide +kernel⟩
theorem mf_yX4_turned : MF yX4_turned cX4_turned 9 (some .int) 3 := ⟨kc_yX4_turned, kn_X4, by decide +kernel⟩
theorem mf_yX4_anew : MF yX4_anew cX4_anew 11 (some .int) 3 := ⟨kc_yX4_anew, kn_X4, by decide +kernel⟩
theorem mf_yX4_image : MF yX4_image cX4_image 2 (some .int) 1 := ⟨kc_yX4_image, kn_X4, by decide +kernel⟩
theorem mf_yX4_restore : MF yX4_restore cX4_restore 2 (some .int) 1 := ⟨kc_yX4_restore, kn_X4, by decide +kernel⟩
theorem mf_yX4_count : MF yX4_count cX4_count 2 (some .int) 1 := ⟨kc_yX4_count, kn_X4, by decide +kernel⟩
theorem mf_yX4_isWithin : MF yX4_isWithin cX4_isWithin 3 (some .boolean) 3 := ⟨kc_yX4_isWithin, kn_X4, by decide +kernel⟩
theorem mf_yX4_isLine : MF yX4_isLine cX4_isLine 1 (some .boolean) 1 := ⟨kc_yX4_isLine, kn_X4, by decide +kernel⟩
theorem mf_yX4_isTune : MF yX4_isTune cX4_isTune 1 (some .boolean) 1 := ⟨kc_yX4_isTune, kn_X4, by decide +kernel⟩
theorem mf_yX4_areKnown : MF yX4_areKnown cX4_areKnown 2 (some .boolean) 2 := ⟨kc_yX4_areKnown, kn_X4, by decide +kernel⟩
theorem mf_yX4_isCheaper : MF yX4_isCheaper cX4_isCheaper 2 (some .boolean) 2 := ⟨kc_yX4_isCheaper, kn_X4, by decide +kernel⟩
theorem mf_yX4_partOf : MF yX4_partOf cX4_partOf 3 (some .int) 3 := ⟨kc_yX4_partOf, kn_X4, by decide +kernel⟩
theorem mf_yX4_verseOf : MF yX4_verseOf cX4_verseOf 4 (some .int) 1 := ⟨kc_yX4_verseOf, kn_X4, by decide +kernel⟩
theorem mf_yX5_init : MF yX5_init cX5_init 1 none 0 := ⟨kc_yX5_init, kn_X5, by decide +kernel⟩
theorem mf_yX5_in : MF yX5_in cX5_in 3 (some .boolean) 3 := ⟨kc_yX5_in, kn_X5, by decide +kernel⟩
theorem mf_yX5_isLine : MF yX5_isLine cX5_isLine 1 (some .boolean) 1 := ⟨kc_yX5_isLine, kn_X5, by decide +kernel⟩
theorem mf_yX5_isTune : MF yX5_isTune cX5_isTune 1 (some .boolean) 1 := ⟨kc_yX5_isTune, kn_X5, by decide +kernel⟩
theorem mf_yX5_say : MF yX5_say cX5_say 2 (some .int) 1 := ⟨kc_yX5_say, kn_X5, by decide +kernel⟩
theorem mf_yX5_wipe : MF yX5_wipe cX5_wipe 2 (some .int) 0 := ⟨kc_yX5_wipe, kn_X5, by decide +kernel⟩
theorem mf_yX5_isFigure : MF yX5_isFigure cX5_isFigure 4 (some .boolean) 3 := ⟨kc_yX5_isFigure, kn_X5, by decide +kernel⟩
theorem mf_yX5_lineFault : MF yX5_lineFault cX5_lineFault 5 (some .int) 0 := ⟨kc_yX5_lineFault, kn_X5, by decide +kernel⟩
theorem mf_yX5_tuneFault : MF yX5_tuneFault cX5_tuneFault 3 (some .int) 0 := ⟨kc_yX5_tuneFault, kn_X5, by decide +kernel⟩
theorem mf_yX5_fault : MF yX5_fault cX5_fault 2 (some .int) 1 := ⟨kc_yX5_fault, kn_X5, by decide +kernel⟩
theorem mf_yX5_line : MF yX5_line cX5_line 4 (some .int) 1 := ⟨kc_yX5_line, kn_X5, by decide +kernel⟩
theorem mf_yX5_tune : MF yX5_tune cX5_tune 4 (some .int) 1 := ⟨kc_yX5_tune, kn_X5, by decide +kernel⟩
theorem mf_yX5_rule : MF yX5_rule cX5_rule 4 (some .int) 2 := ⟨kc_yX5_rule, kn_X5, by decide +kernel⟩
theorem mf_yX5_syllable : MF yX5_syllable cX5_syllable 4 (some .int) 3 := ⟨kc_yX5_syllable, kn_X5, by decide +kernel⟩
theorem mf_yX5_note : MF yX5_note cX5_note 4 (some .int) 3 := ⟨kc_yX5_note, kn_X5, by decide +kernel⟩
theorem mf_yX5_lay : MF yX5_lay cX5_lay 6 none 3 := ⟨kc_yX5_lay, kn_X5, by decide +kernel⟩
theorem mf_yX5_fit : MF yX5_fit cX5_fit 4 (some .int) 2 := ⟨kc_yX5_fit, kn_X5, by decide +kernel⟩
theorem mf_yX5_costOf : MF yX5_costOf cX5_costOf 4 (some .int) 3 := ⟨kc_yX5_costOf, kn_X5, by decide +kernel⟩
theorem mf_yX5_canStep : MF yX5_canStep cX5_canStep 4 (some .boolean) 3 := ⟨kc_yX5_canStep, kn_X5, by decide +kernel⟩
theorem mf_yX5_syllablesOf : MF yX5_syllablesOf cX5_syllablesOf 1 (some .int) 1 := ⟨kc_yX5_syllablesOf, kn_X5, by decide +kernel⟩
theorem mf_yX5_notesOf : MF yX5_notesOf cX5_notesOf 1 (some .int) 1 := ⟨kc_yX5_notesOf, kn_X5, by decide +kernel⟩
theorem mf_yX5_at : MF yX5_at cX5_at 2 (some .int) 2 := ⟨kc_yX5_at, kn_X5, by decide +kernel⟩
theorem mf_yX5_take : MF yX5_take cX5_take 7 none 3 := ⟨kc_yX5_take, kn_X5, by decide +kernel⟩
theorem mf_yX5_layTable : MF yX5_layTable cX5_layTable 5 none 0 := ⟨kc_yX5_layTable, kn_X5, by decide +kernel⟩
theorem mf_yX5_go : MF yX5_go cX5_go 4 none 3 := ⟨kc_yX5_go, kn_X5, by decide +kernel⟩
theorem mf_yX5_stepOf : MF yX5_stepOf cX5_stepOf 1 (some .int) 1 := ⟨kc_yX5_stepOf, kn_X5, by decide +kernel⟩
theorem mf_yX5_cost : MF yX5_cost cX5_cost 8 (some .int) 2 := ⟨kc_yX5_cost, kn_X5, by decide +kernel⟩
theorem mf_yX5_nextStep : MF yX5_nextStep cX5_nextStep 5 (some .int) 2 := ⟨kc_yX5_nextStep, kn_X5, by decide +kernel⟩
theorem mf_yX5_laySteps : MF yX5_laySteps cX5_laySteps 4 none 0 := ⟨kc_yX5_laySteps, kn_X5, by decide +kernel⟩
theorem mf_yX5_least : MF yX5_least cX5_least 4 (some .int) 3 := ⟨kc_yX5_least, kn_X5, by decide +kernel⟩
theorem mf_yX5_ways : MF yX5_ways cX5_ways 4 (some .int) 3 := ⟨kc_yX5_ways, kn_X5, by decide +kernel⟩
theorem mf_yX5_sung : MF yX5_sung cX5_sung 10 (some .int) 4 := ⟨kc_yX5_sung, kn_X5, by decide +kernel⟩
theorem mf_yX5_verseOf : MF yX5_verseOf cX5_verseOf 5 (some .int) 1 := ⟨kc_yX5_verseOf, kn_X5, by decide +kernel⟩
theorem mf_yX5_verse : MF yX5_verse cX5_verse 2 (some .int) 1 := ⟨kc_yX5_verse, kn_X5, by decide +kernel⟩
theorem mf_yX5_best : MF yX5_best cX5_best 6 (some .int) 1 := ⟨kc_yX5_best, kn_X5, by decide +kernel⟩
theorem mf_yX5_turned : MF yX5_turned cX5_turned 7 (some .int) 3 := ⟨kc_yX5_turned, kn_X5, by decide +kernel⟩
theorem mf_yX5_anew : MF yX5_anew cX5_anew 10 (some .int) 3 := ⟨kc_yX5_anew, kn_X5, by decide +kernel⟩
theorem mf_yX5_image : MF yX5_image cX5_image 3 (some .int) 1 := ⟨kc_yX5_image, kn_X5, by decide +kernel⟩
theorem mf_yX5_restore : MF yX5_restore cX5_restore 3 (some .int) 1 := ⟨kc_yX5_restore, kn_X5, by decide +kernel⟩
theorem mf_yX5_sumOf : MF yX5_sumOf cX5_sumOf 5 (some .int) 2 := ⟨kc_yX5_sumOf, kn_X5, by decide +kernel⟩
theorem mf_yX5_lengths : MF yX5_lengths cX5_lengths 3 (some .int) 0 := ⟨kc_yX5_lengths, kn_X5, by decide +kernel⟩
theorem mf_yX5_count : MF yX5_count cX5_count 2 (some .int) 1 := ⟨kc_yX5_count, kn_X5, by decide +kernel⟩
theorem mf_yJ9_abs_0f7a4 : MF yJ9_abs_0f7a4 cJ9_abs_0f7a4 1 (some .int) 1 := ⟨kc_yJ9_abs_0f7a4, kn_J9, by decide +kernel⟩
theorem mf_yJ9_max_7cf53 : MF yJ9_max_7cf53 cJ9_max_7cf53 2 (some .int) 2 := ⟨kc_yJ9_max_7cf53, kn_J9, by decide +kernel⟩
theorem mf_yJ9_min_7cf53 : MF yJ9_min_7cf53 cJ9_min_7cf53 2 (some .int) 2 := ⟨kc_yJ9_min_7cf53, kn_J9, by decide +kernel⟩
end
section
theorem dX0_init_0 : decode cX0_init 0 = .ok (.aload_n 0, 1) := by decide +kernel
theorem dX0_init_1 : decode cX0_init 1 = .ok (.invokespecial 3, 3) := by decide +kernel
theorem dX0_init_4 : decode cX0_init 4 = .ok (.aload_n 0, 1) := by decide +kernel
theorem dX0_init_5 : decode cX0_init 5 = .ok (.iconst 3, 1) := by decide +kernel
theorem dX0_init_6 : decode cX0_init 6 = .ok (.anewarray 9, 3) := by decide +kernel
theorem dX0_init_9 : decode cX0_init 9 = .ok (.putfield 11, 3) := by decide +kernel
theorem dX0_init_12 : decode cX0_init 12 = .ok (.aload_n 0, 1) := by decide +kernel
theorem dX0_init_13 : decode cX0_init 13 = .ok (.iconst 4, 1) := by decide +kernel
theorem dX0_init_14 : decode cX0_init 14 = .ok (.anewarray 9, 3) := by decide +kernel
theorem dX0_init_17 : decode cX0_init 17 = .ok (.putfield 17, 3) := by decide +kernel
theorem dX0_init_20 : decode cX0_init 20 = .ok (.aload_n 0, 1) := by decide +kernel
theorem dX0_init_21 : decode cX0_init 21 = .ok (.iconst 4, 1) := by decide +kernel
theorem dX0_init_22 : decode cX0_init 22 = .ok (.newarray .int, 2) := by decide +kernel
theorem dX0_init_24 : decode cX0_init 24 = .ok (.dup, 1) := by decide +kernel
theorem dX0_init_25 : decode cX0_init 25 = .ok (.iconst 0, 1) := by decide +kernel
theorem dX0_init_26 : decode cX0_init 26 = .ok (.iconst 3, 1) := by decide +kernel
theorem dX0_init_27 : decode cX0_init 27 = .ok (.iastore, 1) := by decide +kernel
theorem dX0_init_28 : decode cX0_init 28 = .ok (.dup, 1) := by decide +kernel
theorem dX0_init_29 : decode cX0_init 29 = .ok (.iconst 1, 1) := by decide +kernel
theorem dX0_init_30 : decode cX0_init 30 = .ok (.iconst 2, 1) := by decide +kernel
theorem dX0_init_31 : decode cX0_init 31 = .ok (.iastore, 1) := by decide +kernel
theorem dX0_init_32 : decode cX0_init 32 = .ok (.dup, 1) := by decide +kernel
theorem dX0_init_33 : decode cX0_init 33 = .ok (.iconst 2, 1) := by decide +kernel
theorem dX0_init_34 : decode cX0_init 34 = .ok (.iconst 4, 1) := by decide +kernel
theorem dX0_init_35 : decode cX0_init 35 = .ok (.iastore, 1) := by decide +kernel
theorem dX0_init_36 : decode cX0_init 36 = .ok (.dup, 1) := by decide +kernel
theorem dX0_init_37 : decode cX0_init 37 = .ok (.iconst 3, 1) := by decide +kernel
theorem dX0_init_38 : decode cX0_init 38 = .ok (.iconst 2, 1) := by decide +kernel
theorem dX0_init_39 : decode cX0_init 39 = .ok (.iastore, 1) := by decide +kernel
theorem dX0_init_40 : decode cX0_init 40 = .ok (.putfield 20, 3) := by decide +kernel
theorem dX0_init_43 : decode cX0_init 43 = .ok (.iconst 0, 1) := by decide +kernel
theorem dX0_init_44 : decode cX0_init 44 = .ok (.istore_n 1, 1) := by decide +kernel
theorem dX0_init_45 : decode cX0_init 45 = .ok (.iload_n 1, 1) := by decide +kernel
theorem dX0_init_46 : decode cX0_init 46 = .ok (.iconst 3, 1) := by decide +kernel
theorem dX0_init_47 : decode cX0_init 47 = .ok (.if_icmp .ge 24, 3) := by decide +kernel
theorem dX0_init_50 : decode cX0_init 50 = .ok (.aload_n 0, 1) := by decide +kernel
theorem dX0_init_51 : decode cX0_init 51 = .ok (.getfield 11, 3) := by decide +kernel
theorem dX0_init_54 : decode cX0_init 54 = .ok (.iload_n 1, 1) := by decide +kernel
theorem dX0_init_55 : decode cX0_init 55 = .ok (.new 9, 3) := by decide +kernel
theorem dX0_init_58 : decode cX0_init 58 = .ok (.dup, 1) := by decide +kernel
theorem dX0_init_59 : decode cX0_init 59 = .ok (.bipush 9, 2) := by decide +kernel
theorem dX0_init_61 : decode cX0_init 61 = .ok (.invokespecial 24, 3) := by decide +kernel
theorem dX0_init_64 : decode cX0_init 64 = .ok (.aastore, 1) := by decide +kernel
theorem dX0_init_65 : decode cX0_init 65 = .ok (.iinc 1 1, 3) := by decide +kernel
theorem dX0_init_68 : decode cX0_init 68 = .ok (.goto (-23), 3) := by decide +kernel
theorem dX0_init_71 : decode cX0_init 71 = .ok (.iconst 0, 1) := by decide +kernel
theorem dX0_init_72 : decode cX0_init 72 = .ok (.istore_n 1, 1) := by decide +kernel
theorem dX0_init_73 : decode cX0_init 73 = .ok (.iload_n 1, 1) := by decide +kernel
theorem dX0_init_74 : decode cX0_init 74 = .ok (.iconst 4, 1) := by decide +kernel
theorem dX0_init_75 : decode cX0_init 75 = .ok (.if_icmp .ge 24, 3) := by decide +kernel
theorem dX0_init_78 : decode cX0_init 78 = .ok (.aload_n 0, 1) := by decide +kernel
theorem dX0_init_79 : decode cX0_init 79 = .ok (.getfield 17, 3) := by decide +kernel
theorem dX0_init_82 : decode cX0_init 82 = .ok (.iload_n 1, 1) := by decide +kernel
theorem dX0_init_83 : decode cX0_init 83 = .ok (.new 9, 3) := by decide +kernel
theorem dX0_init_86 : decode cX0_init 86 = .ok (.dup, 1) := by decide +kernel
theorem dX0_init_87 : decode cX0_init 87 = .ok (.bipush 11, 2) := by decide +kernel
theorem dX0_init_89 : decode cX0_init 89 = .ok (.invokespecial 24, 3) := by decide +kernel
theorem dX0_init_92 : decode cX0_init 92 = .ok (.aastore, 1) := by decide +kernel
theorem dX0_init_93 : decode cX0_init 93 = .ok (.iinc 1 1, 3) := by decide +kernel
theorem dX0_init_96 : decode cX0_init 96 = .ok (.goto (-23), 3) := by decide +kernel
theorem dX0_init_99 : decode cX0_init 99 = .ok (.return_, 1) := by decide +kernel
theorem dX0_copyFrom_0 : decode cX0_copyFrom 0 = .ok (.iconst 0, 1) := by decide +kernel
theorem dX0_copyFrom_1 : decode cX0_copyFrom 1 = .ok (.istore_n 2, 1) := by decide +kernel
theorem dX0_copyFrom_2 : decode cX0_copyFrom 2 = .ok (.iload_n 2, 1) := by decide +kernel
theorem dX0_copyFrom_3 : decode cX0_copyFrom 3 = .ok (.iconst 3, 1) := by decide +kernel
theorem dX0_copyFrom_4 : decode cX0_copyFrom 4 = .ok (.if_icmp .ge 24, 3) := by decide +kernel
theorem dX0_copyFrom_7 : decode cX0_copyFrom 7 = .ok (.aload_n 0, 1) := by decide +kernel
theorem dX0_copyFrom_8 : decode cX0_copyFrom 8 = .ok (.getfield 11, 3) := by decide +kernel
theorem dX0_copyFrom_11 : decode cX0_copyFrom 11 = .ok (.iload_n 2, 1) := by decide +kernel
theorem dX0_copyFrom_12 : decode cX0_copyFrom 12 = .ok (.aaload, 1) := by decide +kernel
theorem dX0_copyFrom_13 : decode cX0_copyFrom 13 = .ok (.aload_n 1, 1) := by decide +kernel
theorem dX0_copyFrom_14 : decode cX0_copyFrom 14 = .ok (.getfield 11, 3) := by decide +kernel
theorem dX0_copyFrom_17 : decode cX0_copyFrom 17 = .ok (.iload_n 2, 1) := by decide +kernel
theorem dX0_copyFrom_18 : decode cX0_copyFrom 18 = .ok (.aaload, 1) := by decide +kernel
theorem dX0_copyFrom_19 : decode cX0_copyFrom 19 = .ok (.invokevirtual 27, 3) := by decide +kernel
theorem dX0_copyFrom_22 : decode cX0_copyFrom 22 = .ok (.iinc 2 1, 3) := by decide +kernel
theorem dX0_copyFrom_25 : decode cX0_copyFrom 25 = .ok (.goto (-23), 3) := by decide +kernel
theorem dX0_copyFrom_28 : decode cX0_copyFrom 28 = .ok (.iconst 0, 1) := by decide +kernel
theorem dX0_copyFrom_29 : decode cX0_copyFrom 29 = .ok (.istore_n 2, 1) := by decide +kernel
theorem dX0_copyFrom_30 : decode cX0_copyFrom 30 = .ok (.iload_n 2, 1) := by decide +kernel
theorem dX0_copyFrom_31 : decode cX0_copyFrom 31 = .ok (.iconst 4, 1) := by decide +kernel
theorem dX0_copyFrom_32 : decode cX0_copyFrom 32 = .ok (.if_icmp .ge 24, 3) := by decide +kernel
theorem dX0_copyFrom_35 : decode cX0_copyFrom 35 = .ok (.aload_n 0, 1) := by decide +kernel
theorem dX0_copyFrom_36 : decode cX0_copyFrom 36 = .ok (.getfield 17, 3) := by decide +kernel
theorem dX0_copyFrom_39 : decode cX0_copyFrom 39 = .ok (.iload_n 2, 1) := by decide +kernel
theorem dX0_copyFrom_40 : decode cX0_copyFrom 40 = .ok (.aaload, 1) := by decide +kernel
theorem dX0_copyFrom_41 : decode cX0_copyFrom 41 = .ok (.aload_n 1, 1) := by decide +kernel
theorem dX0_copyFrom_42 : decode cX0_copyFrom 42 = .ok (.getfield 17, 3) := by decide +kernel
theorem dX0_copyFrom_45 : decode cX0_copyFrom 45 = .ok (.iload_n 2, 1) := by decide +kernel
theorem dX0_copyFrom_46 : decode cX0_copyFrom 46 = .ok (.aaload, 1) := by decide +kernel
theorem dX0_copyFrom_47 : decode cX0_copyFrom 47 = .ok (.invokevirtual 27, 3) := by decide +kernel
theorem dX0_copyFrom_50 : decode cX0_copyFrom 50 = .ok (.iinc 2 1, 3) := by decide +kernel
theorem dX0_copyFrom_53 : decode cX0_copyFrom 53 = .ok (.goto (-23), 3) := by decide +kernel
theorem dX0_copyFrom_56 : decode cX0_copyFrom 56 = .ok (.aload_n 1, 1) := by decide +kernel
theorem dX0_copyFrom_57 : decode cX0_copyFrom 57 = .ok (.getfield 20, 3) := by decide +kernel
theorem dX0_copyFrom_60 : decode cX0_copyFrom 60 = .ok (.iconst 0, 1) := by decide +kernel
theorem dX0_copyFrom_61 : decode cX0_copyFrom 61 = .ok (.aload_n 0, 1) := by decide +kernel
theorem dX0_copyFrom_62 : decode cX0_copyFrom 62 = .ok (.getfield 20, 3) := by decide +kernel
theorem dX0_copyFrom_65 : decode cX0_copyFrom 65 = .ok (.iconst 0, 1) := by decide +kernel
theorem dX0_copyFrom_66 : decode cX0_copyFrom 66 = .ok (.iconst 4, 1) := by decide +kernel
theorem dX0_copyFrom_67 : decode cX0_copyFrom 67 = .ok (.invokestatic 31, 3) := by decide +kernel
theorem dX0_copyFrom_70 : decode cX0_copyFrom 70 = .ok (.return_, 1) := by decide +kernel
theorem dX0_syllablesInAll_0 : decode cX0_syllablesInAll 0 = .ok (.iconst 0, 1) := by decide +kernel
theorem dX0_syllablesInAll_1 : decode cX0_syllablesInAll 1 = .ok (.istore_n 1, 1) := by decide +kernel
theorem dX0_syllablesInAll_2 : decode cX0_syllablesInAll 2 = .ok (.iconst 0, 1) := by decide +kernel
theorem dX0_syllablesInAll_3 : decode cX0_syllablesInAll 3 = .ok (.istore_n 2, 1) := by decide +kernel
theorem dX0_syllablesInAll_4 : decode cX0_syllablesInAll 4 = .ok (.iload_n 2, 1) := by decide +kernel
theorem dX0_syllablesInAll_5 : decode cX0_syllablesInAll 5 = .ok (.iconst 3, 1) := by decide +kernel
theorem dX0_syllablesInAll_6 : decode cX0_syllablesInAll 6 = .ok (.if_icmp .ge 21, 3) := by decide +kernel
theorem dX0_syllablesInAll_9 : decode cX0_syllablesInAll 9 = .ok (.iload_n 1, 1) := by decide +kernel
theorem dX0_syllablesInAll_10 : decode cX0_syllablesInAll 10 = .ok (.aload_n 0, 1) := by decide +kernel
theorem dX0_syllablesInAll_11 : decode cX0_syllablesInAll 11 = .ok (.getfield 11, 3) := by decide +kernel
theorem dX0_syllablesInAll_14 : decode cX0_syllablesInAll 14 = .ok (.iload_n 2, 1) := by decide +kernel
theorem dX0_syllablesInAll_15 : decode cX0_syllablesInAll 15 = .ok (.aaload, 1) := by decide +kernel
theorem dX0_syllablesInAll_16 : decode cX0_syllablesInAll 16 = .ok (.getfield 37, 3) := by decide +kernel
theorem dX0_syllablesInAll_19 : decode cX0_syllablesInAll 19 = .ok (.iadd, 1) := by decide +kernel
theorem dX0_syllablesInAll_20 : decode cX0_syllablesInAll 20 = .ok (.istore_n 1, 1) := by decide +kernel
theorem dX0_syllablesInAll_21 : decode cX0_syllablesInAll 21 = .ok (.iinc 2 1, 3) := by decide +kernel
theorem dX0_syllablesInAll_24 : decode cX0_syllablesInAll 24 = .ok (.goto (-20), 3) := by decide +kernel
theorem dX0_syllablesInAll_27 : decode cX0_syllablesInAll 27 = .ok (.iload_n 1, 1) := by decide +kernel
theorem dX0_syllablesInAll_28 : decode cX0_syllablesInAll 28 = .ok (.ireturn, 1) := by decide +kernel
theorem dX0_notesInAll_0 : decode cX0_notesInAll 0 = .ok (.iconst 0, 1) := by decide +kernel
theorem dX0_notesInAll_1 : decode cX0_notesInAll 1 = .ok (.istore_n 1, 1) := by decide +kernel
theorem dX0_notesInAll_2 : decode cX0_notesInAll 2 = .ok (.iconst 0, 1) := by decide +kernel
theorem dX0_notesInAll_3 : decode cX0_notesInAll 3 = .ok (.istore_n 2, 1) := by decide +kernel
theorem dX0_notesInAll_4 : decode cX0_notesInAll 4 = .ok (.iload_n 2, 1) := by decide +kernel
theorem dX0_notesInAll_5 : decode cX0_notesInAll 5 = .ok (.iconst 4, 1) := by decide +kernel
theorem dX0_notesInAll_6 : decode cX0_notesInAll 6 = .ok (.if_icmp .ge 21, 3) := by decide +kernel
theorem dX0_notesInAll_9 : decode cX0_notesInAll 9 = .ok (.iload_n 1, 1) := by decide +kernel
theorem dX0_notesInAll_10 : decode cX0_notesInAll 10 = .ok (.aload_n 0, 1) := by decide +kernel
theorem dX0_notesInAll_11 : decode cX0_notesInAll 11 = .ok (.getfield 17, 3) := by decide +kernel
theorem dX0_notesInAll_14 : decode cX0_notesInAll 14 = .ok (.iload_n 2, 1) := by decide +kernel
theorem dX0_notesInAll_15 : decode cX0_notesInAll 15 = .ok (.aaload, 1) := by decide +kernel
theorem dX0_notesInAll_16 : decode cX0_notesInAll 16 = .ok (.getfield 37, 3) := by decide +kernel
theorem dX0_notesInAll_19 : decode cX0_notesInAll 19 = .ok (.iadd, 1) := by decide +kernel
theorem dX0_notesInAll_20 : decode cX0_notesInAll 20 = .ok (.istore_n 1, 1) := by decide +kernel
theorem dX0_notesInAll_21 : decode cX0_notesInAll 21 = .ok (.iinc 2 1, 3) := by decide +kernel
theorem dX0_notesInAll_24 : decode cX0_notesInAll 24 = .ok (.goto (-20), 3) := by decide +kernel
theorem dX0_notesInAll_27 : decode cX0_notesInAll 27 = .ok (.iload_n 1, 1) := by decide +kernel
theorem dX0_notesInAll_28 : decode cX0_notesInAll 28 = .ok (.ireturn, 1) := by decide +kernel
theorem dX0_lengthsInAll_0 : decode cX0_lengthsInAll 0 = .ok (.iconst 0, 1) := by decide +kernel
theorem dX0_lengthsInAll_1 : decode cX0_lengthsInAll 1 = .ok (.istore_n 1, 1) := by decide +kernel
theorem dX0_lengthsInAll_2 : decode cX0_lengthsInAll 2 = .ok (.iconst 0, 1) := by decide +kernel
theorem dX0_lengthsInAll_3 : decode cX0_lengthsInAll 3 = .ok (.istore_n 2, 1) := by decide +kernel
theorem dX0_lengthsInAll_4 : decode cX0_lengthsInAll 4 = .ok (.iload_n 2, 1) := by decide +kernel
theorem dX0_lengthsInAll_5 : decode cX0_lengthsInAll 5 = .ok (.iconst 4, 1) := by decide +kernel
theorem dX0_lengthsInAll_6 : decode cX0_lengthsInAll 6 = .ok (.if_icmp .ge 21, 3) := by decide +kernel
theorem dX0_lengthsInAll_9 : decode cX0_lengthsInAll 9 = .ok (.iload_n 1, 1) := by decide +kernel
theorem dX0_lengthsInAll_10 : decode cX0_lengthsInAll 10 = .ok (.aload_n 0, 1) := by decide +kernel
theorem dX0_lengthsInAll_11 : decode cX0_lengthsInAll 11 = .ok (.getfield 17, 3) := by decide +kernel
theorem dX0_lengthsInAll_14 : decode cX0_lengthsInAll 14 = .ok (.iload_n 2, 1) := by decide +kernel
theorem dX0_lengthsInAll_15 : decode cX0_lengthsInAll 15 = .ok (.aaload, 1) := by decide +kernel
theorem dX0_lengthsInAll_16 : decode cX0_lengthsInAll 16 = .ok (.invokevirtual 41, 3) := by decide +kernel
theorem dX0_lengthsInAll_19 : decode cX0_lengthsInAll 19 = .ok (.iadd, 1) := by decide +kernel
theorem dX0_lengthsInAll_20 : decode cX0_lengthsInAll 20 = .ok (.istore_n 1, 1) := by decide +kernel
theorem dX0_lengthsInAll_21 : decode cX0_lengthsInAll 21 = .ok (.iinc 2 1, 3) := by decide +kernel
theorem dX0_lengthsInAll_24 : decode cX0_lengthsInAll 24 = .ok (.goto (-20), 3) := by decide +kernel
theorem dX0_lengthsInAll_27 : decode cX0_lengthsInAll 27 = .ok (.iload_n 1, 1) := by decide +kernel
theorem dX0_lengthsInAll_28 : decode cX0_lengthsInAll 28 = .ok (.ireturn, 1) := by decide +kernel
theorem dX2_init_0 : decode cX2_init 0 = .ok (.aload_n 0, 1) := by decide +kernel
theorem dX2_init_1 : decode cX2_init 1 = .ok (.invokespecial 3, 3) := by decide +kernel
theorem dX2_init_4 : decode cX2_init 4 = .ok (.aload_n 0, 1) := by decide +kernel
theorem dX2_init_5 : decode cX2_init 5 = .ok (.bipush 22, 2) := by decide +kernel
theorem dX2_init_7 : decode cX2_init 7 = .ok (.newarray .int, 2) := by decide +kernel
theorem dX2_init_9 : decode cX2_init 9 = .ok (.putfield 9, 3) := by decide +kernel
theorem dX2_init_12 : decode cX2_init 12 = .ok (.aload_n 0, 1) := by decide +kernel
theorem dX2_init_13 : decode cX2_init 13 = .ok (.iconst 0, 1) := by decide +kernel
theorem dX2_init_14 : decode cX2_init 14 = .ok (.putfield 15, 3) := by decide +kernel
theorem dX2_init_17 : decode cX2_init 17 = .ok (.return_, 1) := by decide +kernel
theorem dX2_put_0 : decode cX2_put 0 = .ok (.aload_n 0, 1) := by decide +kernel
theorem dX2_put_1 : decode cX2_put 1 = .ok (.getfield 15, 3) := by decide +kernel
theorem dX2_put_4 : decode cX2_put 4 = .ok (.bipush 22, 2) := by decide +kernel
theorem dX2_put_6 : decode cX2_put 6 = .ok (.if_icmp .ge 23, 3) := by decide +kernel
theorem dX2_put_9 : decode cX2_put 9 = .ok (.aload_n 0, 1) := by decide +kernel
theorem dX2_put_10 : decode cX2_put 10 = .ok (.getfield 9, 3) := by decide +kernel
theorem dX2_put_13 : decode cX2_put 13 = .ok (.aload_n 0, 1) := by decide +kernel
theorem dX2_put_14 : decode cX2_put 14 = .ok (.getfield 15, 3) := by decide +kernel
theorem dX2_put_17 : decode cX2_put 17 = .ok (.iload_n 1, 1) := by decide +kernel
theorem dX2_put_18 : decode cX2_put 18 = .ok (.iastore, 1) := by decide +kernel
theorem dX2_put_19 : decode cX2_put 19 = .ok (.aload_n 0, 1) := by decide +kernel
theorem dX2_put_20 : decode cX2_put 20 = .ok (.dup, 1) := by decide +kernel
theorem dX2_put_21 : decode cX2_put 21 = .ok (.getfield 15, 3) := by decide +kernel
theorem dX2_put_24 : decode cX2_put 24 = .ok (.iconst 1, 1) := by decide +kernel
theorem dX2_put_25 : decode cX2_put 25 = .ok (.iadd, 1) := by decide +kernel
theorem dX2_put_26 : decode cX2_put 26 = .ok (.putfield 15, 3) := by decide +kernel
theorem dX2_put_29 : decode cX2_put 29 = .ok (.return_, 1) := by decide +kernel
theorem dX2_clear_0 : decode cX2_clear 0 = .ok (.aload_n 0, 1) := by decide +kernel
theorem dX2_clear_1 : decode cX2_clear 1 = .ok (.iconst 0, 1) := by decide +kernel
theorem dX2_clear_2 : decode cX2_clear 2 = .ok (.putfield 15, 3) := by decide +kernel
theorem dX2_clear_5 : decode cX2_clear 5 = .ok (.return_, 1) := by decide +kernel
theorem dX2_faultAsLine_0 : decode cX2_faultAsLine 0 = .ok (.iconst 0, 1) := by decide +kernel
theorem dX2_faultAsLine_1 : decode cX2_faultAsLine 1 = .ok (.istore_n 1, 1) := by decide +kernel
theorem dX2_faultAsLine_2 : decode cX2_faultAsLine 2 = .ok (.iconst 0, 1) := by decide +kernel
theorem dX2_faultAsLine_3 : decode cX2_faultAsLine 3 = .ok (.istore_n 2, 1) := by decide +kernel
theorem dX2_faultAsLine_4 : decode cX2_faultAsLine 4 = .ok (.iconst 0, 1) := by decide +kernel
theorem dX2_faultAsLine_5 : decode cX2_faultAsLine 5 = .ok (.istore_n 3, 1) := by decide +kernel
theorem dX2_faultAsLine_6 : decode cX2_faultAsLine 6 = .ok (.iload_n 3, 1) := by decide +kernel
theorem dX2_faultAsLine_7 : decode cX2_faultAsLine 7 = .ok (.aload_n 0, 1) := by decide +kernel
theorem dX2_faultAsLine_8 : decode cX2_faultAsLine 8 = .ok (.getfield 15, 3) := by decide +kernel
theorem dX2_faultAsLine_11 : decode cX2_faultAsLine 11 = .ok (.if_icmp .ge 61, 3) := by decide +kernel
theorem dX2_faultAsLine_14 : decode cX2_faultAsLine 14 = .ok (.iload_n 2, 1) := by decide +kernel
theorem dX2_faultAsLine_15 : decode cX2_faultAsLine 15 = .ok (.ifCond .eq 19, 3) := by decide +kernel
theorem dX2_faultAsLine_18 : decode cX2_faultAsLine 18 = .ok (.aload_n 0, 1) := by decide +kernel
theorem dX2_faultAsLine_19 : decode cX2_faultAsLine 19 = .ok (.getfield 9, 3) := by decide +kernel
theorem dX2_faultAsLine_22 : decode cX2_faultAsLine 22 = .ok (.iload_n 3, 1) := by decide +kernel
theorem dX2_faultAsLine_23 : decode cX2_faultAsLine 23 = .ok (.iaload, 1) := by decide +kernel
theorem dX2_faultAsLine_24 : decode cX2_faultAsLine 24 = .ok (.bipush 45, 2) := by decide +kernel
theorem dX2_faultAsLine_26 : decode cX2_faultAsLine 26 = .ok (.if_icmp .ne 8, 3) := by decide +kernel
theorem dX2_faultAsLine_29 : decode cX2_faultAsLine 29 = .ok (.iconst 0, 1) := by decide +kernel
theorem dX2_faultAsLine_30 : decode cX2_faultAsLine 30 = .ok (.istore_n 2, 1) := by decide +kernel
theorem dX2_faultAsLine_31 : decode cX2_faultAsLine 31 = .ok (.goto 35, 3) := by decide +kernel
theorem dX2_faultAsLine_34 : decode cX2_faultAsLine 34 = .ok (.iload_n 1, 1) := by decide +kernel
theorem dX2_faultAsLine_35 : decode cX2_faultAsLine 35 = .ok (.bipush 9, 2) := by decide +kernel
theorem dX2_faultAsLine_37 : decode cX2_faultAsLine 37 = .ok (.if_icmp .ge 27, 3) := by decide +kernel
theorem dX2_faultAsLine_40 : decode cX2_faultAsLine 40 = .ok (.aload_n 0, 1) := by decide +kernel
theorem dX2_faultAsLine_41 : decode cX2_faultAsLine 41 = .ok (.getfield 9, 3) := by decide +kernel
theorem dX2_faultAsLine_44 : decode cX2_faultAsLine 44 = .ok (.iload_n 3, 1) := by decide +kernel
theorem dX2_faultAsLine_45 : decode cX2_faultAsLine 45 = .ok (.iaload, 1) := by decide +kernel
theorem dX2_faultAsLine_46 : decode cX2_faultAsLine 46 = .ok (.bipush 48, 2) := by decide +kernel
theorem dX2_faultAsLine_48 : decode cX2_faultAsLine 48 = .ok (.bipush 50, 2) := by decide +kernel
theorem dX2_faultAsLine_50 : decode cX2_faultAsLine 50 = .ok (.invokestatic 19, 3) := by decide +kernel
theorem dX2_faultAsLine_53 : decode cX2_faultAsLine 53 = .ok (.ifCond .eq 11, 3) := by decide +kernel
theorem dX2_faultAsLine_56 : decode cX2_faultAsLine 56 = .ok (.iinc 1 1, 3) := by decide +kernel
theorem dX2_faultAsLine_59 : decode cX2_faultAsLine 59 = .ok (.iconst 1, 1) := by decide +kernel
theorem dX2_faultAsLine_60 : decode cX2_faultAsLine 60 = .ok (.istore_n 2, 1) := by decide +kernel
theorem dX2_faultAsLine_61 : decode cX2_faultAsLine 61 = .ok (.goto 5, 3) := by decide +kernel
theorem dX2_faultAsLine_64 : decode cX2_faultAsLine 64 = .ok (.iload_n 3, 1) := by decide +kernel
theorem dX2_faultAsLine_65 : decode cX2_faultAsLine 65 = .ok (.ireturn, 1) := by decide +kernel
theorem dX2_faultAsLine_66 : decode cX2_faultAsLine 66 = .ok (.iinc 3 1, 3) := by decide +kernel
theorem dX2_faultAsLine_69 : decode cX2_faultAsLine 69 = .ok (.goto (-63), 3) := by decide +kernel
theorem dX2_faultAsLine_72 : decode cX2_faultAsLine 72 = .ok (.bipush (-6), 2) := by decide +kernel
theorem dX2_faultAsLine_74 : decode cX2_faultAsLine 74 = .ok (.ireturn, 1) := by decide +kernel
theorem dX2_faultAsTune_0 : decode cX2_faultAsTune 0 = .ok (.iconst 0, 1) := by decide +kernel
theorem dX2_faultAsTune_1 : decode cX2_faultAsTune 1 = .ok (.istore_n 1, 1) := by decide +kernel
theorem dX2_faultAsTune_2 : decode cX2_faultAsTune 2 = .ok (.iload_n 1, 1) := by decide +kernel
theorem dX2_faultAsTune_3 : decode cX2_faultAsTune 3 = .ok (.aload_n 0, 1) := by decide +kernel
theorem dX2_faultAsTune_4 : decode cX2_faultAsTune 4 = .ok (.getfield 15, 3) := by decide +kernel
theorem dX2_faultAsTune_7 : decode cX2_faultAsTune 7 = .ok (.if_icmp .ge 61, 3) := by decide +kernel
theorem dX2_faultAsTune_10 : decode cX2_faultAsTune 10 = .ok (.iload_n 1, 1) := by decide +kernel
theorem dX2_faultAsTune_11 : decode cX2_faultAsTune 11 = .ok (.iconst 2, 1) := by decide +kernel
theorem dX2_faultAsTune_12 : decode cX2_faultAsTune 12 = .ok (.irem, 1) := by decide +kernel
theorem dX2_faultAsTune_13 : decode cX2_faultAsTune 13 = .ok (.ifCond .ne 7, 3) := by decide +kernel
theorem dX2_faultAsTune_16 : decode cX2_faultAsTune 16 = .ok (.iconst 1, 1) := by decide +kernel
theorem dX2_faultAsTune_17 : decode cX2_faultAsTune 17 = .ok (.goto 4, 3) := by decide +kernel
theorem dX2_faultAsTune_20 : decode cX2_faultAsTune 20 = .ok (.iconst 0, 1) := by decide +kernel
theorem dX2_faultAsTune_21 : decode cX2_faultAsTune 21 = .ok (.istore_n 2, 1) := by decide +kernel
theorem dX2_faultAsTune_22 : decode cX2_faultAsTune 22 = .ok (.iload_n 2, 1) := by decide +kernel
theorem dX2_faultAsTune_23 : decode cX2_faultAsTune 23 = .ok (.ifCond .eq 19, 3) := by decide +kernel
theorem dX2_faultAsTune_26 : decode cX2_faultAsTune 26 = .ok (.aload_n 0, 1) := by decide +kernel
theorem dX2_faultAsTune_27 : decode cX2_faultAsTune 27 = .ok (.getfield 9, 3) := by decide +kernel
theorem dX2_faultAsTune_30 : decode cX2_faultAsTune 30 = .ok (.iload_n 1, 1) := by decide +kernel
theorem dX2_faultAsTune_31 : decode cX2_faultAsTune 31 = .ok (.iaload, 1) := by decide +kernel
theorem dX2_faultAsTune_32 : decode cX2_faultAsTune 32 = .ok (.bipush 48, 2) := by decide +kernel
theorem dX2_faultAsTune_34 : decode cX2_faultAsTune 34 = .ok (.bipush 50, 2) := by decide +kernel
theorem dX2_faultAsTune_36 : decode cX2_faultAsTune 36 = .ok (.invokestatic 19, 3) := by decide +kernel
theorem dX2_faultAsTune_39 : decode cX2_faultAsTune 39 = .ok (.goto 16, 3) := by decide +kernel
theorem dX2_faultAsTune_42 : decode cX2_faultAsTune 42 = .ok (.aload_n 0, 1) := by decide +kernel
theorem dX2_faultAsTune_43 : decode cX2_faultAsTune 43 = .ok (.getfield 9, 3) := by decide +kernel
theorem dX2_faultAsTune_46 : decode cX2_faultAsTune 46 = .ok (.iload_n 1, 1) := by decide +kernel
theorem dX2_faultAsTune_47 : decode cX2_faultAsTune 47 = .ok (.iaload, 1) := by decide +kernel
theorem dX2_faultAsTune_48 : decode cX2_faultAsTune 48 = .ok (.bipush 49, 2) := by decide +kernel
theorem dX2_faultAsTune_50 : decode cX2_faultAsTune 50 = .ok (.bipush 52, 2) := by decide +kernel
theorem dX2_faultAsTune_52 : decode cX2_faultAsTune 52 = .ok (.invokestatic 19, 3) := by decide +kernel
theorem dX2_faultAsTune_55 : decode cX2_faultAsTune 55 = .ok (.istore_n 3, 1) := by decide +kernel
theorem dX2_faultAsTune_56 : decode cX2_faultAsTune 56 = .ok (.iload_n 3, 1) := by decide +kernel
theorem dX2_faultAsTune_57 : decode cX2_faultAsTune 57 = .ok (.ifCond .ne 5, 3) := by decide +kernel
theorem dX2_faultAsTune_60 : decode cX2_faultAsTune 60 = .ok (.iload_n 1, 1) := by decide +kernel
theorem dX2_faultAsTune_61 : decode cX2_faultAsTune 61 = .ok (.ireturn, 1) := by decide +kernel
theorem dX2_faultAsTune_62 : decode cX2_faultAsTune 62 = .ok (.iinc 1 1, 3) := by decide +kernel
theorem dX2_faultAsTune_65 : decode cX2_faultAsTune 65 = .ok (.goto (-63), 3) := by decide +kernel
theorem dX2_faultAsTune_68 : decode cX2_faultAsTune 68 = .ok (.aload_n 0, 1) := by decide +kernel
theorem dX2_faultAsTune_69 : decode cX2_faultAsTune 69 = .ok (.getfield 15, 3) := by decide +kernel
theorem dX2_faultAsTune_72 : decode cX2_faultAsTune 72 = .ok (.iconst 2, 1) := by decide +kernel
theorem dX2_faultAsTune_73 : decode cX2_faultAsTune 73 = .ok (.irem, 1) := by decide +kernel
theorem dX2_faultAsTune_74 : decode cX2_faultAsTune 74 = .ok (.ifCond .ne 8, 3) := by decide +kernel
theorem dX2_faultAsTune_77 : decode cX2_faultAsTune 77 = .ok (.bipush (-6), 2) := by decide +kernel
theorem dX2_faultAsTune_79 : decode cX2_faultAsTune 79 = .ok (.goto 7, 3) := by decide +kernel
theorem dX2_faultAsTune_82 : decode cX2_faultAsTune 82 = .ok (.aload_n 0, 1) := by decide +kernel
theorem dX2_faultAsTune_83 : decode cX2_faultAsTune 83 = .ok (.getfield 15, 3) := by decide +kernel
theorem dX2_faultAsTune_86 : decode cX2_faultAsTune 86 = .ok (.ireturn, 1) := by decide +kernel
theorem dX2_readLine_0 : decode cX2_readLine 0 = .ok (.aload_n 1, 1) := by decide +kernel
theorem dX2_readLine_1 : decode cX2_readLine 1 = .ok (.invokevirtual 23, 3) := by decide +kernel
theorem dX2_readLine_4 : decode cX2_readLine 4 = .ok (.iconst 0, 1) := by decide +kernel
theorem dX2_readLine_5 : decode cX2_readLine 5 = .ok (.istore_n 2, 1) := by decide +kernel
theorem dX2_readLine_6 : decode cX2_readLine 6 = .ok (.iload_n 2, 1) := by decide +kernel
theorem dX2_readLine_7 : decode cX2_readLine 7 = .ok (.aload_n 0, 1) := by decide +kernel
theorem dX2_readLine_8 : decode cX2_readLine 8 = .ok (.getfield 15, 3) := by decide +kernel
theorem dX2_readLine_11 : decode cX2_readLine 11 = .ok (.if_icmp .ge 41, 3) := by decide +kernel
theorem dX2_readLine_14 : decode cX2_readLine 14 = .ok (.aload_n 0, 1) := by decide +kernel
theorem dX2_readLine_15 : decode cX2_readLine 15 = .ok (.getfield 9, 3) := by decide +kernel
theorem dX2_readLine_18 : decode cX2_readLine 18 = .ok (.iload_n 2, 1) := by decide +kernel
theorem dX2_readLine_19 : decode cX2_readLine 19 = .ok (.iaload, 1) := by decide +kernel
theorem dX2_readLine_20 : decode cX2_readLine 20 = .ok (.bipush 45, 2) := by decide +kernel
theorem dX2_readLine_22 : decode cX2_readLine 22 = .ok (.if_icmp .ne 10, 3) := by decide +kernel
theorem dX2_readLine_25 : decode cX2_readLine 25 = .ok (.aload_n 1, 1) := by decide +kernel
theorem dX2_readLine_26 : decode cX2_readLine 26 = .ok (.invokevirtual 28, 3) := by decide +kernel
theorem dX2_readLine_29 : decode cX2_readLine 29 = .ok (.goto 17, 3) := by decide +kernel
theorem dX2_readLine_32 : decode cX2_readLine 32 = .ok (.aload_n 1, 1) := by decide +kernel
theorem dX2_readLine_33 : decode cX2_readLine 33 = .ok (.aload_n 0, 1) := by decide +kernel
theorem dX2_readLine_34 : decode cX2_readLine 34 = .ok (.getfield 9, 3) := by decide +kernel
theorem dX2_readLine_37 : decode cX2_readLine 37 = .ok (.iload_n 2, 1) := by decide +kernel
theorem dX2_readLine_38 : decode cX2_readLine 38 = .ok (.iaload, 1) := by decide +kernel
theorem dX2_readLine_39 : decode cX2_readLine 39 = .ok (.bipush 48, 2) := by decide +kernel
theorem dX2_readLine_41 : decode cX2_readLine 41 = .ok (.isub, 1) := by decide +kernel
theorem dX2_readLine_42 : decode cX2_readLine 42 = .ok (.iconst 0, 1) := by decide +kernel
theorem dX2_readLine_43 : decode cX2_readLine 43 = .ok (.invokevirtual 31, 3) := by decide +kernel
theorem dX2_readLine_46 : decode cX2_readLine 46 = .ok (.iinc 2 1, 3) := by decide +kernel
theorem dX2_readLine_49 : decode cX2_readLine 49 = .ok (.goto (-43), 3) := by decide +kernel
theorem dX2_readLine_52 : decode cX2_readLine 52 = .ok (.return_, 1) := by decide +kernel
theorem dX2_readTune_0 : decode cX2_readTune 0 = .ok (.aload_n 1, 1) := by decide +kernel
theorem dX2_readTune_1 : decode cX2_readTune 1 = .ok (.invokevirtual 23, 3) := by decide +kernel
theorem dX2_readTune_4 : decode cX2_readTune 4 = .ok (.iconst 0, 1) := by decide +kernel
theorem dX2_readTune_5 : decode cX2_readTune 5 = .ok (.istore_n 2, 1) := by decide +kernel
theorem dX2_readTune_6 : decode cX2_readTune 6 = .ok (.iload_n 2, 1) := by decide +kernel
theorem dX2_readTune_7 : decode cX2_readTune 7 = .ok (.iconst 1, 1) := by decide +kernel
theorem dX2_readTune_8 : decode cX2_readTune 8 = .ok (.iadd, 1) := by decide +kernel
theorem dX2_readTune_9 : decode cX2_readTune 9 = .ok (.aload_n 0, 1) := by decide +kernel
theorem dX2_readTune_10 : decode cX2_readTune 10 = .ok (.getfield 15, 3) := by decide +kernel
theorem dX2_readTune_13 : decode cX2_readTune 13 = .ok (.if_icmp .ge 33, 3) := by decide +kernel
theorem dX2_readTune_16 : decode cX2_readTune 16 = .ok (.aload_n 1, 1) := by decide +kernel
theorem dX2_readTune_17 : decode cX2_readTune 17 = .ok (.aload_n 0, 1) := by decide +kernel
theorem dX2_readTune_18 : decode cX2_readTune 18 = .ok (.getfield 9, 3) := by decide +kernel
theorem dX2_readTune_21 : decode cX2_readTune 21 = .ok (.iload_n 2, 1) := by decide +kernel
theorem dX2_readTune_22 : decode cX2_readTune 22 = .ok (.iaload, 1) := by decide +kernel
theorem dX2_readTune_23 : decode cX2_readTune 23 = .ok (.bipush 48, 2) := by decide +kernel
theorem dX2_readTune_25 : decode cX2_readTune 25 = .ok (.isub, 1) := by decide +kernel
theorem dX2_readTune_26 : decode cX2_readTune 26 = .ok (.aload_n 0, 1) := by decide +kernel
theorem dX2_readTune_27 : decode cX2_readTune 27 = .ok (.getfield 9, 3) := by decide +kernel
theorem dX2_readTune_30 : decode cX2_readTune 30 = .ok (.iload_n 2, 1) := by decide +kernel
theorem dX2_readTune_31 : decode cX2_readTune 31 = .ok (.iconst 1, 1) := by decide +kernel
theorem dX2_readTune_32 : decode cX2_readTune 32 = .ok (.iadd, 1) := by decide +kernel
theorem dX2_readTune_33 : decode cX2_readTune 33 = .ok (.iaload, 1) := by decide +kernel
theorem dX2_readTune_34 : decode cX2_readTune 34 = .ok (.bipush 48, 2) := by decide +kernel
theorem dX2_readTune_36 : decode cX2_readTune 36 = .ok (.isub, 1) := by decide +kernel
theorem dX2_readTune_37 : decode cX2_readTune 37 = .ok (.invokevirtual 31, 3) := by decide +kernel
theorem dX2_readTune_40 : decode cX2_readTune 40 = .ok (.iinc 2 2, 3) := by decide +kernel
theorem dX2_readTune_43 : decode cX2_readTune 43 = .ok (.goto (-37), 3) := by decide +kernel
theorem dX2_readTune_46 : decode cX2_readTune 46 = .ok (.return_, 1) := by decide +kernel
theorem dX2_hasStepsOnly_0 : decode cX2_hasStepsOnly 0 = .ok (.iconst 0, 1) := by decide +kernel
theorem dX2_hasStepsOnly_1 : decode cX2_hasStepsOnly 1 = .ok (.istore_n 1, 1) := by decide +kernel
theorem dX2_hasStepsOnly_2 : decode cX2_hasStepsOnly 2 = .ok (.iload_n 1, 1) := by decide +kernel
theorem dX2_hasStepsOnly_3 : decode cX2_hasStepsOnly 3 = .ok (.aload_n 0, 1) := by decide +kernel
theorem dX2_hasStepsOnly_4 : decode cX2_hasStepsOnly 4 = .ok (.getfield 15, 3) := by decide +kernel
theorem dX2_hasStepsOnly_7 : decode cX2_hasStepsOnly 7 = .ok (.if_icmp .ge 20, 3) := by decide +kernel
theorem dX2_hasStepsOnly_10 : decode cX2_hasStepsOnly 10 = .ok (.aload_n 0, 1) := by decide +kernel
theorem dX2_hasStepsOnly_11 : decode cX2_hasStepsOnly 11 = .ok (.iload_n 1, 1) := by decide +kernel
theorem dX2_hasStepsOnly_12 : decode cX2_hasStepsOnly 12 = .ok (.invokevirtual 35, 3) := by decide +kernel
theorem dX2_hasStepsOnly_15 : decode cX2_hasStepsOnly 15 = .ok (.iconst (-1), 1) := by decide +kernel
theorem dX2_hasStepsOnly_16 : decode cX2_hasStepsOnly 16 = .ok (.if_icmp .ne 5, 3) := by decide +kernel
theorem dX2_hasStepsOnly_19 : decode cX2_hasStepsOnly 19 = .ok (.iconst 0, 1) := by decide +kernel
theorem dX2_hasStepsOnly_20 : decode cX2_hasStepsOnly 20 = .ok (.ireturn, 1) := by decide +kernel
theorem dX2_hasStepsOnly_21 : decode cX2_hasStepsOnly 21 = .ok (.iinc 1 1, 3) := by decide +kernel
theorem dX2_hasStepsOnly_24 : decode cX2_hasStepsOnly 24 = .ok (.goto (-22), 3) := by decide +kernel
theorem dX2_hasStepsOnly_27 : decode cX2_hasStepsOnly 27 = .ok (.iconst 1, 1) := by decide +kernel
theorem dX2_hasStepsOnly_28 : decode cX2_hasStepsOnly 28 = .ok (.ireturn, 1) := by decide +kernel
theorem dX2_stepAt_0 : decode cX2_stepAt 0 = .ok (.iload_n 1, 1) := by decide +kernel
theorem dX2_stepAt_1 : decode cX2_stepAt 1 = .ok (.iconst 0, 1) := by decide +kernel
theorem dX2_stepAt_2 : decode cX2_stepAt 2 = .ok (.aload_n 0, 1) := by decide +kernel
theorem dX2_stepAt_3 : decode cX2_stepAt 3 = .ok (.getfield 15, 3) := by decide +kernel
theorem dX2_stepAt_6 : decode cX2_stepAt 6 = .ok (.iconst 1, 1) := by decide +kernel
theorem dX2_stepAt_7 : decode cX2_stepAt 7 = .ok (.isub, 1) := by decide +kernel
theorem dX2_stepAt_8 : decode cX2_stepAt 8 = .ok (.invokestatic 19, 3) := by decide +kernel
theorem dX2_stepAt_11 : decode cX2_stepAt 11 = .ok (.ifCond .ne 5, 3) := by decide +kernel
theorem dX2_stepAt_14 : decode cX2_stepAt 14 = .ok (.iconst (-1), 1) := by decide +kernel
theorem dX2_stepAt_15 : decode cX2_stepAt 15 = .ok (.ireturn, 1) := by decide +kernel
theorem dX2_stepAt_16 : decode cX2_stepAt 16 = .ok (.aload_n 0, 1) := by decide +kernel
theorem dX2_stepAt_17 : decode cX2_stepAt 17 = .ok (.getfield 9, 3) := by decide +kernel
theorem dX2_stepAt_20 : decode cX2_stepAt 20 = .ok (.iload_n 1, 1) := by decide +kernel
theorem dX2_stepAt_21 : decode cX2_stepAt 21 = .ok (.iaload, 1) := by decide +kernel
theorem dX2_stepAt_22 : decode cX2_stepAt 22 = .ok (.lookupswitch 40 #[(104, 36), (111, 34), (115, 38)], 34) := by decide +kernel
theorem dX2_stepAt_56 : decode cX2_stepAt 56 = .ok (.iconst 0, 1) := by decide +kernel
theorem dX2_stepAt_57 : decode cX2_stepAt 57 = .ok (.ireturn, 1) := by decide +kernel
theorem dX2_stepAt_58 : decode cX2_stepAt 58 = .ok (.iconst 1, 1) := by decide +kernel
theorem dX2_stepAt_59 : decode cX2_stepAt 59 = .ok (.ireturn, 1) := by decide +kernel
theorem dX2_stepAt_60 : decode cX2_stepAt 60 = .ok (.iconst 2, 1) := by decide +kernel
theorem dX2_stepAt_61 : decode cX2_stepAt 61 = .ok (.ireturn, 1) := by decide +kernel
theorem dX2_stepAt_62 : decode cX2_stepAt 62 = .ok (.iconst (-1), 1) := by decide +kernel
theorem dX2_stepAt_63 : decode cX2_stepAt 63 = .ok (.ireturn, 1) := by decide +kernel
theorem dX3_init_0 : decode cX3_init 0 = .ok (.aload_n 0, 1) := by decide +kernel
theorem dX3_init_1 : decode cX3_init 1 = .ok (.invokespecial 1, 3) := by decide +kernel
theorem dX3_init_4 : decode cX3_init 4 = .ok (.aload_n 0, 1) := by decide +kernel
theorem dX3_init_5 : decode cX3_init 5 = .ok (.iconst 0, 1) := by decide +kernel
theorem dX3_init_6 : decode cX3_init 6 = .ok (.putfield 7, 3) := by decide +kernel
theorem dX3_init_9 : decode cX3_init 9 = .ok (.aload_n 0, 1) := by decide +kernel
theorem dX3_init_10 : decode cX3_init 10 = .ok (.iload_n 1, 1) := by decide +kernel
theorem dX3_init_11 : decode cX3_init 11 = .ok (.iconst 0, 1) := by decide +kernel
theorem dX3_init_12 : decode cX3_init 12 = .ok (.invokestatic 13, 3) := by decide +kernel
theorem dX3_init_15 : decode cX3_init 15 = .ok (.putfield 19, 3) := by decide +kernel
theorem dX3_init_18 : decode cX3_init 18 = .ok (.aload_n 0, 1) := by decide +kernel
theorem dX3_init_19 : decode cX3_init 19 = .ok (.aload_n 0, 1) := by decide +kernel
theorem dX3_init_20 : decode cX3_init 20 = .ok (.getfield 19, 3) := by decide +kernel
theorem dX3_init_23 : decode cX3_init 23 = .ok (.newarray .int, 2) := by decide +kernel
theorem dX3_init_25 : decode cX3_init 25 = .ok (.putfield 22, 3) := by decide +kernel
theorem dX3_init_28 : decode cX3_init 28 = .ok (.aload_n 0, 1) := by decide +kernel
theorem dX3_init_29 : decode cX3_init 29 = .ok (.aload_n 0, 1) := by decide +kernel
theorem dX3_init_30 : decode cX3_init 30 = .ok (.getfield 19, 3) := by decide +kernel
theorem dX3_init_33 : decode cX3_init 33 = .ok (.newarray .int, 2) := by decide +kernel
theorem dX3_init_35 : decode cX3_init 35 = .ok (.putfield 26, 3) := by decide +kernel
theorem dX3_init_38 : decode cX3_init 38 = .ok (.return_, 1) := by decide +kernel
theorem dX3_clear_0 : decode cX3_clear 0 = .ok (.aload_n 0, 1) := by decide +kernel
theorem dX3_clear_1 : decode cX3_clear 1 = .ok (.iconst 0, 1) := by decide +kernel
theorem dX3_clear_2 : decode cX3_clear 2 = .ok (.putfield 7, 3) := by decide +kernel
theorem dX3_clear_5 : decode cX3_clear 5 = .ok (.return_, 1) := by decide +kernel
theorem dX3_add_0 : decode cX3_add 0 = .ok (.aload_n 0, 1) := by decide +kernel
theorem dX3_add_1 : decode cX3_add 1 = .ok (.getfield 7, 3) := by decide +kernel
theorem dX3_add_4 : decode cX3_add 4 = .ok (.aload_n 0, 1) := by decide +kernel
theorem dX3_add_5 : decode cX3_add 5 = .ok (.getfield 19, 3) := by decide +kernel
theorem dX3_add_8 : decode cX3_add 8 = .ok (.if_icmp .ge 33, 3) := by decide +kernel
theorem dX3_add_11 : decode cX3_add 11 = .ok (.aload_n 0, 1) := by decide +kernel
theorem dX3_add_12 : decode cX3_add 12 = .ok (.getfield 22, 3) := by decide +kernel
theorem dX3_add_15 : decode cX3_add 15 = .ok (.aload_n 0, 1) := by decide +kernel
theorem dX3_add_16 : decode cX3_add 16 = .ok (.getfield 7, 3) := by decide +kernel
theorem dX3_add_19 : decode cX3_add 19 = .ok (.iload_n 1, 1) := by decide +kernel
theorem dX3_add_20 : decode cX3_add 20 = .ok (.iastore, 1) := by decide +kernel
theorem dX3_add_21 : decode cX3_add 21 = .ok (.aload_n 0, 1) := by decide +kernel
theorem dX3_add_22 : decode cX3_add 22 = .ok (.getfield 26, 3) := by decide +kernel
theorem dX3_add_25 : decode cX3_add 25 = .ok (.aload_n 0, 1) := by decide +kernel
theorem dX3_add_26 : decode cX3_add 26 = .ok (.getfield 7, 3) := by decide +kernel
theorem dX3_add_29 : decode cX3_add 29 = .ok (.iload_n 2, 1) := by decide +kernel
theorem dX3_add_30 : decode cX3_add 30 = .ok (.iastore, 1) := by decide +kernel
theorem dX3_add_31 : decode cX3_add 31 = .ok (.aload_n 0, 1) := by decide +kernel
theorem dX3_add_32 : decode cX3_add 32 = .ok (.dup, 1) := by decide +kernel
theorem dX3_add_33 : decode cX3_add 33 = .ok (.getfield 7, 3) := by decide +kernel
theorem dX3_add_36 : decode cX3_add 36 = .ok (.iconst 1, 1) := by decide +kernel
theorem dX3_add_37 : decode cX3_add 37 = .ok (.iadd, 1) := by decide +kernel
theorem dX3_add_38 : decode cX3_add 38 = .ok (.putfield 7, 3) := by decide +kernel
theorem dX3_add_41 : decode cX3_add 41 = .ok (.return_, 1) := by decide +kernel
theorem dX3_lengthenLast_0 : decode cX3_lengthenLast 0 = .ok (.aload_n 0, 1) := by decide +kernel
theorem dX3_lengthenLast_1 : decode cX3_lengthenLast 1 = .ok (.getfield 7, 3) := by decide +kernel
theorem dX3_lengthenLast_4 : decode cX3_lengthenLast 4 = .ok (.ifCond .le 15, 3) := by decide +kernel
theorem dX3_lengthenLast_7 : decode cX3_lengthenLast 7 = .ok (.aload_n 0, 1) := by decide +kernel
theorem dX3_lengthenLast_8 : decode cX3_lengthenLast 8 = .ok (.getfield 26, 3) := by decide +kernel
theorem dX3_lengthenLast_11 : decode cX3_lengthenLast 11 = .ok (.aload_n 0, 1) := by decide +kernel
theorem dX3_lengthenLast_12 : decode cX3_lengthenLast 12 = .ok (.getfield 7, 3) := by decide +kernel
theorem dX3_lengthenLast_15 : decode cX3_lengthenLast 15 = .ok (.iconst 1, 1) := by decide +kernel
theorem dX3_lengthenLast_16 : decode cX3_lengthenLast 16 = .ok (.isub, 1) := by decide +kernel
theorem dX3_lengthenLast_17 : decode cX3_lengthenLast 17 = .ok (.iconst 1, 1) := by decide +kernel
theorem dX3_lengthenLast_18 : decode cX3_lengthenLast 18 = .ok (.iastore, 1) := by decide +kernel
theorem dX3_lengthenLast_19 : decode cX3_lengthenLast 19 = .ok (.return_, 1) := by decide +kernel
theorem dX3_addPlaces_0 : decode cX3_addPlaces 0 = .ok (.iload_n 3, 1) := by decide +kernel
theorem dX3_addPlaces_1 : decode cX3_addPlaces 1 = .ok (.aload_n 1, 1) := by decide +kernel
theorem dX3_addPlaces_2 : decode cX3_addPlaces 2 = .ok (.getfield 7, 3) := by decide +kernel
theorem dX3_addPlaces_5 : decode cX3_addPlaces 5 = .ok (.invokestatic 29, 3) := by decide +kernel
theorem dX3_addPlaces_8 : decode cX3_addPlaces 8 = .ok (.istore 4, 2) := by decide +kernel
theorem dX3_addPlaces_10 : decode cX3_addPlaces 10 = .ok (.iload_n 2, 1) := by decide +kernel
theorem dX3_addPlaces_11 : decode cX3_addPlaces 11 = .ok (.iconst 0, 1) := by decide +kernel
theorem dX3_addPlaces_12 : decode cX3_addPlaces 12 = .ok (.invokestatic 13, 3) := by decide +kernel
theorem dX3_addPlaces_15 : decode cX3_addPlaces 15 = .ok (.istore 5, 2) := by decide +kernel
theorem dX3_addPlaces_17 : decode cX3_addPlaces 17 = .ok (.iload 5, 2) := by decide +kernel
theorem dX3_addPlaces_19 : decode cX3_addPlaces 19 = .ok (.iload 4, 2) := by decide +kernel
theorem dX3_addPlaces_21 : decode cX3_addPlaces 21 = .ok (.if_icmp .ge 27, 3) := by decide +kernel
theorem dX3_addPlaces_24 : decode cX3_addPlaces 24 = .ok (.aload_n 0, 1) := by decide +kernel
theorem dX3_addPlaces_25 : decode cX3_addPlaces 25 = .ok (.aload_n 1, 1) := by decide +kernel
theorem dX3_addPlaces_26 : decode cX3_addPlaces 26 = .ok (.getfield 22, 3) := by decide +kernel
theorem dX3_addPlaces_29 : decode cX3_addPlaces 29 = .ok (.iload 5, 2) := by decide +kernel
theorem dX3_addPlaces_31 : decode cX3_addPlaces 31 = .ok (.iaload, 1) := by decide +kernel
theorem dX3_addPlaces_32 : decode cX3_addPlaces 32 = .ok (.aload_n 1, 1) := by decide +kernel
theorem dX3_addPlaces_33 : decode cX3_addPlaces 33 = .ok (.getfield 26, 3) := by decide +kernel
theorem dX3_addPlaces_36 : decode cX3_addPlaces 36 = .ok (.iload 5, 2) := by decide +kernel
theorem dX3_addPlaces_38 : decode cX3_addPlaces 38 = .ok (.iaload, 1) := by decide +kernel
theorem dX3_addPlaces_39 : decode cX3_addPlaces 39 = .ok (.invokevirtual 32, 3) := by decide +kernel
theorem dX3_addPlaces_42 : decode cX3_addPlaces 42 = .ok (.iinc 5 1, 3) := by decide +kernel
theorem dX3_addPlaces_45 : decode cX3_addPlaces 45 = .ok (.goto (-28), 3) := by decide +kernel
theorem dX3_addPlaces_48 : decode cX3_addPlaces 48 = .ok (.return_, 1) := by decide +kernel
theorem dX3_copyFrom_0 : decode cX3_copyFrom 0 = .ok (.aload_n 0, 1) := by decide +kernel
theorem dX3_copyFrom_1 : decode cX3_copyFrom 1 = .ok (.invokevirtual 36, 3) := by decide +kernel
theorem dX3_copyFrom_4 : decode cX3_copyFrom 4 = .ok (.aload_n 0, 1) := by decide +kernel
theorem dX3_copyFrom_5 : decode cX3_copyFrom 5 = .ok (.aload_n 1, 1) := by decide +kernel
theorem dX3_copyFrom_6 : decode cX3_copyFrom 6 = .ok (.iconst 0, 1) := by decide +kernel
theorem dX3_copyFrom_7 : decode cX3_copyFrom 7 = .ok (.aload_n 1, 1) := by decide +kernel
theorem dX3_copyFrom_8 : decode cX3_copyFrom 8 = .ok (.getfield 7, 3) := by decide +kernel
theorem dX3_copyFrom_11 : decode cX3_copyFrom 11 = .ok (.invokevirtual 39, 3) := by decide +kernel
theorem dX3_copyFrom_14 : decode cX3_copyFrom 14 = .ok (.return_, 1) := by decide +kernel
theorem dX3_spansInAll_0 : decode cX3_spansInAll 0 = .ok (.iconst 0, 1) := by decide +kernel
theorem dX3_spansInAll_1 : decode cX3_spansInAll 1 = .ok (.istore_n 1, 1) := by decide +kernel
theorem dX3_spansInAll_2 : decode cX3_spansInAll 2 = .ok (.iconst 0, 1) := by decide +kernel
theorem dX3_spansInAll_3 : decode cX3_spansInAll 3 = .ok (.istore_n 2, 1) := by decide +kernel
theorem dX3_spansInAll_4 : decode cX3_spansInAll 4 = .ok (.iload_n 2, 1) := by decide +kernel
theorem dX3_spansInAll_5 : decode cX3_spansInAll 5 = .ok (.aload_n 0, 1) := by decide +kernel
theorem dX3_spansInAll_6 : decode cX3_spansInAll 6 = .ok (.getfield 7, 3) := by decide +kernel
theorem dX3_spansInAll_9 : decode cX3_spansInAll 9 = .ok (.if_icmp .ge 18, 3) := by decide +kernel
theorem dX3_spansInAll_12 : decode cX3_spansInAll 12 = .ok (.iload_n 1, 1) := by decide +kernel
theorem dX3_spansInAll_13 : decode cX3_spansInAll 13 = .ok (.aload_n 0, 1) := by decide +kernel
theorem dX3_spansInAll_14 : decode cX3_spansInAll 14 = .ok (.getfield 26, 3) := by decide +kernel
theorem dX3_spansInAll_17 : decode cX3_spansInAll 17 = .ok (.iload_n 2, 1) := by decide +kernel
theorem dX3_spansInAll_18 : decode cX3_spansInAll 18 = .ok (.iaload, 1) := by decide +kernel
theorem dX3_spansInAll_19 : decode cX3_spansInAll 19 = .ok (.iadd, 1) := by decide +kernel
theorem dX3_spansInAll_20 : decode cX3_spansInAll 20 = .ok (.istore_n 1, 1) := by decide +kernel
theorem dX3_spansInAll_21 : decode cX3_spansInAll 21 = .ok (.iinc 2 1, 3) := by decide +kernel
theorem dX3_spansInAll_24 : decode cX3_spansInAll 24 = .ok (.goto (-20), 3) := by decide +kernel
theorem dX3_spansInAll_27 : decode cX3_spansInAll 27 = .ok (.iload_n 1, 1) := by decide +kernel
theorem dX3_spansInAll_28 : decode cX3_spansInAll 28 = .ok (.ireturn, 1) := by decide +kernel
theorem dX4_init_0 : decode cX4_init 0 = .ok (.aload_n 0, 1) := by decide +kernel
theorem dX4_init_1 : decode cX4_init 1 = .ok (.invokespecial 3, 3) := by decide +kernel
theorem dX4_init_4 : decode cX4_init 4 = .ok (.aload_n 0, 1) := by decide +kernel
theorem dX4_init_5 : decode cX4_init 5 = .ok (.new 9, 3) := by decide +kernel
theorem dX4_init_8 : decode cX4_init 8 = .ok (.dup, 1) := by decide +kernel
theorem dX4_init_9 : decode cX4_init 9 = .ok (.invokespecial 11, 3) := by decide +kernel
theorem dX4_init_12 : decode cX4_init 12 = .ok (.putfield 12, 3) := by decide +kernel
theorem dX4_init_15 : decode cX4_init 15 = .ok (.aload_n 0, 1) := by decide +kernel
theorem dX4_init_16 : decode cX4_init 16 = .ok (.new 16, 3) := by decide +kernel
theorem dX4_init_19 : decode cX4_init 19 = .ok (.dup, 1) := by decide +kernel
theorem dX4_init_20 : decode cX4_init 20 = .ok (.invokespecial 18, 3) := by decide +kernel
theorem dX4_init_23 : decode cX4_init 23 = .ok (.putfield 19, 3) := by decide +kernel
theorem dX4_init_26 : decode cX4_init 26 = .ok (.aload_n 0, 1) := by decide +kernel
theorem dX4_init_27 : decode cX4_init 27 = .ok (.iconst 2, 1) := by decide +kernel
theorem dX4_init_28 : decode cX4_init 28 = .ok (.anewarray 16, 3) := by decide +kernel
theorem dX4_init_31 : decode cX4_init 31 = .ok (.dup, 1) := by decide +kernel
theorem dX4_init_32 : decode cX4_init 32 = .ok (.iconst 0, 1) := by decide +kernel
theorem dX4_init_33 : decode cX4_init 33 = .ok (.new 16, 3) := by decide +kernel
theorem dX4_init_36 : decode cX4_init 36 = .ok (.dup, 1) := by decide +kernel
theorem dX4_init_37 : decode cX4_init 37 = .ok (.invokespecial 18, 3) := by decide +kernel
theorem dX4_init_40 : decode cX4_init 40 = .ok (.aastore, 1) := by decide +kernel
theorem dX4_init_41 : decode cX4_init 41 = .ok (.dup, 1) := by decide +kernel
theorem dX4_init_42 : decode cX4_init 42 = .ok (.iconst 1, 1) := by decide +kernel
theorem dX4_init_43 : decode cX4_init 43 = .ok (.new 16, 3) := by decide +kernel
theorem dX4_init_46 : decode cX4_init 46 = .ok (.dup, 1) := by decide +kernel
theorem dX4_init_47 : decode cX4_init 47 = .ok (.invokespecial 18, 3) := by decide +kernel
theorem dX4_init_50 : decode cX4_init 50 = .ok (.aastore, 1) := by decide +kernel
theorem dX4_init_51 : decode cX4_init 51 = .ok (.putfield 23, 3) := by decide +kernel
theorem dX4_init_54 : decode cX4_init 54 = .ok (.aload_n 0, 1) := by decide +kernel
theorem dX4_init_55 : decode cX4_init 55 = .ok (.new 27, 3) := by decide +kernel
theorem dX4_init_58 : decode cX4_init 58 = .ok (.dup, 1) := by decide +kernel
theorem dX4_init_59 : decode cX4_init 59 = .ok (.invokespecial 29, 3) := by decide +kernel
theorem dX4_init_62 : decode cX4_init 62 = .ok (.putfield 30, 3) := by decide +kernel
theorem dX4_init_65 : decode cX4_init 65 = .ok (.aload_n 0, 1) := by decide +kernel
theorem dX4_init_66 : decode cX4_init 66 = .ok (.iconst 0, 1) := by decide +kernel
theorem dX4_init_67 : decode cX4_init 67 = .ok (.putfield 34, 3) := by decide +kernel
theorem dX4_init_70 : decode cX4_init 70 = .ok (.return_, 1) := by decide +kernel
theorem dX4_say_0 : decode cX4_say 0 = .ok (.iload_n 1, 1) := by decide +kernel
theorem dX4_say_1 : decode cX4_say 1 = .ok (.bipush 33, 2) := by decide +kernel
theorem dX4_say_3 : decode cX4_say 3 = .ok (.bipush 126, 2) := by decide +kernel
theorem dX4_say_5 : decode cX4_say 5 = .ok (.invokestatic 38, 3) := by decide +kernel
theorem dX4_say_8 : decode cX4_say 8 = .ok (.ifCond .ne 6, 3) := by decide +kernel
theorem dX4_say_11 : decode cX4_say 11 = .ok (.bipush (-2), 2) := by decide +kernel
theorem dX4_say_13 : decode cX4_say 13 = .ok (.ireturn, 1) := by decide +kernel
theorem dX4_say_14 : decode cX4_say 14 = .ok (.aload_n 0, 1) := by decide +kernel
theorem dX4_say_15 : decode cX4_say 15 = .ok (.getfield 12, 3) := by decide +kernel
theorem dX4_say_18 : decode cX4_say 18 = .ok (.getfield 42, 3) := by decide +kernel
theorem dX4_say_21 : decode cX4_say 21 = .ok (.bipush 22, 2) := by decide +kernel
theorem dX4_say_23 : decode cX4_say 23 = .ok (.if_icmp .lt 6, 3) := by decide +kernel
theorem dX4_say_26 : decode cX4_say 26 = .ok (.bipush (-4), 2) := by decide +kernel
theorem dX4_say_28 : decode cX4_say 28 = .ok (.ireturn, 1) := by decide +kernel
theorem dX4_say_29 : decode cX4_say 29 = .ok (.aload_n 0, 1) := by decide +kernel
theorem dX4_say_30 : decode cX4_say 30 = .ok (.getfield 12, 3) := by decide +kernel
theorem dX4_say_33 : decode cX4_say 33 = .ok (.iload_n 1, 1) := by decide +kernel
theorem dX4_say_34 : decode cX4_say 34 = .ok (.invokevirtual 45, 3) := by decide +kernel
theorem dX4_say_37 : decode cX4_say 37 = .ok (.aload_n 0, 1) := by decide +kernel
theorem dX4_say_38 : decode cX4_say 38 = .ok (.getfield 12, 3) := by decide +kernel
theorem dX4_say_41 : decode cX4_say 41 = .ok (.getfield 42, 3) := by decide +kernel
theorem dX4_say_44 : decode cX4_say 44 = .ok (.ireturn, 1) := by decide +kernel
theorem dX4_wipe_0 : decode cX4_wipe 0 = .ok (.aload_n 0, 1) := by decide +kernel
theorem dX4_wipe_1 : decode cX4_wipe 1 = .ok (.getfield 12, 3) := by decide +kernel
theorem dX4_wipe_4 : decode cX4_wipe 4 = .ok (.getfield 42, 3) := by decide +kernel
theorem dX4_wipe_7 : decode cX4_wipe 7 = .ok (.istore_n 1, 1) := by decide +kernel
theorem dX4_wipe_8 : decode cX4_wipe 8 = .ok (.aload_n 0, 1) := by decide +kernel
theorem dX4_wipe_9 : decode cX4_wipe 9 = .ok (.getfield 12, 3) := by decide +kernel
theorem dX4_wipe_12 : decode cX4_wipe 12 = .ok (.invokevirtual 49, 3) := by decide +kernel
theorem dX4_wipe_15 : decode cX4_wipe 15 = .ok (.iload_n 1, 1) := by decide +kernel
theorem dX4_wipe_16 : decode cX4_wipe 16 = .ok (.ireturn, 1) := by decide +kernel
theorem dX4_fault_0 : decode cX4_fault 0 = .ok (.iload_n 1, 1) := by decide +kernel
theorem dX4_fault_1 : decode cX4_fault 1 = .ok (.iconst 0, 1) := by decide +kernel
theorem dX4_fault_2 : decode cX4_fault 2 = .ok (.iconst 1, 1) := by decide +kernel
theorem dX4_fault_3 : decode cX4_fault 3 = .ok (.invokestatic 38, 3) := by decide +kernel
theorem dX4_fault_6 : decode cX4_fault 6 = .ok (.ifCond .ne 6, 3) := by decide +kernel
theorem dX4_fault_9 : decode cX4_fault 9 = .ok (.bipush (-2), 2) := by decide +kernel
theorem dX4_fault_11 : decode cX4_fault 11 = .ok (.ireturn, 1) := by decide +kernel
theorem dX4_fault_12 : decode cX4_fault 12 = .ok (.iload_n 1, 1) := by decide +kernel
theorem dX4_fault_13 : decode cX4_fault 13 = .ok (.ifCond .ne 13, 3) := by decide +kernel
theorem dX4_fault_16 : decode cX4_fault 16 = .ok (.aload_n 0, 1) := by decide +kernel
theorem dX4_fault_17 : decode cX4_fault 17 = .ok (.getfield 12, 3) := by decide +kernel
theorem dX4_fault_20 : decode cX4_fault 20 = .ok (.invokevirtual 52, 3) := by decide +kernel
theorem dX4_fault_23 : decode cX4_fault 23 = .ok (.goto 10, 3) := by decide +kernel
theorem dX4_fault_26 : decode cX4_fault 26 = .ok (.aload_n 0, 1) := by decide +kernel
theorem dX4_fault_27 : decode cX4_fault 27 = .ok (.getfield 12, 3) := by decide +kernel
theorem dX4_fault_30 : decode cX4_fault 30 = .ok (.invokevirtual 56, 3) := by decide +kernel
theorem dX4_fault_33 : decode cX4_fault 33 = .ok (.ireturn, 1) := by decide +kernel
theorem dX4_line_0 : decode cX4_line 0 = .ok (.iload_n 1, 1) := by decide +kernel
theorem dX4_line_1 : decode cX4_line 1 = .ok (.invokestatic 59, 3) := by decide +kernel
theorem dX4_line_4 : decode cX4_line 4 = .ok (.ifCond .ne 5, 3) := by decide +kernel
theorem dX4_line_7 : decode cX4_line 7 = .ok (.iconst (-1), 1) := by decide +kernel
theorem dX4_line_8 : decode cX4_line 8 = .ok (.ireturn, 1) := by decide +kernel
theorem dX4_line_9 : decode cX4_line 9 = .ok (.aload_n 0, 1) := by decide +kernel
theorem dX4_line_10 : decode cX4_line 10 = .ok (.getfield 12, 3) := by decide +kernel
theorem dX4_line_13 : decode cX4_line 13 = .ok (.invokevirtual 52, 3) := by decide +kernel
theorem dX4_line_16 : decode cX4_line 16 = .ok (.bipush (-6), 2) := by decide +kernel
theorem dX4_line_18 : decode cX4_line 18 = .ok (.if_icmp .eq 6, 3) := by decide +kernel
theorem dX4_line_21 : decode cX4_line 21 = .ok (.bipush (-7), 2) := by decide +kernel
theorem dX4_line_23 : decode cX4_line 23 = .ok (.ireturn, 1) := by decide +kernel
theorem dX4_line_24 : decode cX4_line 24 = .ok (.aload_n 0, 1) := by decide +kernel
theorem dX4_line_25 : decode cX4_line 25 = .ok (.getfield 19, 3) := by decide +kernel
theorem dX4_line_28 : decode cX4_line 28 = .ok (.getfield 63, 3) := by decide +kernel
theorem dX4_line_31 : decode cX4_line 31 = .ok (.iload_n 1, 1) := by decide +kernel
theorem dX4_line_32 : decode cX4_line 32 = .ok (.aaload, 1) := by decide +kernel
theorem dX4_line_33 : decode cX4_line 33 = .ok (.astore_n 2, 1) := by decide +kernel
theorem dX4_line_34 : decode cX4_line 34 = .ok (.aload_n 0, 1) := by decide +kernel
theorem dX4_line_35 : decode cX4_line 35 = .ok (.getfield 12, 3) := by decide +kernel
theorem dX4_line_38 : decode cX4_line 38 = .ok (.aload_n 2, 1) := by decide +kernel
theorem dX4_line_39 : decode cX4_line 39 = .ok (.invokevirtual 67, 3) := by decide +kernel
theorem dX4_line_42 : decode cX4_line 42 = .ok (.aload_n 0, 1) := by decide +kernel
theorem dX4_line_43 : decode cX4_line 43 = .ok (.getfield 12, 3) := by decide +kernel
theorem dX4_line_46 : decode cX4_line 46 = .ok (.invokevirtual 49, 3) := by decide +kernel
theorem dX4_line_49 : decode cX4_line 49 = .ok (.aload_n 2, 1) := by decide +kernel
theorem dX4_line_50 : decode cX4_line 50 = .ok (.getfield 71, 3) := by decide +kernel
theorem dX4_line_53 : decode cX4_line 53 = .ok (.ireturn, 1) := by decide +kernel
theorem dX4_tune_0 : decode cX4_tune 0 = .ok (.iload_n 1, 1) := by decide +kernel
theorem dX4_tune_1 : decode cX4_tune 1 = .ok (.invokestatic 74, 3) := by decide +kernel
theorem dX4_tune_4 : decode cX4_tune 4 = .ok (.ifCond .ne 5, 3) := by decide +kernel
theorem dX4_tune_7 : decode cX4_tune 7 = .ok (.iconst (-1), 1) := by decide +kernel
theorem dX4_tune_8 : decode cX4_tune 8 = .ok (.ireturn, 1) := by decide +kernel
theorem dX4_tune_9 : decode cX4_tune 9 = .ok (.aload_n 0, 1) := by decide +kernel
theorem dX4_tune_10 : decode cX4_tune 10 = .ok (.getfield 12, 3) := by decide +kernel
theorem dX4_tune_13 : decode cX4_tune 13 = .ok (.invokevirtual 56, 3) := by decide +kernel
theorem dX4_tune_16 : decode cX4_tune 16 = .ok (.bipush (-6), 2) := by decide +kernel
theorem dX4_tune_18 : decode cX4_tune 18 = .ok (.if_icmp .eq 6, 3) := by decide +kernel
theorem dX4_tune_21 : decode cX4_tune 21 = .ok (.bipush (-7), 2) := by decide +kernel
theorem dX4_tune_23 : decode cX4_tune 23 = .ok (.ireturn, 1) := by decide +kernel
theorem dX4_tune_24 : decode cX4_tune 24 = .ok (.aload_n 0, 1) := by decide +kernel
theorem dX4_tune_25 : decode cX4_tune 25 = .ok (.getfield 19, 3) := by decide +kernel
theorem dX4_tune_28 : decode cX4_tune 28 = .ok (.getfield 77, 3) := by decide +kernel
theorem dX4_tune_31 : decode cX4_tune 31 = .ok (.iload_n 1, 1) := by decide +kernel
theorem dX4_tune_32 : decode cX4_tune 32 = .ok (.aaload, 1) := by decide +kernel
theorem dX4_tune_33 : decode cX4_tune 33 = .ok (.astore_n 2, 1) := by decide +kernel
theorem dX4_tune_34 : decode cX4_tune 34 = .ok (.aload_n 0, 1) := by decide +kernel
theorem dX4_tune_35 : decode cX4_tune 35 = .ok (.getfield 12, 3) := by decide +kernel
theorem dX4_tune_38 : decode cX4_tune 38 = .ok (.aload_n 2, 1) := by decide +kernel
theorem dX4_tune_39 : decode cX4_tune 39 = .ok (.invokevirtual 80, 3) := by decide +kernel
theorem dX4_tune_42 : decode cX4_tune 42 = .ok (.aload_n 0, 1) := by decide +kernel
theorem dX4_tune_43 : decode cX4_tune 43 = .ok (.getfield 12, 3) := by decide +kernel
theorem dX4_tune_46 : decode cX4_tune 46 = .ok (.invokevirtual 49, 3) := by decide +kernel
theorem dX4_tune_49 : decode cX4_tune 49 = .ok (.aload_n 2, 1) := by decide +kernel
theorem dX4_tune_50 : decode cX4_tune 50 = .ok (.getfield 71, 3) := by decide +kernel
theorem dX4_tune_53 : decode cX4_tune 53 = .ok (.ireturn, 1) := by decide +kernel
theorem dX4_rule_0 : decode cX4_rule 0 = .ok (.iload_n 1, 1) := by decide +kernel
theorem dX4_rule_1 : decode cX4_rule 1 = .ok (.iconst 0, 1) := by decide +kernel
theorem dX4_rule_2 : decode cX4_rule 2 = .ok (.iconst 3, 1) := by decide +kernel
theorem dX4_rule_3 : decode cX4_rule 3 = .ok (.invokestatic 38, 3) := by decide +kernel
theorem dX4_rule_6 : decode cX4_rule 6 = .ok (.ifCond .eq 13, 3) := by decide +kernel
theorem dX4_rule_9 : decode cX4_rule 9 = .ok (.iload_n 2, 1) := by decide +kernel
theorem dX4_rule_10 : decode cX4_rule 10 = .ok (.iconst 0, 1) := by decide +kernel
theorem dX4_rule_11 : decode cX4_rule 11 = .ok (.bipush 9, 2) := by decide +kernel
theorem dX4_rule_13 : decode cX4_rule 13 = .ok (.invokestatic 38, 3) := by decide +kernel
theorem dX4_rule_16 : decode cX4_rule 16 = .ok (.ifCond .ne 6, 3) := by decide +kernel
theorem dX4_rule_19 : decode cX4_rule 19 = .ok (.bipush (-2), 2) := by decide +kernel
theorem dX4_rule_21 : decode cX4_rule 21 = .ok (.ireturn, 1) := by decide +kernel
theorem dX4_rule_22 : decode cX4_rule 22 = .ok (.aload_n 0, 1) := by decide +kernel
theorem dX4_rule_23 : decode cX4_rule 23 = .ok (.getfield 19, 3) := by decide +kernel
theorem dX4_rule_26 : decode cX4_rule 26 = .ok (.getfield 83, 3) := by decide +kernel
theorem dX4_rule_29 : decode cX4_rule 29 = .ok (.iload_n 1, 1) := by decide +kernel
theorem dX4_rule_30 : decode cX4_rule 30 = .ok (.iaload, 1) := by decide +kernel
theorem dX4_rule_31 : decode cX4_rule 31 = .ok (.istore_n 3, 1) := by decide +kernel
theorem dX4_rule_32 : decode cX4_rule 32 = .ok (.aload_n 0, 1) := by decide +kernel
theorem dX4_rule_33 : decode cX4_rule 33 = .ok (.getfield 19, 3) := by decide +kernel
theorem dX4_rule_36 : decode cX4_rule 36 = .ok (.getfield 83, 3) := by decide +kernel
theorem dX4_rule_39 : decode cX4_rule 39 = .ok (.iload_n 1, 1) := by decide +kernel
theorem dX4_rule_40 : decode cX4_rule 40 = .ok (.iload_n 2, 1) := by decide +kernel
theorem dX4_rule_41 : decode cX4_rule 41 = .ok (.iastore, 1) := by decide +kernel
theorem dX4_rule_42 : decode cX4_rule 42 = .ok (.iload_n 3, 1) := by decide +kernel
theorem dX4_rule_43 : decode cX4_rule 43 = .ok (.ireturn, 1) := by decide +kernel
theorem dX4_syllable_0 : decode cX4_syllable 0 = .ok (.iload_n 1, 1) := by decide +kernel
theorem dX4_syllable_1 : decode cX4_syllable 1 = .ok (.invokestatic 59, 3) := by decide +kernel
theorem dX4_syllable_4 : decode cX4_syllable 4 = .ok (.ifCond .eq 20, 3) := by decide +kernel
theorem dX4_syllable_7 : decode cX4_syllable 7 = .ok (.aload_n 0, 1) := by decide +kernel
theorem dX4_syllable_8 : decode cX4_syllable 8 = .ok (.getfield 19, 3) := by decide +kernel
theorem dX4_syllable_11 : decode cX4_syllable 11 = .ok (.getfield 63, 3) := by decide +kernel
theorem dX4_syllable_14 : decode cX4_syllable 14 = .ok (.iload_n 1, 1) := by decide +kernel
theorem dX4_syllable_15 : decode cX4_syllable 15 = .ok (.aaload, 1) := by decide +kernel
theorem dX4_syllable_16 : decode cX4_syllable 16 = .ok (.iload_n 2, 1) := by decide +kernel
theorem dX4_syllable_17 : decode cX4_syllable 17 = .ok (.iload_n 3, 1) := by decide +kernel
theorem dX4_syllable_18 : decode cX4_syllable 18 = .ok (.invokestatic 87, 3) := by decide +kernel
theorem dX4_syllable_21 : decode cX4_syllable 21 = .ok (.goto 4, 3) := by decide +kernel
theorem dX4_syllable_24 : decode cX4_syllable 24 = .ok (.iconst (-1), 1) := by decide +kernel
theorem dX4_syllable_25 : decode cX4_syllable 25 = .ok (.ireturn, 1) := by decide +kernel
theorem dX4_note_0 : decode cX4_note 0 = .ok (.iload_n 1, 1) := by decide +kernel
theorem dX4_note_1 : decode cX4_note 1 = .ok (.invokestatic 74, 3) := by decide +kernel
theorem dX4_note_4 : decode cX4_note 4 = .ok (.ifCond .eq 20, 3) := by decide +kernel
theorem dX4_note_7 : decode cX4_note 7 = .ok (.aload_n 0, 1) := by decide +kernel
theorem dX4_note_8 : decode cX4_note 8 = .ok (.getfield 19, 3) := by decide +kernel
theorem dX4_note_11 : decode cX4_note 11 = .ok (.getfield 77, 3) := by decide +kernel
theorem dX4_note_14 : decode cX4_note 14 = .ok (.iload_n 1, 1) := by decide +kernel
theorem dX4_note_15 : decode cX4_note 15 = .ok (.aaload, 1) := by decide +kernel
theorem dX4_note_16 : decode cX4_note 16 = .ok (.iload_n 2, 1) := by decide +kernel
theorem dX4_note_17 : decode cX4_note 17 = .ok (.iload_n 3, 1) := by decide +kernel
theorem dX4_note_18 : decode cX4_note 18 = .ok (.invokestatic 87, 3) := by decide +kernel
theorem dX4_note_21 : decode cX4_note 21 = .ok (.goto 4, 3) := by decide +kernel
theorem dX4_note_24 : decode cX4_note 24 = .ok (.iconst (-1), 1) := by decide +kernel
theorem dX4_note_25 : decode cX4_note 25 = .ok (.ireturn, 1) := by decide +kernel
theorem dX4_cost_0 : decode cX4_cost 0 = .ok (.iload_n 1, 1) := by decide +kernel
theorem dX4_cost_1 : decode cX4_cost 1 = .ok (.iload_n 2, 1) := by decide +kernel
theorem dX4_cost_2 : decode cX4_cost 2 = .ok (.invokestatic 91, 3) := by decide +kernel
theorem dX4_cost_5 : decode cX4_cost 5 = .ok (.ifCond .ne 5, 3) := by decide +kernel
theorem dX4_cost_8 : decode cX4_cost 8 = .ok (.iconst (-1), 1) := by decide +kernel
theorem dX4_cost_9 : decode cX4_cost 9 = .ok (.ireturn, 1) := by decide +kernel
theorem dX4_cost_10 : decode cX4_cost 10 = .ok (.aload_n 0, 1) := by decide +kernel
theorem dX4_cost_11 : decode cX4_cost 11 = .ok (.getfield 12, 3) := by decide +kernel
theorem dX4_cost_14 : decode cX4_cost 14 = .ok (.invokevirtual 95, 3) := by decide +kernel
theorem dX4_cost_17 : decode cX4_cost 17 = .ok (.ifCond .ne 6, 3) := by decide +kernel
theorem dX4_cost_20 : decode cX4_cost 20 = .ok (.bipush (-7), 2) := by decide +kernel
theorem dX4_cost_22 : decode cX4_cost 22 = .ok (.ireturn, 1) := by decide +kernel
theorem dX4_cost_23 : decode cX4_cost 23 = .ok (.aload_n 0, 1) := by decide +kernel
theorem dX4_cost_24 : decode cX4_cost 24 = .ok (.getfield 30, 3) := by decide +kernel
theorem dX4_cost_27 : decode cX4_cost 27 = .ok (.aload_n 0, 1) := by decide +kernel
theorem dX4_cost_28 : decode cX4_cost 28 = .ok (.getfield 19, 3) := by decide +kernel
theorem dX4_cost_31 : decode cX4_cost 31 = .ok (.iload_n 1, 1) := by decide +kernel
theorem dX4_cost_32 : decode cX4_cost 32 = .ok (.iload_n 2, 1) := by decide +kernel
theorem dX4_cost_33 : decode cX4_cost 33 = .ok (.invokevirtual 99, 3) := by decide +kernel
theorem dX4_cost_36 : decode cX4_cost 36 = .ok (.aload_n 0, 1) := by decide +kernel
theorem dX4_cost_37 : decode cX4_cost 37 = .ok (.getfield 30, 3) := by decide +kernel
theorem dX4_cost_40 : decode cX4_cost 40 = .ok (.aload_n 0, 1) := by decide +kernel
theorem dX4_cost_41 : decode cX4_cost 41 = .ok (.getfield 12, 3) := by decide +kernel
theorem dX4_cost_44 : decode cX4_cost 44 = .ok (.invokevirtual 103, 3) := by decide +kernel
theorem dX4_cost_47 : decode cX4_cost 47 = .ok (.ireturn, 1) := by decide +kernel
theorem dX4_least_0 : decode cX4_least 0 = .ok (.iload_n 1, 1) := by decide +kernel
theorem dX4_least_1 : decode cX4_least 1 = .ok (.iload_n 2, 1) := by decide +kernel
theorem dX4_least_2 : decode cX4_least 2 = .ok (.invokestatic 91, 3) := by decide +kernel
theorem dX4_least_5 : decode cX4_least 5 = .ok (.ifCond .ne 5, 3) := by decide +kernel
theorem dX4_least_8 : decode cX4_least 8 = .ok (.iconst (-1), 1) := by decide +kernel
theorem dX4_least_9 : decode cX4_least 9 = .ok (.ireturn, 1) := by decide +kernel
theorem dX4_least_10 : decode cX4_least 10 = .ok (.iload_n 3, 1) := by decide +kernel
theorem dX4_least_11 : decode cX4_least 11 = .ok (.iconst (-1), 1) := by decide +kernel
theorem dX4_least_12 : decode cX4_least 12 = .ok (.if_icmp .ge 6, 3) := by decide +kernel
theorem dX4_least_15 : decode cX4_least 15 = .ok (.bipush (-2), 2) := by decide +kernel
theorem dX4_least_17 : decode cX4_least 17 = .ok (.ireturn, 1) := by decide +kernel
theorem dX4_least_18 : decode cX4_least 18 = .ok (.aload_n 0, 1) := by decide +kernel
theorem dX4_least_19 : decode cX4_least 19 = .ok (.getfield 30, 3) := by decide +kernel
theorem dX4_least_22 : decode cX4_least 22 = .ok (.aload_n 0, 1) := by decide +kernel
theorem dX4_least_23 : decode cX4_least 23 = .ok (.getfield 19, 3) := by decide +kernel
theorem dX4_least_26 : decode cX4_least 26 = .ok (.iload_n 1, 1) := by decide +kernel
theorem dX4_least_27 : decode cX4_least 27 = .ok (.iload_n 2, 1) := by decide +kernel
theorem dX4_least_28 : decode cX4_least 28 = .ok (.invokevirtual 99, 3) := by decide +kernel
theorem dX4_least_31 : decode cX4_least 31 = .ok (.iload_n 3, 1) := by decide +kernel
theorem dX4_least_32 : decode cX4_least 32 = .ok (.iconst (-1), 1) := by decide +kernel
theorem dX4_least_33 : decode cX4_least 33 = .ok (.if_icmp .ne 13, 3) := by decide +kernel
theorem dX4_least_36 : decode cX4_least 36 = .ok (.aload_n 0, 1) := by decide +kernel
theorem dX4_least_37 : decode cX4_least 37 = .ok (.getfield 30, 3) := by decide +kernel
theorem dX4_least_40 : decode cX4_least 40 = .ok (.invokevirtual 107, 3) := by decide +kernel
theorem dX4_least_43 : decode cX4_least 43 = .ok (.goto 11, 3) := by decide +kernel
theorem dX4_least_46 : decode cX4_least 46 = .ok (.aload_n 0, 1) := by decide +kernel
theorem dX4_least_47 : decode cX4_least 47 = .ok (.getfield 30, 3) := by decide +kernel
theorem dX4_least_50 : decode cX4_least 50 = .ok (.iload_n 3, 1) := by decide +kernel
theorem dX4_least_51 : decode cX4_least 51 = .ok (.invokevirtual 110, 3) := by decide +kernel
theorem dX4_least_54 : decode cX4_least 54 = .ok (.ireturn, 1) := by decide +kernel
theorem dX4_ways_0 : decode cX4_ways 0 = .ok (.iload_n 1, 1) := by decide +kernel
theorem dX4_ways_1 : decode cX4_ways 1 = .ok (.iload_n 2, 1) := by decide +kernel
theorem dX4_ways_2 : decode cX4_ways 2 = .ok (.invokestatic 91, 3) := by decide +kernel
theorem dX4_ways_5 : decode cX4_ways 5 = .ok (.ifCond .ne 5, 3) := by decide +kernel
theorem dX4_ways_8 : decode cX4_ways 8 = .ok (.iconst (-1), 1) := by decide +kernel
theorem dX4_ways_9 : decode cX4_ways 9 = .ok (.ireturn, 1) := by decide +kernel
theorem dX4_ways_10 : decode cX4_ways 10 = .ok (.iload_n 3, 1) := by decide +kernel
theorem dX4_ways_11 : decode cX4_ways 11 = .ok (.iconst 0, 1) := by decide +kernel
theorem dX4_ways_12 : decode cX4_ways 12 = .ok (.iconst 2, 1) := by decide +kernel
theorem dX4_ways_13 : decode cX4_ways 13 = .ok (.invokestatic 38, 3) := by decide +kernel
theorem dX4_ways_16 : decode cX4_ways 16 = .ok (.ifCond .ne 6, 3) := by decide +kernel
theorem dX4_ways_19 : decode cX4_ways 19 = .ok (.bipush (-2), 2) := by decide +kernel
theorem dX4_ways_21 : decode cX4_ways 21 = .ok (.ireturn, 1) := by decide +kernel
theorem dX4_ways_22 : decode cX4_ways 22 = .ok (.aload_n 0, 1) := by decide +kernel
theorem dX4_ways_23 : decode cX4_ways 23 = .ok (.getfield 30, 3) := by decide +kernel
theorem dX4_ways_26 : decode cX4_ways 26 = .ok (.aload_n 0, 1) := by decide +kernel
theorem dX4_ways_27 : decode cX4_ways 27 = .ok (.getfield 19, 3) := by decide +kernel
theorem dX4_ways_30 : decode cX4_ways 30 = .ok (.iload_n 1, 1) := by decide +kernel
theorem dX4_ways_31 : decode cX4_ways 31 = .ok (.iload_n 2, 1) := by decide +kernel
theorem dX4_ways_32 : decode cX4_ways 32 = .ok (.invokevirtual 99, 3) := by decide +kernel
theorem dX4_ways_35 : decode cX4_ways 35 = .ok (.iload_n 3, 1) := by decide +kernel
theorem dX4_ways_36 : decode cX4_ways 36 = .ok (.lookupswitch 44 #[(0, 28), (1, 36)], 28) := by decide +kernel
theorem dX4_ways_64 : decode cX4_ways 64 = .ok (.aload_n 0, 1) := by decide +kernel
theorem dX4_ways_65 : decode cX4_ways 65 = .ok (.getfield 30, 3) := by decide +kernel
theorem dX4_ways_68 : decode cX4_ways 68 = .ok (.invokevirtual 114, 3) := by decide +kernel
theorem dX4_ways_71 : decode cX4_ways 71 = .ok (.ireturn, 1) := by decide +kernel
theorem dX4_ways_72 : decode cX4_ways 72 = .ok (.aload_n 0, 1) := by decide +kernel
theorem dX4_ways_73 : decode cX4_ways 73 = .ok (.getfield 30, 3) := by decide +kernel
theorem dX4_ways_76 : decode cX4_ways 76 = .ok (.invokevirtual 117, 3) := by decide +kernel
theorem dX4_ways_79 : decode cX4_ways 79 = .ok (.ireturn, 1) := by decide +kernel
theorem dX4_ways_80 : decode cX4_ways 80 = .ok (.aload_n 0, 1) := by decide +kernel
theorem dX4_ways_81 : decode cX4_ways 81 = .ok (.getfield 30, 3) := by decide +kernel
theorem dX4_ways_84 : decode cX4_ways 84 = .ok (.invokevirtual 120, 3) := by decide +kernel
theorem dX4_ways_87 : decode cX4_ways 87 = .ok (.ireturn, 1) := by decide +kernel
theorem dX4_sung_0 : decode cX4_sung 0 = .ok (.iload_n 1, 1) := by decide +kernel
theorem dX4_sung_1 : decode cX4_sung 1 = .ok (.iload_n 2, 1) := by decide +kernel
theorem dX4_sung_2 : decode cX4_sung 2 = .ok (.invokestatic 91, 3) := by decide +kernel
theorem dX4_sung_5 : decode cX4_sung 5 = .ok (.ifCond .ne 5, 3) := by decide +kernel
theorem dX4_sung_8 : decode cX4_sung 8 = .ok (.iconst (-1), 1) := by decide +kernel
theorem dX4_sung_9 : decode cX4_sung 9 = .ok (.ireturn, 1) := by decide +kernel
theorem dX4_sung_10 : decode cX4_sung 10 = .ok (.iload_n 3, 1) := by decide +kernel
theorem dX4_sung_11 : decode cX4_sung 11 = .ok (.iconst 0, 1) := by decide +kernel
theorem dX4_sung_12 : decode cX4_sung 12 = .ok (.aload_n 0, 1) := by decide +kernel
theorem dX4_sung_13 : decode cX4_sung 13 = .ok (.getfield 19, 3) := by decide +kernel
theorem dX4_sung_16 : decode cX4_sung 16 = .ok (.getfield 77, 3) := by decide +kernel
theorem dX4_sung_19 : decode cX4_sung 19 = .ok (.iload_n 2, 1) := by decide +kernel
theorem dX4_sung_20 : decode cX4_sung 20 = .ok (.aaload, 1) := by decide +kernel
theorem dX4_sung_21 : decode cX4_sung 21 = .ok (.getfield 71, 3) := by decide +kernel
theorem dX4_sung_24 : decode cX4_sung 24 = .ok (.iconst 1, 1) := by decide +kernel
theorem dX4_sung_25 : decode cX4_sung 25 = .ok (.isub, 1) := by decide +kernel
theorem dX4_sung_26 : decode cX4_sung 26 = .ok (.invokestatic 38, 3) := by decide +kernel
theorem dX4_sung_29 : decode cX4_sung 29 = .ok (.ifCond .eq 13, 3) := by decide +kernel
theorem dX4_sung_32 : decode cX4_sung 32 = .ok (.iload 4, 2) := by decide +kernel
theorem dX4_sung_34 : decode cX4_sung 34 = .ok (.iconst 0, 1) := by decide +kernel
theorem dX4_sung_35 : decode cX4_sung 35 = .ok (.iconst 1, 1) := by decide +kernel
theorem dX4_sung_36 : decode cX4_sung 36 = .ok (.invokestatic 38, 3) := by decide +kernel
theorem dX4_sung_39 : decode cX4_sung 39 = .ok (.ifCond .ne 6, 3) := by decide +kernel
theorem dX4_sung_42 : decode cX4_sung 42 = .ok (.bipush (-2), 2) := by decide +kernel
theorem dX4_sung_44 : decode cX4_sung 44 = .ok (.ireturn, 1) := by decide +kernel
theorem dX4_sung_45 : decode cX4_sung 45 = .ok (.aload_n 0, 1) := by decide +kernel
theorem dX4_sung_46 : decode cX4_sung 46 = .ok (.getfield 30, 3) := by decide +kernel
theorem dX4_sung_49 : decode cX4_sung 49 = .ok (.aload_n 0, 1) := by decide +kernel
theorem dX4_sung_50 : decode cX4_sung 50 = .ok (.getfield 19, 3) := by decide +kernel
theorem dX4_sung_53 : decode cX4_sung 53 = .ok (.iload_n 1, 1) := by decide +kernel
theorem dX4_sung_54 : decode cX4_sung 54 = .ok (.iload_n 2, 1) := by decide +kernel
theorem dX4_sung_55 : decode cX4_sung 55 = .ok (.invokevirtual 99, 3) := by decide +kernel
theorem dX4_sung_58 : decode cX4_sung 58 = .ok (.iload 4, 2) := by decide +kernel
theorem dX4_sung_60 : decode cX4_sung 60 = .ok (.ifCond .ne 14, 3) := by decide +kernel
theorem dX4_sung_63 : decode cX4_sung 63 = .ok (.aload_n 0, 1) := by decide +kernel
theorem dX4_sung_64 : decode cX4_sung 64 = .ok (.getfield 30, 3) := by decide +kernel
theorem dX4_sung_67 : decode cX4_sung 67 = .ok (.iload_n 3, 1) := by decide +kernel
theorem dX4_sung_68 : decode cX4_sung 68 = .ok (.invokevirtual 123, 3) := by decide +kernel
theorem dX4_sung_71 : decode cX4_sung 71 = .ok (.goto 11, 3) := by decide +kernel
theorem dX4_sung_74 : decode cX4_sung 74 = .ok (.aload_n 0, 1) := by decide +kernel
theorem dX4_sung_75 : decode cX4_sung 75 = .ok (.getfield 30, 3) := by decide +kernel
theorem dX4_sung_78 : decode cX4_sung 78 = .ok (.iload_n 3, 1) := by decide +kernel
theorem dX4_sung_79 : decode cX4_sung 79 = .ok (.invokevirtual 126, 3) := by decide +kernel
theorem dX4_sung_82 : decode cX4_sung 82 = .ok (.ireturn, 1) := by decide +kernel
theorem dX4_verse_0 : decode cX4_verse 0 = .ok (.iload_n 1, 1) := by decide +kernel
theorem dX4_verse_1 : decode cX4_verse 1 = .ok (.invokestatic 74, 3) := by decide +kernel
theorem dX4_verse_4 : decode cX4_verse 4 = .ok (.ifCond .eq 11, 3) := by decide +kernel
theorem dX4_verse_7 : decode cX4_verse 7 = .ok (.aload_n 0, 1) := by decide +kernel
theorem dX4_verse_8 : decode cX4_verse 8 = .ok (.iload_n 1, 1) := by decide +kernel
theorem dX4_verse_9 : decode cX4_verse 9 = .ok (.invokevirtual 129, 3) := by decide +kernel
theorem dX4_verse_12 : decode cX4_verse 12 = .ok (.goto 4, 3) := by decide +kernel
theorem dX4_verse_15 : decode cX4_verse 15 = .ok (.iconst (-1), 1) := by decide +kernel
theorem dX4_verse_16 : decode cX4_verse 16 = .ok (.ireturn, 1) := by decide +kernel
theorem dX4_best_0 : decode cX4_best 0 = .ok (.iload_n 1, 1) := by decide +kernel
theorem dX4_best_1 : decode cX4_best 1 = .ok (.iconst 0, 1) := by decide +kernel
theorem dX4_best_2 : decode cX4_best 2 = .ok (.iconst 1, 1) := by decide +kernel
theorem dX4_best_3 : decode cX4_best 3 = .ok (.invokestatic 38, 3) := by decide +kernel
theorem dX4_best_6 : decode cX4_best 6 = .ok (.ifCond .ne 6, 3) := by decide +kernel
theorem dX4_best_9 : decode cX4_best 9 = .ok (.bipush (-2), 2) := by decide +kernel
theorem dX4_best_11 : decode cX4_best 11 = .ok (.ireturn, 1) := by decide +kernel
theorem dX4_best_12 : decode cX4_best 12 = .ok (.bipush (-6), 2) := by decide +kernel
theorem dX4_best_14 : decode cX4_best 14 = .ok (.istore_n 2, 1) := by decide +kernel
theorem dX4_best_15 : decode cX4_best 15 = .ok (.bipush (-6), 2) := by decide +kernel
theorem dX4_best_17 : decode cX4_best 17 = .ok (.istore_n 3, 1) := by decide +kernel
theorem dX4_best_18 : decode cX4_best 18 = .ok (.iconst 0, 1) := by decide +kernel
theorem dX4_best_19 : decode cX4_best 19 = .ok (.istore 4, 2) := by decide +kernel
theorem dX4_best_21 : decode cX4_best 21 = .ok (.iload 4, 2) := by decide +kernel
theorem dX4_best_23 : decode cX4_best 23 = .ok (.iconst 4, 1) := by decide +kernel
theorem dX4_best_24 : decode cX4_best 24 = .ok (.if_icmp .ge 32, 3) := by decide +kernel
theorem dX4_best_27 : decode cX4_best 27 = .ok (.aload_n 0, 1) := by decide +kernel
theorem dX4_best_28 : decode cX4_best 28 = .ok (.iload 4, 2) := by decide +kernel
theorem dX4_best_30 : decode cX4_best 30 = .ok (.invokevirtual 129, 3) := by decide +kernel
theorem dX4_best_33 : decode cX4_best 33 = .ok (.istore 5, 2) := by decide +kernel
theorem dX4_best_35 : decode cX4_best 35 = .ok (.iload 5, 2) := by decide +kernel
theorem dX4_best_37 : decode cX4_best 37 = .ok (.iload_n 3, 1) := by decide +kernel
theorem dX4_best_38 : decode cX4_best 38 = .ok (.invokestatic 132, 3) := by decide +kernel
theorem dX4_best_41 : decode cX4_best 41 = .ok (.ifCond .eq 9, 3) := by decide +kernel
theorem dX4_best_44 : decode cX4_best 44 = .ok (.iload 4, 2) := by decide +kernel
theorem dX4_best_46 : decode cX4_best 46 = .ok (.istore_n 2, 1) := by decide +kernel
theorem dX4_best_47 : decode cX4_best 47 = .ok (.iload 5, 2) := by decide +kernel
theorem dX4_best_49 : decode cX4_best 49 = .ok (.istore_n 3, 1) := by decide +kernel
theorem dX4_best_50 : decode cX4_best 50 = .ok (.iinc 4 1, 3) := by decide +kernel
theorem dX4_best_53 : decode cX4_best 53 = .ok (.goto (-32), 3) := by decide +kernel
theorem dX4_best_56 : decode cX4_best 56 = .ok (.iload_n 1, 1) := by decide +kernel
theorem dX4_best_57 : decode cX4_best 57 = .ok (.ifCond .ne 7, 3) := by decide +kernel
theorem dX4_best_60 : decode cX4_best 60 = .ok (.iload_n 2, 1) := by decide +kernel
theorem dX4_best_61 : decode cX4_best 61 = .ok (.goto 4, 3) := by decide +kernel
theorem dX4_best_64 : decode cX4_best 64 = .ok (.iload_n 3, 1) := by decide +kernel
theorem dX4_best_65 : decode cX4_best 65 = .ok (.ireturn, 1) := by decide +kernel
theorem dX4_turned_0 : decode cX4_turned 0 = .ok (.iload_n 1, 1) := by decide +kernel
theorem dX4_turned_1 : decode cX4_turned 1 = .ok (.iload_n 2, 1) := by decide +kernel
theorem dX4_turned_2 : decode cX4_turned 2 = .ok (.invokestatic 91, 3) := by decide +kernel
theorem dX4_turned_5 : decode cX4_turned 5 = .ok (.ifCond .ne 5, 3) := by decide +kernel
theorem dX4_turned_8 : decode cX4_turned 8 = .ok (.iconst (-1), 1) := by decide +kernel
theorem dX4_turned_9 : decode cX4_turned 9 = .ok (.ireturn, 1) := by decide +kernel
theorem dX4_turned_10 : decode cX4_turned 10 = .ok (.iload_n 3, 1) := by decide +kernel
theorem dX4_turned_11 : decode cX4_turned 11 = .ok (.iconst 0, 1) := by decide +kernel
theorem dX4_turned_12 : decode cX4_turned 12 = .ok (.iconst 1, 1) := by decide +kernel
theorem dX4_turned_13 : decode cX4_turned 13 = .ok (.invokestatic 38, 3) := by decide +kernel
theorem dX4_turned_16 : decode cX4_turned 16 = .ok (.ifCond .ne 6, 3) := by decide +kernel
theorem dX4_turned_19 : decode cX4_turned 19 = .ok (.bipush (-2), 2) := by decide +kernel
theorem dX4_turned_21 : decode cX4_turned 21 = .ok (.ireturn, 1) := by decide +kernel
theorem dX4_turned_22 : decode cX4_turned 22 = .ok (.bipush (-6), 2) := by decide +kernel
theorem dX4_turned_24 : decode cX4_turned 24 = .ok (.istore 4, 2) := by decide +kernel
theorem dX4_turned_26 : decode cX4_turned 26 = .ok (.bipush (-6), 2) := by decide +kernel
theorem dX4_turned_28 : decode cX4_turned 28 = .ok (.istore 5, 2) := by decide +kernel
theorem dX4_turned_30 : decode cX4_turned 30 = .ok (.aload_n 0, 1) := by decide +kernel
theorem dX4_turned_31 : decode cX4_turned 31 = .ok (.getfield 19, 3) := by decide +kernel
theorem dX4_turned_34 : decode cX4_turned 34 = .ok (.getfield 77, 3) := by decide +kernel
theorem dX4_turned_37 : decode cX4_turned 37 = .ok (.iload_n 2, 1) := by decide +kernel
theorem dX4_turned_38 : decode cX4_turned 38 = .ok (.aaload, 1) := by decide +kernel
theorem dX4_turned_39 : decode cX4_turned 39 = .ok (.getfield 71, 3) := by decide +kernel
theorem dX4_turned_42 : decode cX4_turned 42 = .ok (.istore 6, 2) := by decide +kernel
theorem dX4_turned_44 : decode cX4_turned 44 = .ok (.iconst 0, 1) := by decide +kernel
theorem dX4_turned_45 : decode cX4_turned 45 = .ok (.istore 7, 2) := by decide +kernel
theorem dX4_turned_47 : decode cX4_turned 47 = .ok (.iload 7, 2) := by decide +kernel
theorem dX4_turned_49 : decode cX4_turned 49 = .ok (.iload 6, 2) := by decide +kernel
theorem dX4_turned_51 : decode cX4_turned 51 = .ok (.if_icmp .ge 67, 3) := by decide +kernel
theorem dX4_turned_54 : decode cX4_turned 54 = .ok (.aload_n 0, 1) := by decide +kernel
theorem dX4_turned_55 : decode cX4_turned 55 = .ok (.getfield 30, 3) := by decide +kernel
theorem dX4_turned_58 : decode cX4_turned 58 = .ok (.aload_n 0, 1) := by decide +kernel
theorem dX4_turned_59 : decode cX4_turned 59 = .ok (.getfield 19, 3) := by decide +kernel
theorem dX4_turned_62 : decode cX4_turned 62 = .ok (.iload_n 1, 1) := by decide +kernel
theorem dX4_turned_63 : decode cX4_turned 63 = .ok (.iload_n 2, 1) := by decide +kernel
theorem dX4_turned_64 : decode cX4_turned 64 = .ok (.invokevirtual 99, 3) := by decide +kernel
theorem dX4_turned_67 : decode cX4_turned 67 = .ok (.aload_n 0, 1) := by decide +kernel
theorem dX4_turned_68 : decode cX4_turned 68 = .ok (.getfield 30, 3) := by decide +kernel
theorem dX4_turned_71 : decode cX4_turned 71 = .ok (.aload_n 0, 1) := by decide +kernel
theorem dX4_turned_72 : decode cX4_turned 72 = .ok (.getfield 19, 3) := by decide +kernel
theorem dX4_turned_75 : decode cX4_turned 75 = .ok (.getfield 77, 3) := by decide +kernel
theorem dX4_turned_78 : decode cX4_turned 78 = .ok (.iload_n 2, 1) := by decide +kernel
theorem dX4_turned_79 : decode cX4_turned 79 = .ok (.aaload, 1) := by decide +kernel
theorem dX4_turned_80 : decode cX4_turned 80 = .ok (.iload 7, 2) := by decide +kernel
theorem dX4_turned_82 : decode cX4_turned 82 = .ok (.invokevirtual 135, 3) := by decide +kernel
theorem dX4_turned_85 : decode cX4_turned 85 = .ok (.aload_n 0, 1) := by decide +kernel
theorem dX4_turned_86 : decode cX4_turned 86 = .ok (.getfield 30, 3) := by decide +kernel
theorem dX4_turned_89 : decode cX4_turned 89 = .ok (.invokevirtual 107, 3) := by decide +kernel
theorem dX4_turned_92 : decode cX4_turned 92 = .ok (.istore 8, 2) := by decide +kernel
theorem dX4_turned_94 : decode cX4_turned 94 = .ok (.iload 8, 2) := by decide +kernel
theorem dX4_turned_96 : decode cX4_turned 96 = .ok (.iload 5, 2) := by decide +kernel
theorem dX4_turned_98 : decode cX4_turned 98 = .ok (.invokestatic 132, 3) := by decide +kernel
theorem dX4_turned_101 : decode cX4_turned 101 = .ok (.ifCond .eq 11, 3) := by decide +kernel
theorem dX4_turned_104 : decode cX4_turned 104 = .ok (.iload 7, 2) := by decide +kernel
theorem dX4_turned_106 : decode cX4_turned 106 = .ok (.istore 4, 2) := by decide +kernel
theorem dX4_turned_108 : decode cX4_turned 108 = .ok (.iload 8, 2) := by decide +kernel
theorem dX4_turned_110 : decode cX4_turned 110 = .ok (.istore 5, 2) := by decide +kernel
theorem dX4_turned_112 : decode cX4_turned 112 = .ok (.iinc 7 1, 3) := by decide +kernel
theorem dX4_turned_115 : decode cX4_turned 115 = .ok (.goto (-68), 3) := by decide +kernel
theorem dX4_turned_118 : decode cX4_turned 118 = .ok (.iload_n 3, 1) := by decide +kernel
theorem dX4_turned_119 : decode cX4_turned 119 = .ok (.ifCond .ne 8, 3) := by decide +kernel
theorem dX4_turned_122 : decode cX4_turned 122 = .ok (.iload 4, 2) := by decide +kernel
theorem dX4_turned_124 : decode cX4_turned 124 = .ok (.goto 5, 3) := by decide +kernel
theorem dX4_turned_127 : decode cX4_turned 127 = .ok (.iload 5, 2) := by decide +kernel
theorem dX4_turned_129 : decode cX4_turned 129 = .ok (.ireturn, 1) := by decide +kernel
theorem dX4_anew_0 : decode cX4_anew 0 = .ok (.iload_n 1, 1) := by decide +kernel
theorem dX4_anew_1 : decode cX4_anew 1 = .ok (.iload_n 2, 1) := by decide +kernel
theorem dX4_anew_2 : decode cX4_anew 2 = .ok (.invokestatic 91, 3) := by decide +kernel
theorem dX4_anew_5 : decode cX4_anew 5 = .ok (.ifCond .ne 5, 3) := by decide +kernel
theorem dX4_anew_8 : decode cX4_anew 8 = .ok (.iconst (-1), 1) := by decide +kernel
theorem dX4_anew_9 : decode cX4_anew 9 = .ok (.ireturn, 1) := by decide +kernel
theorem dX4_anew_10 : decode cX4_anew 10 = .ok (.iload_n 3, 1) := by decide +kernel
theorem dX4_anew_11 : decode cX4_anew 11 = .ok (.iconst 0, 1) := by decide +kernel
theorem dX4_anew_12 : decode cX4_anew 12 = .ok (.iconst 2, 1) := by decide +kernel
theorem dX4_anew_13 : decode cX4_anew 13 = .ok (.invokestatic 38, 3) := by decide +kernel
theorem dX4_anew_16 : decode cX4_anew 16 = .ok (.ifCond .ne 6, 3) := by decide +kernel
theorem dX4_anew_19 : decode cX4_anew 19 = .ok (.bipush (-2), 2) := by decide +kernel
theorem dX4_anew_21 : decode cX4_anew 21 = .ok (.ireturn, 1) := by decide +kernel
theorem dX4_anew_22 : decode cX4_anew 22 = .ok (.bipush (-6), 2) := by decide +kernel
theorem dX4_anew_24 : decode cX4_anew 24 = .ok (.istore 4, 2) := by decide +kernel
theorem dX4_anew_26 : decode cX4_anew 26 = .ok (.bipush (-6), 2) := by decide +kernel
theorem dX4_anew_28 : decode cX4_anew 28 = .ok (.istore 5, 2) := by decide +kernel
theorem dX4_anew_30 : decode cX4_anew 30 = .ok (.aload_n 0, 1) := by decide +kernel
theorem dX4_anew_31 : decode cX4_anew 31 = .ok (.getfield 30, 3) := by decide +kernel
theorem dX4_anew_34 : decode cX4_anew 34 = .ok (.aload_n 0, 1) := by decide +kernel
theorem dX4_anew_35 : decode cX4_anew 35 = .ok (.getfield 19, 3) := by decide +kernel
theorem dX4_anew_38 : decode cX4_anew 38 = .ok (.iload_n 1, 1) := by decide +kernel
theorem dX4_anew_39 : decode cX4_anew 39 = .ok (.iload_n 2, 1) := by decide +kernel
theorem dX4_anew_40 : decode cX4_anew 40 = .ok (.invokevirtual 99, 3) := by decide +kernel
theorem dX4_anew_43 : decode cX4_anew 43 = .ok (.aload_n 0, 1) := by decide +kernel
theorem dX4_anew_44 : decode cX4_anew 44 = .ok (.getfield 30, 3) := by decide +kernel
theorem dX4_anew_47 : decode cX4_anew 47 = .ok (.invokevirtual 107, 3) := by decide +kernel
theorem dX4_anew_50 : decode cX4_anew 50 = .ok (.istore 6, 2) := by decide +kernel
theorem dX4_anew_52 : decode cX4_anew 52 = .ok (.aload_n 0, 1) := by decide +kernel
theorem dX4_anew_53 : decode cX4_anew 53 = .ok (.getfield 19, 3) := by decide +kernel
theorem dX4_anew_56 : decode cX4_anew 56 = .ok (.getfield 63, 3) := by decide +kernel
theorem dX4_anew_59 : decode cX4_anew 59 = .ok (.iload_n 1, 1) := by decide +kernel
theorem dX4_anew_60 : decode cX4_anew 60 = .ok (.aaload, 1) := by decide +kernel
theorem dX4_anew_61 : decode cX4_anew 61 = .ok (.getfield 71, 3) := by decide +kernel
theorem dX4_anew_64 : decode cX4_anew 64 = .ok (.istore 7, 2) := by decide +kernel
theorem dX4_anew_66 : decode cX4_anew 66 = .ok (.iconst 0, 1) := by decide +kernel
theorem dX4_anew_67 : decode cX4_anew 67 = .ok (.istore 8, 2) := by decide +kernel
theorem dX4_anew_69 : decode cX4_anew 69 = .ok (.iload 8, 2) := by decide +kernel
theorem dX4_anew_71 : decode cX4_anew 71 = .ok (.iload 7, 2) := by decide +kernel
theorem dX4_anew_73 : decode cX4_anew 73 = .ok (.if_icmp .ge 79, 3) := by decide +kernel
theorem dX4_anew_76 : decode cX4_anew 76 = .ok (.iconst 0, 1) := by decide +kernel
theorem dX4_anew_77 : decode cX4_anew 77 = .ok (.istore 9, 2) := by decide +kernel
theorem dX4_anew_79 : decode cX4_anew 79 = .ok (.iload 9, 2) := by decide +kernel
theorem dX4_anew_81 : decode cX4_anew 81 = .ok (.iconst 2, 1) := by decide +kernel
theorem dX4_anew_82 : decode cX4_anew 82 = .ok (.if_icmp .gt 64, 3) := by decide +kernel
theorem dX4_anew_85 : decode cX4_anew 85 = .ok (.aload_n 0, 1) := by decide +kernel
theorem dX4_anew_86 : decode cX4_anew 86 = .ok (.getfield 30, 3) := by decide +kernel
theorem dX4_anew_89 : decode cX4_anew 89 = .ok (.aload_n 0, 1) := by decide +kernel
theorem dX4_anew_90 : decode cX4_anew 90 = .ok (.getfield 19, 3) := by decide +kernel
theorem dX4_anew_93 : decode cX4_anew 93 = .ok (.iload_n 1, 1) := by decide +kernel
theorem dX4_anew_94 : decode cX4_anew 94 = .ok (.iload_n 2, 1) := by decide +kernel
theorem dX4_anew_95 : decode cX4_anew 95 = .ok (.invokevirtual 99, 3) := by decide +kernel
theorem dX4_anew_98 : decode cX4_anew 98 = .ok (.aload_n 0, 1) := by decide +kernel
theorem dX4_anew_99 : decode cX4_anew 99 = .ok (.getfield 30, 3) := by decide +kernel
theorem dX4_anew_102 : decode cX4_anew 102 = .ok (.iload 8, 2) := by decide +kernel
theorem dX4_anew_104 : decode cX4_anew 104 = .ok (.iload 9, 2) := by decide +kernel
theorem dX4_anew_106 : decode cX4_anew 106 = .ok (.invokevirtual 139, 3) := by decide +kernel
theorem dX4_anew_109 : decode cX4_anew 109 = .ok (.aload_n 0, 1) := by decide +kernel
theorem dX4_anew_110 : decode cX4_anew 110 = .ok (.getfield 30, 3) := by decide +kernel
theorem dX4_anew_113 : decode cX4_anew 113 = .ok (.invokevirtual 107, 3) := by decide +kernel
theorem dX4_anew_116 : decode cX4_anew 116 = .ok (.istore 10, 2) := by decide +kernel
theorem dX4_anew_118 : decode cX4_anew 118 = .ok (.iload 10, 2) := by decide +kernel
theorem dX4_anew_120 : decode cX4_anew 120 = .ok (.iload 6, 2) := by decide +kernel
theorem dX4_anew_122 : decode cX4_anew 122 = .ok (.invokestatic 132, 3) := by decide +kernel
theorem dX4_anew_125 : decode cX4_anew 125 = .ok (.ifCond .eq 15, 3) := by decide +kernel
theorem dX4_anew_128 : decode cX4_anew 128 = .ok (.iload 8, 2) := by decide +kernel
theorem dX4_anew_130 : decode cX4_anew 130 = .ok (.istore 4, 2) := by decide +kernel
theorem dX4_anew_132 : decode cX4_anew 132 = .ok (.iload 9, 2) := by decide +kernel
theorem dX4_anew_134 : decode cX4_anew 134 = .ok (.istore 5, 2) := by decide +kernel
theorem dX4_anew_136 : decode cX4_anew 136 = .ok (.iload 10, 2) := by decide +kernel
theorem dX4_anew_138 : decode cX4_anew 138 = .ok (.istore 6, 2) := by decide +kernel
theorem dX4_anew_140 : decode cX4_anew 140 = .ok (.iinc 9 1, 3) := by decide +kernel
theorem dX4_anew_143 : decode cX4_anew 143 = .ok (.goto (-64), 3) := by decide +kernel
theorem dX4_anew_146 : decode cX4_anew 146 = .ok (.iinc 8 1, 3) := by decide +kernel
theorem dX4_anew_149 : decode cX4_anew 149 = .ok (.goto (-80), 3) := by decide +kernel
theorem dX4_anew_152 : decode cX4_anew 152 = .ok (.iload_n 3, 1) := by decide +kernel
theorem dX4_anew_153 : decode cX4_anew 153 = .ok (.iconst 2, 1) := by decide +kernel
theorem dX4_anew_154 : decode cX4_anew 154 = .ok (.if_icmp .ne 18, 3) := by decide +kernel
theorem dX4_anew_157 : decode cX4_anew 157 = .ok (.iload 4, 2) := by decide +kernel
theorem dX4_anew_159 : decode cX4_anew 159 = .ok (.bipush (-6), 2) := by decide +kernel
theorem dX4_anew_161 : decode cX4_anew 161 = .ok (.if_icmp .ne 8, 3) := by decide +kernel
theorem dX4_anew_164 : decode cX4_anew 164 = .ok (.bipush (-6), 2) := by decide +kernel
theorem dX4_anew_166 : decode cX4_anew 166 = .ok (.goto 5, 3) := by decide +kernel
theorem dX4_anew_169 : decode cX4_anew 169 = .ok (.iload 6, 2) := by decide +kernel
theorem dX4_anew_171 : decode cX4_anew 171 = .ok (.ireturn, 1) := by decide +kernel
theorem dX4_anew_172 : decode cX4_anew 172 = .ok (.iload_n 3, 1) := by decide +kernel
theorem dX4_anew_173 : decode cX4_anew 173 = .ok (.ifCond .ne 8, 3) := by decide +kernel
theorem dX4_anew_176 : decode cX4_anew 176 = .ok (.iload 4, 2) := by decide +kernel
theorem dX4_anew_178 : decode cX4_anew 178 = .ok (.goto 5, 3) := by decide +kernel
theorem dX4_anew_181 : decode cX4_anew 181 = .ok (.iload 5, 2) := by decide +kernel
theorem dX4_anew_183 : decode cX4_anew 183 = .ok (.ireturn, 1) := by decide +kernel
theorem dX4_image_0 : decode cX4_image 0 = .ok (.iload_n 1, 1) := by decide +kernel
theorem dX4_image_1 : decode cX4_image 1 = .ok (.iconst 0, 1) := by decide +kernel
theorem dX4_image_2 : decode cX4_image 2 = .ok (.iconst 1, 1) := by decide +kernel
theorem dX4_image_3 : decode cX4_image 3 = .ok (.invokestatic 38, 3) := by decide +kernel
theorem dX4_image_6 : decode cX4_image 6 = .ok (.ifCond .ne 6, 3) := by decide +kernel
theorem dX4_image_9 : decode cX4_image 9 = .ok (.bipush (-2), 2) := by decide +kernel
theorem dX4_image_11 : decode cX4_image 11 = .ok (.ireturn, 1) := by decide +kernel
theorem dX4_image_12 : decode cX4_image 12 = .ok (.aload_n 0, 1) := by decide +kernel
theorem dX4_image_13 : decode cX4_image 13 = .ok (.getfield 23, 3) := by decide +kernel
theorem dX4_image_16 : decode cX4_image 16 = .ok (.iload_n 1, 1) := by decide +kernel
theorem dX4_image_17 : decode cX4_image 17 = .ok (.aaload, 1) := by decide +kernel
theorem dX4_image_18 : decode cX4_image 18 = .ok (.aload_n 0, 1) := by decide +kernel
theorem dX4_image_19 : decode cX4_image 19 = .ok (.getfield 19, 3) := by decide +kernel
theorem dX4_image_22 : decode cX4_image 22 = .ok (.invokevirtual 143, 3) := by decide +kernel
theorem dX4_image_25 : decode cX4_image 25 = .ok (.aload_n 0, 1) := by decide +kernel
theorem dX4_image_26 : decode cX4_image 26 = .ok (.dup, 1) := by decide +kernel
theorem dX4_image_27 : decode cX4_image 27 = .ok (.getfield 34, 3) := by decide +kernel
theorem dX4_image_30 : decode cX4_image 30 = .ok (.iconst 1, 1) := by decide +kernel
theorem dX4_image_31 : decode cX4_image 31 = .ok (.iload_n 1, 1) := by decide +kernel
theorem dX4_image_32 : decode cX4_image 32 = .ok (.ishl, 1) := by decide +kernel
theorem dX4_image_33 : decode cX4_image 33 = .ok (.ior, 1) := by decide +kernel
theorem dX4_image_34 : decode cX4_image 34 = .ok (.putfield 34, 3) := by decide +kernel
theorem dX4_image_37 : decode cX4_image 37 = .ok (.iconst 1, 1) := by decide +kernel
theorem dX4_image_38 : decode cX4_image 38 = .ok (.ireturn, 1) := by decide +kernel
theorem dX4_restore_0 : decode cX4_restore 0 = .ok (.iload_n 1, 1) := by decide +kernel
theorem dX4_restore_1 : decode cX4_restore 1 = .ok (.iconst 0, 1) := by decide +kernel
theorem dX4_restore_2 : decode cX4_restore 2 = .ok (.iconst 1, 1) := by decide +kernel
theorem dX4_restore_3 : decode cX4_restore 3 = .ok (.invokestatic 38, 3) := by decide +kernel
theorem dX4_restore_6 : decode cX4_restore 6 = .ok (.ifCond .ne 6, 3) := by decide +kernel
theorem dX4_restore_9 : decode cX4_restore 9 = .ok (.bipush (-2), 2) := by decide +kernel
theorem dX4_restore_11 : decode cX4_restore 11 = .ok (.ireturn, 1) := by decide +kernel
theorem dX4_restore_12 : decode cX4_restore 12 = .ok (.aload_n 0, 1) := by decide +kernel
theorem dX4_restore_13 : decode cX4_restore 13 = .ok (.getfield 34, 3) := by decide +kernel
theorem dX4_restore_16 : decode cX4_restore 16 = .ok (.iload_n 1, 1) := by decide +kernel
theorem dX4_restore_17 : decode cX4_restore 17 = .ok (.ishr, 1) := by decide +kernel
theorem dX4_restore_18 : decode cX4_restore 18 = .ok (.iconst 1, 1) := by decide +kernel
theorem dX4_restore_19 : decode cX4_restore 19 = .ok (.iand, 1) := by decide +kernel
theorem dX4_restore_20 : decode cX4_restore 20 = .ok (.ifCond .ne 6, 3) := by decide +kernel
theorem dX4_restore_23 : decode cX4_restore 23 = .ok (.bipush (-3), 2) := by decide +kernel
theorem dX4_restore_25 : decode cX4_restore 25 = .ok (.ireturn, 1) := by decide +kernel
theorem dX4_restore_26 : decode cX4_restore 26 = .ok (.aload_n 0, 1) := by decide +kernel
theorem dX4_restore_27 : decode cX4_restore 27 = .ok (.getfield 19, 3) := by decide +kernel
theorem dX4_restore_30 : decode cX4_restore 30 = .ok (.aload_n 0, 1) := by decide +kernel
theorem dX4_restore_31 : decode cX4_restore 31 = .ok (.getfield 23, 3) := by decide +kernel
theorem dX4_restore_34 : decode cX4_restore 34 = .ok (.iload_n 1, 1) := by decide +kernel
theorem dX4_restore_35 : decode cX4_restore 35 = .ok (.aaload, 1) := by decide +kernel
theorem dX4_restore_36 : decode cX4_restore 36 = .ok (.invokevirtual 143, 3) := by decide +kernel
theorem dX4_restore_39 : decode cX4_restore 39 = .ok (.iconst 1, 1) := by decide +kernel
theorem dX4_restore_40 : decode cX4_restore 40 = .ok (.ireturn, 1) := by decide +kernel
theorem dX4_count_0 : decode cX4_count 0 = .ok (.iload_n 1, 1) := by decide +kernel
theorem dX4_count_1 : decode cX4_count 1 = .ok (.bipush 10, 2) := by decide +kernel
theorem dX4_count_3 : decode cX4_count 3 = .ok (.bipush 13, 2) := by decide +kernel
theorem dX4_count_5 : decode cX4_count 5 = .ok (.invokestatic 38, 3) := by decide +kernel
theorem dX4_count_8 : decode cX4_count 8 = .ok (.ifCond .eq 16, 3) := by decide +kernel
theorem dX4_count_11 : decode cX4_count 11 = .ok (.aload_n 0, 1) := by decide +kernel
theorem dX4_count_12 : decode cX4_count 12 = .ok (.getfield 19, 3) := by decide +kernel
theorem dX4_count_15 : decode cX4_count 15 = .ok (.getfield 83, 3) := by decide +kernel
theorem dX4_count_18 : decode cX4_count 18 = .ok (.iload_n 1, 1) := by decide +kernel
theorem dX4_count_19 : decode cX4_count 19 = .ok (.bipush 10, 2) := by decide +kernel
theorem dX4_count_21 : decode cX4_count 21 = .ok (.isub, 1) := by decide +kernel
theorem dX4_count_22 : decode cX4_count 22 = .ok (.iaload, 1) := by decide +kernel
theorem dX4_count_23 : decode cX4_count 23 = .ok (.ireturn, 1) := by decide +kernel
theorem dX4_count_24 : decode cX4_count 24 = .ok (.iload_n 1, 1) := by decide +kernel
theorem dX4_count_25 : decode cX4_count 25 = .ok (.tableswitch 72 0 4 #[35, 43, 51, 59, 67], 35) := by decide +kernel
theorem dX4_count_60 : decode cX4_count 60 = .ok (.aload_n 0, 1) := by decide +kernel
theorem dX4_count_61 : decode cX4_count 61 = .ok (.getfield 19, 3) := by decide +kernel
theorem dX4_count_64 : decode cX4_count 64 = .ok (.invokevirtual 147, 3) := by decide +kernel
theorem dX4_count_67 : decode cX4_count 67 = .ok (.ireturn, 1) := by decide +kernel
theorem dX4_count_68 : decode cX4_count 68 = .ok (.aload_n 0, 1) := by decide +kernel
theorem dX4_count_69 : decode cX4_count 69 = .ok (.getfield 19, 3) := by decide +kernel
theorem dX4_count_72 : decode cX4_count 72 = .ok (.invokevirtual 150, 3) := by decide +kernel
theorem dX4_count_75 : decode cX4_count 75 = .ok (.ireturn, 1) := by decide +kernel
theorem dX4_count_76 : decode cX4_count 76 = .ok (.aload_n 0, 1) := by decide +kernel
theorem dX4_count_77 : decode cX4_count 77 = .ok (.getfield 12, 3) := by decide +kernel
theorem dX4_count_80 : decode cX4_count 80 = .ok (.getfield 42, 3) := by decide +kernel
theorem dX4_count_83 : decode cX4_count 83 = .ok (.ireturn, 1) := by decide +kernel
theorem dX4_count_84 : decode cX4_count 84 = .ok (.aload_n 0, 1) := by decide +kernel
theorem dX4_count_85 : decode cX4_count 85 = .ok (.getfield 19, 3) := by decide +kernel
theorem dX4_count_88 : decode cX4_count 88 = .ok (.invokevirtual 153, 3) := by decide +kernel
theorem dX4_count_91 : decode cX4_count 91 = .ok (.ireturn, 1) := by decide +kernel
theorem dX4_count_92 : decode cX4_count 92 = .ok (.aload_n 0, 1) := by decide +kernel
theorem dX4_count_93 : decode cX4_count 93 = .ok (.getfield 34, 3) := by decide +kernel
theorem dX4_count_96 : decode cX4_count 96 = .ok (.ireturn, 1) := by decide +kernel
theorem dX4_count_97 : decode cX4_count 97 = .ok (.bipush (-2), 2) := by decide +kernel
theorem dX4_count_99 : decode cX4_count 99 = .ok (.ireturn, 1) := by decide +kernel
theorem dX4_isWithin_0 : decode cX4_isWithin 0 = .ok (.iload_n 0, 1) := by decide +kernel
theorem dX4_isWithin_1 : decode cX4_isWithin 1 = .ok (.iload_n 1, 1) := by decide +kernel
theorem dX4_isWithin_2 : decode cX4_isWithin 2 = .ok (.if_icmp .lt 12, 3) := by decide +kernel
theorem dX4_isWithin_5 : decode cX4_isWithin 5 = .ok (.iload_n 0, 1) := by decide +kernel
theorem dX4_isWithin_6 : decode cX4_isWithin 6 = .ok (.iload_n 2, 1) := by decide +kernel
theorem dX4_isWithin_7 : decode cX4_isWithin 7 = .ok (.if_icmp .gt 7, 3) := by decide +kernel
theorem dX4_isWithin_10 : decode cX4_isWithin 10 = .ok (.iconst 1, 1) := by decide +kernel
theorem dX4_isWithin_11 : decode cX4_isWithin 11 = .ok (.goto 4, 3) := by decide +kernel
theorem dX4_isWithin_14 : decode cX4_isWithin 14 = .ok (.iconst 0, 1) := by decide +kernel
theorem dX4_isWithin_15 : decode cX4_isWithin 15 = .ok (.ireturn, 1) := by decide +kernel
theorem dX4_isLine_0 : decode cX4_isLine 0 = .ok (.iload_n 0, 1) := by decide +kernel
theorem dX4_isLine_1 : decode cX4_isLine 1 = .ok (.iconst 0, 1) := by decide +kernel
theorem dX4_isLine_2 : decode cX4_isLine 2 = .ok (.iconst 2, 1) := by decide +kernel
theorem dX4_isLine_3 : decode cX4_isLine 3 = .ok (.invokestatic 38, 3) := by decide +kernel
theorem dX4_isLine_6 : decode cX4_isLine 6 = .ok (.ireturn, 1) := by decide +kernel
theorem dX4_isTune_0 : decode cX4_isTune 0 = .ok (.iload_n 0, 1) := by decide +kernel
theorem dX4_isTune_1 : decode cX4_isTune 1 = .ok (.iconst 0, 1) := by decide +kernel
theorem dX4_isTune_2 : decode cX4_isTune 2 = .ok (.iconst 3, 1) := by decide +kernel
theorem dX4_isTune_3 : decode cX4_isTune 3 = .ok (.invokestatic 38, 3) := by decide +kernel
theorem dX4_isTune_6 : decode cX4_isTune 6 = .ok (.ireturn, 1) := by decide +kernel
theorem dX4_areKnown_0 : decode cX4_areKnown 0 = .ok (.iload_n 0, 1) := by decide +kernel
theorem dX4_areKnown_1 : decode cX4_areKnown 1 = .ok (.invokestatic 59, 3) := by decide +kernel
theorem dX4_areKnown_4 : decode cX4_areKnown 4 = .ok (.ifCond .eq 14, 3) := by decide +kernel
theorem dX4_areKnown_7 : decode cX4_areKnown 7 = .ok (.iload_n 1, 1) := by decide +kernel
theorem dX4_areKnown_8 : decode cX4_areKnown 8 = .ok (.invokestatic 74, 3) := by decide +kernel
theorem dX4_areKnown_11 : decode cX4_areKnown 11 = .ok (.ifCond .eq 7, 3) := by decide +kernel
theorem dX4_areKnown_14 : decode cX4_areKnown 14 = .ok (.iconst 1, 1) := by decide +kernel
theorem dX4_areKnown_15 : decode cX4_areKnown 15 = .ok (.goto 4, 3) := by decide +kernel
theorem dX4_areKnown_18 : decode cX4_areKnown 18 = .ok (.iconst 0, 1) := by decide +kernel
theorem dX4_areKnown_19 : decode cX4_areKnown 19 = .ok (.ireturn, 1) := by decide +kernel
theorem dX4_isCheaper_0 : decode cX4_isCheaper 0 = .ok (.iload_n 0, 1) := by decide +kernel
theorem dX4_isCheaper_1 : decode cX4_isCheaper 1 = .ok (.bipush (-6), 2) := by decide +kernel
theorem dX4_isCheaper_3 : decode cX4_isCheaper 3 = .ok (.if_icmp .eq 18, 3) := by decide +kernel
theorem dX4_isCheaper_6 : decode cX4_isCheaper 6 = .ok (.iload_n 1, 1) := by decide +kernel
theorem dX4_isCheaper_7 : decode cX4_isCheaper 7 = .ok (.bipush (-6), 2) := by decide +kernel
theorem dX4_isCheaper_9 : decode cX4_isCheaper 9 = .ok (.if_icmp .eq 8, 3) := by decide +kernel
theorem dX4_isCheaper_12 : decode cX4_isCheaper 12 = .ok (.iload_n 0, 1) := by decide +kernel
theorem dX4_isCheaper_13 : decode cX4_isCheaper 13 = .ok (.iload_n 1, 1) := by decide +kernel
theorem dX4_isCheaper_14 : decode cX4_isCheaper 14 = .ok (.if_icmp .ge 7, 3) := by decide +kernel
theorem dX4_isCheaper_17 : decode cX4_isCheaper 17 = .ok (.iconst 1, 1) := by decide +kernel
theorem dX4_isCheaper_18 : decode cX4_isCheaper 18 = .ok (.goto 4, 3) := by decide +kernel
theorem dX4_isCheaper_21 : decode cX4_isCheaper 21 = .ok (.iconst 0, 1) := by decide +kernel
theorem dX4_isCheaper_22 : decode cX4_isCheaper 22 = .ok (.ireturn, 1) := by decide +kernel
theorem dX4_partOf_0 : decode cX4_partOf 0 = .ok (.iload_n 2, 1) := by decide +kernel
theorem dX4_partOf_1 : decode cX4_partOf 1 = .ok (.iconst 0, 1) := by decide +kernel
theorem dX4_partOf_2 : decode cX4_partOf 2 = .ok (.iconst 1, 1) := by decide +kernel
theorem dX4_partOf_3 : decode cX4_partOf 3 = .ok (.invokestatic 38, 3) := by decide +kernel
theorem dX4_partOf_6 : decode cX4_partOf 6 = .ok (.ifCond .ne 6, 3) := by decide +kernel
theorem dX4_partOf_9 : decode cX4_partOf 9 = .ok (.bipush (-2), 2) := by decide +kernel
theorem dX4_partOf_11 : decode cX4_partOf 11 = .ok (.ireturn, 1) := by decide +kernel
theorem dX4_partOf_12 : decode cX4_partOf 12 = .ok (.iload_n 1, 1) := by decide +kernel
theorem dX4_partOf_13 : decode cX4_partOf 13 = .ok (.iconst (-1), 1) := by decide +kernel
theorem dX4_partOf_14 : decode cX4_partOf 14 = .ok (.if_icmp .ne 8, 3) := by decide +kernel
theorem dX4_partOf_17 : decode cX4_partOf 17 = .ok (.aload_n 0, 1) := by decide +kernel
theorem dX4_partOf_18 : decode cX4_partOf 18 = .ok (.getfield 71, 3) := by decide +kernel
theorem dX4_partOf_21 : decode cX4_partOf 21 = .ok (.ireturn, 1) := by decide +kernel
theorem dX4_partOf_22 : decode cX4_partOf 22 = .ok (.iload_n 1, 1) := by decide +kernel
theorem dX4_partOf_23 : decode cX4_partOf 23 = .ok (.iconst 0, 1) := by decide +kernel
theorem dX4_partOf_24 : decode cX4_partOf 24 = .ok (.aload_n 0, 1) := by decide +kernel
theorem dX4_partOf_25 : decode cX4_partOf 25 = .ok (.getfield 71, 3) := by decide +kernel
theorem dX4_partOf_28 : decode cX4_partOf 28 = .ok (.iconst 1, 1) := by decide +kernel
theorem dX4_partOf_29 : decode cX4_partOf 29 = .ok (.isub, 1) := by decide +kernel
theorem dX4_partOf_30 : decode cX4_partOf 30 = .ok (.invokestatic 38, 3) := by decide +kernel
theorem dX4_partOf_33 : decode cX4_partOf 33 = .ok (.ifCond .ne 6, 3) := by decide +kernel
theorem dX4_partOf_36 : decode cX4_partOf 36 = .ok (.bipush (-6), 2) := by decide +kernel
theorem dX4_partOf_38 : decode cX4_partOf 38 = .ok (.ireturn, 1) := by decide +kernel
theorem dX4_partOf_39 : decode cX4_partOf 39 = .ok (.iload_n 2, 1) := by decide +kernel
theorem dX4_partOf_40 : decode cX4_partOf 40 = .ok (.ifCond .ne 12, 3) := by decide +kernel
theorem dX4_partOf_43 : decode cX4_partOf 43 = .ok (.aload_n 0, 1) := by decide +kernel
theorem dX4_partOf_44 : decode cX4_partOf 44 = .ok (.getfield 156, 3) := by decide +kernel
theorem dX4_partOf_47 : decode cX4_partOf 47 = .ok (.iload_n 1, 1) := by decide +kernel
theorem dX4_partOf_48 : decode cX4_partOf 48 = .ok (.iaload, 1) := by decide +kernel
theorem dX4_partOf_49 : decode cX4_partOf 49 = .ok (.goto 9, 3) := by decide +kernel
theorem dX4_partOf_52 : decode cX4_partOf 52 = .ok (.aload_n 0, 1) := by decide +kernel
theorem dX4_partOf_53 : decode cX4_partOf 53 = .ok (.getfield 159, 3) := by decide +kernel
theorem dX4_partOf_56 : decode cX4_partOf 56 = .ok (.iload_n 1, 1) := by decide +kernel
theorem dX4_partOf_57 : decode cX4_partOf 57 = .ok (.iaload, 1) := by decide +kernel
theorem dX4_partOf_58 : decode cX4_partOf 58 = .ok (.ireturn, 1) := by decide +kernel
theorem dX4_verseOf_0 : decode cX4_verseOf 0 = .ok (.aload_n 0, 1) := by decide +kernel
theorem dX4_verseOf_1 : decode cX4_verseOf 1 = .ok (.getfield 19, 3) := by decide +kernel
theorem dX4_verseOf_4 : decode cX4_verseOf 4 = .ok (.getfield 77, 3) := by decide +kernel
theorem dX4_verseOf_7 : decode cX4_verseOf 7 = .ok (.iload_n 1, 1) := by decide +kernel
theorem dX4_verseOf_8 : decode cX4_verseOf 8 = .ok (.aaload, 1) := by decide +kernel
theorem dX4_verseOf_9 : decode cX4_verseOf 9 = .ok (.getfield 71, 3) := by decide +kernel
theorem dX4_verseOf_12 : decode cX4_verseOf 12 = .ok (.ifCond .eq 13, 3) := by decide +kernel
theorem dX4_verseOf_15 : decode cX4_verseOf 15 = .ok (.aload_n 0, 1) := by decide +kernel
theorem dX4_verseOf_16 : decode cX4_verseOf 16 = .ok (.getfield 19, 3) := by decide +kernel
theorem dX4_verseOf_19 : decode cX4_verseOf 19 = .ok (.invokevirtual 147, 3) := by decide +kernel
theorem dX4_verseOf_22 : decode cX4_verseOf 22 = .ok (.ifCond .ne 6, 3) := by decide +kernel
theorem dX4_verseOf_25 : decode cX4_verseOf 25 = .ok (.bipush (-6), 2) := by decide +kernel
theorem dX4_verseOf_27 : decode cX4_verseOf 27 = .ok (.ireturn, 1) := by decide +kernel
theorem dX4_verseOf_28 : decode cX4_verseOf 28 = .ok (.iconst 0, 1) := by decide +kernel
theorem dX4_verseOf_29 : decode cX4_verseOf 29 = .ok (.istore_n 2, 1) := by decide +kernel
theorem dX4_verseOf_30 : decode cX4_verseOf 30 = .ok (.iconst 0, 1) := by decide +kernel
theorem dX4_verseOf_31 : decode cX4_verseOf 31 = .ok (.istore_n 3, 1) := by decide +kernel
theorem dX4_verseOf_32 : decode cX4_verseOf 32 = .ok (.iload_n 3, 1) := by decide +kernel
theorem dX4_verseOf_33 : decode cX4_verseOf 33 = .ok (.iconst 3, 1) := by decide +kernel
theorem dX4_verseOf_34 : decode cX4_verseOf 34 = .ok (.if_icmp .ge 47, 3) := by decide +kernel
theorem dX4_verseOf_37 : decode cX4_verseOf 37 = .ok (.aload_n 0, 1) := by decide +kernel
theorem dX4_verseOf_38 : decode cX4_verseOf 38 = .ok (.getfield 19, 3) := by decide +kernel
theorem dX4_verseOf_41 : decode cX4_verseOf 41 = .ok (.getfield 63, 3) := by decide +kernel
theorem dX4_verseOf_44 : decode cX4_verseOf 44 = .ok (.iload_n 3, 1) := by decide +kernel
theorem dX4_verseOf_45 : decode cX4_verseOf 45 = .ok (.aaload, 1) := by decide +kernel
theorem dX4_verseOf_46 : decode cX4_verseOf 46 = .ok (.getfield 71, 3) := by decide +kernel
theorem dX4_verseOf_49 : decode cX4_verseOf 49 = .ok (.ifCond .le 26, 3) := by decide +kernel
theorem dX4_verseOf_52 : decode cX4_verseOf 52 = .ok (.aload_n 0, 1) := by decide +kernel
theorem dX4_verseOf_53 : decode cX4_verseOf 53 = .ok (.getfield 30, 3) := by decide +kernel
theorem dX4_verseOf_56 : decode cX4_verseOf 56 = .ok (.aload_n 0, 1) := by decide +kernel
theorem dX4_verseOf_57 : decode cX4_verseOf 57 = .ok (.getfield 19, 3) := by decide +kernel
theorem dX4_verseOf_60 : decode cX4_verseOf 60 = .ok (.iload_n 3, 1) := by decide +kernel
theorem dX4_verseOf_61 : decode cX4_verseOf 61 = .ok (.iload_n 1, 1) := by decide +kernel
theorem dX4_verseOf_62 : decode cX4_verseOf 62 = .ok (.invokevirtual 99, 3) := by decide +kernel
theorem dX4_verseOf_65 : decode cX4_verseOf 65 = .ok (.iload_n 2, 1) := by decide +kernel
theorem dX4_verseOf_66 : decode cX4_verseOf 66 = .ok (.aload_n 0, 1) := by decide +kernel
theorem dX4_verseOf_67 : decode cX4_verseOf 67 = .ok (.getfield 30, 3) := by decide +kernel
theorem dX4_verseOf_70 : decode cX4_verseOf 70 = .ok (.invokevirtual 107, 3) := by decide +kernel
theorem dX4_verseOf_73 : decode cX4_verseOf 73 = .ok (.iadd, 1) := by decide +kernel
theorem dX4_verseOf_74 : decode cX4_verseOf 74 = .ok (.istore_n 2, 1) := by decide +kernel
theorem dX4_verseOf_75 : decode cX4_verseOf 75 = .ok (.iinc 3 1, 3) := by decide +kernel
theorem dX4_verseOf_78 : decode cX4_verseOf 78 = .ok (.goto (-46), 3) := by decide +kernel
theorem dX4_verseOf_81 : decode cX4_verseOf 81 = .ok (.iload_n 2, 1) := by decide +kernel
theorem dX4_verseOf_82 : decode cX4_verseOf 82 = .ok (.ireturn, 1) := by decide +kernel
end
section
theorem dX1_init_0 : decode cX1_init 0 = .ok (.aload_n 0, 1) := by decide +kernel
theorem dX1_init_1 : decode cX1_init 1 = .ok (.invokespecial 3, 3) := by decide +kernel
theorem dX1_init_4 : decode cX1_init 4 = .ok (.aload_n 0, 1) := by decide +kernel
theorem dX1_init_5 : decode cX1_init 5 = .ok (.new 9, 3) := by decide +kernel
theorem dX1_init_8 : decode cX1_init 8 = .ok (.dup, 1) := by decide +kernel
theorem dX1_init_9 : decode cX1_init 9 = .ok (.bipush 9, 2) := by decide +kernel
theorem dX1_init_11 : decode cX1_init 11 = .ok (.invokespecial 11, 3) := by decide +kernel
theorem dX1_init_14 : decode cX1_init 14 = .ok (.putfield 14, 3) := by decide +kernel
theorem dX1_init_17 : decode cX1_init 17 = .ok (.aload_n 0, 1) := by decide +kernel
theorem dX1_init_18 : decode cX1_init 18 = .ok (.new 9, 3) := by decide +kernel
theorem dX1_init_21 : decode cX1_init 21 = .ok (.dup, 1) := by decide +kernel
theorem dX1_init_22 : decode cX1_init 22 = .ok (.bipush 11, 2) := by decide +kernel
theorem dX1_init_24 : decode cX1_init 24 = .ok (.invokespecial 11, 3) := by decide +kernel
theorem dX1_init_27 : decode cX1_init 27 = .ok (.putfield 20, 3) := by decide +kernel
theorem dX1_init_30 : decode cX1_init 30 = .ok (.aload_n 0, 1) := by decide +kernel
theorem dX1_init_31 : decode cX1_init 31 = .ok (.iconst 4, 1) := by decide +kernel
theorem dX1_init_32 : decode cX1_init 32 = .ok (.newarray .int, 2) := by decide +kernel
theorem dX1_init_34 : decode cX1_init 34 = .ok (.putfield 23, 3) := by decide +kernel
theorem dX1_init_37 : decode cX1_init 37 = .ok (.aload_n 0, 1) := by decide +kernel
theorem dX1_init_38 : decode cX1_init 38 = .ok (.bipush 10, 2) := by decide +kernel
theorem dX1_init_40 : decode cX1_init 40 = .ok (.bipush 12, 2) := by decide +kernel
theorem dX1_init_42 : decode cX1_init 42 = .ok (.multianewarray 27 2, 4) := by decide +kernel
theorem dX1_init_46 : decode cX1_init 46 = .ok (.putfield 29, 3) := by decide +kernel
theorem dX1_init_49 : decode cX1_init 49 = .ok (.aload_n 0, 1) := by decide +kernel
theorem dX1_init_50 : decode cX1_init 50 = .ok (.bipush 10, 2) := by decide +kernel
theorem dX1_init_52 : decode cX1_init 52 = .ok (.bipush 12, 2) := by decide +kernel
theorem dX1_init_54 : decode cX1_init 54 = .ok (.multianewarray 27 2, 4) := by decide +kernel
theorem dX1_init_58 : decode cX1_init 58 = .ok (.putfield 32, 3) := by decide +kernel
theorem dX1_init_61 : decode cX1_init 61 = .ok (.aload_n 0, 1) := by decide +kernel
theorem dX1_init_62 : decode cX1_init 62 = .ok (.bipush 10, 2) := by decide +kernel
theorem dX1_init_64 : decode cX1_init 64 = .ok (.bipush 12, 2) := by decide +kernel
theorem dX1_init_66 : decode cX1_init 66 = .ok (.multianewarray 27 2, 4) := by decide +kernel
theorem dX1_init_70 : decode cX1_init 70 = .ok (.putfield 35, 3) := by decide +kernel
theorem dX1_init_73 : decode cX1_init 73 = .ok (.aload_n 0, 1) := by decide +kernel
theorem dX1_init_74 : decode cX1_init 74 = .ok (.bipush 10, 2) := by decide +kernel
theorem dX1_init_76 : decode cX1_init 76 = .ok (.bipush 12, 2) := by decide +kernel
theorem dX1_init_78 : decode cX1_init 78 = .ok (.multianewarray 27 2, 4) := by decide +kernel
theorem dX1_init_82 : decode cX1_init 82 = .ok (.putfield 38, 3) := by decide +kernel
theorem dX1_init_85 : decode cX1_init 85 = .ok (.aload_n 0, 1) := by decide +kernel
theorem dX1_init_86 : decode cX1_init 86 = .ok (.bipush 20, 2) := by decide +kernel
theorem dX1_init_88 : decode cX1_init 88 = .ok (.newarray .int, 2) := by decide +kernel
theorem dX1_init_90 : decode cX1_init 90 = .ok (.putfield 41, 3) := by decide +kernel
theorem dX1_init_93 : decode cX1_init 93 = .ok (.aload_n 0, 1) := by decide +kernel
theorem dX1_init_94 : decode cX1_init 94 = .ok (.iconst 0, 1) := by decide +kernel
theorem dX1_init_95 : decode cX1_init 95 = .ok (.putfield 44, 3) := by decide +kernel
theorem dX1_init_98 : decode cX1_init 98 = .ok (.aload_n 0, 1) := by decide +kernel
theorem dX1_init_99 : decode cX1_init 99 = .ok (.bipush 11, 2) := by decide +kernel
theorem dX1_init_101 : decode cX1_init 101 = .ok (.newarray .int, 2) := by decide +kernel
theorem dX1_init_103 : decode cX1_init 103 = .ok (.putfield 48, 3) := by decide +kernel
theorem dX1_init_106 : decode cX1_init 106 = .ok (.aload_n 0, 1) := by decide +kernel
theorem dX1_init_107 : decode cX1_init 107 = .ok (.bipush 11, 2) := by decide +kernel
theorem dX1_init_109 : decode cX1_init 109 = .ok (.newarray .int, 2) := by decide +kernel
theorem dX1_init_111 : decode cX1_init 111 = .ok (.putfield 51, 3) := by decide +kernel
theorem dX1_init_114 : decode cX1_init 114 = .ok (.return_, 1) := by decide +kernel
theorem dX1_take_0 : decode cX1_take 0 = .ok (.aload_n 0, 1) := by decide +kernel
theorem dX1_take_1 : decode cX1_take 1 = .ok (.getfield 14, 3) := by decide +kernel
theorem dX1_take_4 : decode cX1_take 4 = .ok (.aload_n 1, 1) := by decide +kernel
theorem dX1_take_5 : decode cX1_take 5 = .ok (.getfield 54, 3) := by decide +kernel
theorem dX1_take_8 : decode cX1_take 8 = .ok (.iload_n 2, 1) := by decide +kernel
theorem dX1_take_9 : decode cX1_take 9 = .ok (.aaload, 1) := by decide +kernel
theorem dX1_take_10 : decode cX1_take 10 = .ok (.invokevirtual 60, 3) := by decide +kernel
theorem dX1_take_13 : decode cX1_take 13 = .ok (.aload_n 0, 1) := by decide +kernel
theorem dX1_take_14 : decode cX1_take 14 = .ok (.getfield 20, 3) := by decide +kernel
theorem dX1_take_17 : decode cX1_take 17 = .ok (.aload_n 1, 1) := by decide +kernel
theorem dX1_take_18 : decode cX1_take 18 = .ok (.getfield 64, 3) := by decide +kernel
theorem dX1_take_21 : decode cX1_take 21 = .ok (.iload_n 3, 1) := by decide +kernel
theorem dX1_take_22 : decode cX1_take 22 = .ok (.aaload, 1) := by decide +kernel
theorem dX1_take_23 : decode cX1_take 23 = .ok (.invokevirtual 60, 3) := by decide +kernel
theorem dX1_take_26 : decode cX1_take 26 = .ok (.aload_n 1, 1) := by decide +kernel
theorem dX1_take_27 : decode cX1_take 27 = .ok (.getfield 67, 3) := by decide +kernel
theorem dX1_take_30 : decode cX1_take 30 = .ok (.iconst 0, 1) := by decide +kernel
theorem dX1_take_31 : decode cX1_take 31 = .ok (.aload_n 0, 1) := by decide +kernel
theorem dX1_take_32 : decode cX1_take 32 = .ok (.getfield 23, 3) := by decide +kernel
theorem dX1_take_35 : decode cX1_take 35 = .ok (.iconst 0, 1) := by decide +kernel
theorem dX1_take_36 : decode cX1_take 36 = .ok (.iconst 4, 1) := by decide +kernel
theorem dX1_take_37 : decode cX1_take 37 = .ok (.invokestatic 68, 3) := by decide +kernel
theorem dX1_take_40 : decode cX1_take 40 = .ok (.return_, 1) := by decide +kernel
theorem dX1_turnTune_0 : decode cX1_turnTune 0 = .ok (.aload_n 0, 1) := by decide +kernel
theorem dX1_turnTune_1 : decode cX1_turnTune 1 = .ok (.getfield 20, 3) := by decide +kernel
theorem dX1_turnTune_4 : decode cX1_turnTune 4 = .ok (.invokevirtual 74, 3) := by decide +kernel
theorem dX1_turnTune_7 : decode cX1_turnTune 7 = .ok (.aload_n 0, 1) := by decide +kernel
theorem dX1_turnTune_8 : decode cX1_turnTune 8 = .ok (.getfield 20, 3) := by decide +kernel
theorem dX1_turnTune_11 : decode cX1_turnTune 11 = .ok (.aload_n 1, 1) := by decide +kernel
theorem dX1_turnTune_12 : decode cX1_turnTune 12 = .ok (.iload_n 2, 1) := by decide +kernel
theorem dX1_turnTune_13 : decode cX1_turnTune 13 = .ok (.aload_n 1, 1) := by decide +kernel
theorem dX1_turnTune_14 : decode cX1_turnTune 14 = .ok (.getfield 77, 3) := by decide +kernel
theorem dX1_turnTune_17 : decode cX1_turnTune 17 = .ok (.invokevirtual 80, 3) := by decide +kernel
theorem dX1_turnTune_20 : decode cX1_turnTune 20 = .ok (.aload_n 0, 1) := by decide +kernel
theorem dX1_turnTune_21 : decode cX1_turnTune 21 = .ok (.getfield 20, 3) := by decide +kernel
theorem dX1_turnTune_24 : decode cX1_turnTune 24 = .ok (.aload_n 1, 1) := by decide +kernel
theorem dX1_turnTune_25 : decode cX1_turnTune 25 = .ok (.iconst 0, 1) := by decide +kernel
theorem dX1_turnTune_26 : decode cX1_turnTune 26 = .ok (.iload_n 2, 1) := by decide +kernel
theorem dX1_turnTune_27 : decode cX1_turnTune 27 = .ok (.invokevirtual 80, 3) := by decide +kernel
theorem dX1_turnTune_30 : decode cX1_turnTune 30 = .ok (.return_, 1) := by decide +kernel
theorem dX1_stressSyllable_0 : decode cX1_stressSyllable 0 = .ok (.iload_n 1, 1) := by decide +kernel
theorem dX1_stressSyllable_1 : decode cX1_stressSyllable 1 = .ok (.iconst 0, 1) := by decide +kernel
theorem dX1_stressSyllable_2 : decode cX1_stressSyllable 2 = .ok (.aload_n 0, 1) := by decide +kernel
theorem dX1_stressSyllable_3 : decode cX1_stressSyllable 3 = .ok (.getfield 14, 3) := by decide +kernel
theorem dX1_stressSyllable_6 : decode cX1_stressSyllable 6 = .ok (.getfield 77, 3) := by decide +kernel
theorem dX1_stressSyllable_9 : decode cX1_stressSyllable 9 = .ok (.iconst 1, 1) := by decide +kernel
theorem dX1_stressSyllable_10 : decode cX1_stressSyllable 10 = .ok (.isub, 1) := by decide +kernel
theorem dX1_stressSyllable_11 : decode cX1_stressSyllable 11 = .ok (.invokestatic 84, 3) := by decide +kernel
theorem dX1_stressSyllable_14 : decode cX1_stressSyllable 14 = .ok (.ifCond .eq 13, 3) := by decide +kernel
theorem dX1_stressSyllable_17 : decode cX1_stressSyllable 17 = .ok (.aload_n 0, 1) := by decide +kernel
theorem dX1_stressSyllable_18 : decode cX1_stressSyllable 18 = .ok (.getfield 14, 3) := by decide +kernel
theorem dX1_stressSyllable_21 : decode cX1_stressSyllable 21 = .ok (.getfield 88, 3) := by decide +kernel
theorem dX1_stressSyllable_24 : decode cX1_stressSyllable 24 = .ok (.iload_n 1, 1) := by decide +kernel
theorem dX1_stressSyllable_25 : decode cX1_stressSyllable 25 = .ok (.iload_n 2, 1) := by decide +kernel
theorem dX1_stressSyllable_26 : decode cX1_stressSyllable 26 = .ok (.iastore, 1) := by decide +kernel
theorem dX1_stressSyllable_27 : decode cX1_stressSyllable 27 = .ok (.return_, 1) := by decide +kernel
theorem dX1_costOf_0 : decode cX1_costOf 0 = .ok (.iconst 0, 1) := by decide +kernel
theorem dX1_costOf_1 : decode cX1_costOf 1 = .ok (.istore_n 2, 1) := by decide +kernel
theorem dX1_costOf_2 : decode cX1_costOf 2 = .ok (.iconst 0, 1) := by decide +kernel
theorem dX1_costOf_3 : decode cX1_costOf 3 = .ok (.istore_n 3, 1) := by decide +kernel
theorem dX1_costOf_4 : decode cX1_costOf 4 = .ok (.iconst 0, 1) := by decide +kernel
theorem dX1_costOf_5 : decode cX1_costOf 5 = .ok (.istore 4, 2) := by decide +kernel
theorem dX1_costOf_7 : decode cX1_costOf 7 = .ok (.iconst 0, 1) := by decide +kernel
theorem dX1_costOf_8 : decode cX1_costOf 8 = .ok (.istore 5, 2) := by decide +kernel
theorem dX1_costOf_10 : decode cX1_costOf 10 = .ok (.iload 5, 2) := by decide +kernel
theorem dX1_costOf_12 : decode cX1_costOf 12 = .ok (.aload_n 1, 1) := by decide +kernel
theorem dX1_costOf_13 : decode cX1_costOf 13 = .ok (.getfield 91, 3) := by decide +kernel
theorem dX1_costOf_16 : decode cX1_costOf 16 = .ok (.if_icmp .ge 62, 3) := by decide +kernel
theorem dX1_costOf_19 : decode cX1_costOf 19 = .ok (.aload_n 1, 1) := by decide +kernel
theorem dX1_costOf_20 : decode cX1_costOf 20 = .ok (.iload 5, 2) := by decide +kernel
theorem dX1_costOf_22 : decode cX1_costOf 22 = .ok (.invokevirtual 94, 3) := by decide +kernel
theorem dX1_costOf_25 : decode cX1_costOf 25 = .ok (.istore 6, 2) := by decide +kernel
theorem dX1_costOf_27 : decode cX1_costOf 27 = .ok (.aload_n 0, 1) := by decide +kernel
theorem dX1_costOf_28 : decode cX1_costOf 28 = .ok (.iload 6, 2) := by decide +kernel
theorem dX1_costOf_30 : decode cX1_costOf 30 = .ok (.iload_n 2, 1) := by decide +kernel
theorem dX1_costOf_31 : decode cX1_costOf 31 = .ok (.iload_n 3, 1) := by decide +kernel
theorem dX1_costOf_32 : decode cX1_costOf 32 = .ok (.invokevirtual 98, 3) := by decide +kernel
theorem dX1_costOf_35 : decode cX1_costOf 35 = .ok (.ifCond .ne 6, 3) := by decide +kernel
theorem dX1_costOf_38 : decode cX1_costOf 38 = .ok (.bipush (-5), 2) := by decide +kernel
theorem dX1_costOf_40 : decode cX1_costOf 40 = .ok (.ireturn, 1) := by decide +kernel
theorem dX1_costOf_41 : decode cX1_costOf 41 = .ok (.iload 4, 2) := by decide +kernel
theorem dX1_costOf_43 : decode cX1_costOf 43 = .ok (.aload_n 0, 1) := by decide +kernel
theorem dX1_costOf_44 : decode cX1_costOf 44 = .ok (.iload 6, 2) := by decide +kernel
theorem dX1_costOf_46 : decode cX1_costOf 46 = .ok (.iload_n 2, 1) := by decide +kernel
theorem dX1_costOf_47 : decode cX1_costOf 47 = .ok (.iload_n 3, 1) := by decide +kernel
theorem dX1_costOf_48 : decode cX1_costOf 48 = .ok (.invokevirtual 101, 3) := by decide +kernel
theorem dX1_costOf_51 : decode cX1_costOf 51 = .ok (.iadd, 1) := by decide +kernel
theorem dX1_costOf_52 : decode cX1_costOf 52 = .ok (.istore 4, 2) := by decide +kernel
theorem dX1_costOf_54 : decode cX1_costOf 54 = .ok (.iload_n 2, 1) := by decide +kernel
theorem dX1_costOf_55 : decode cX1_costOf 55 = .ok (.getstatic 105, 3) := by decide +kernel
theorem dX1_costOf_58 : decode cX1_costOf 58 = .ok (.iload 6, 2) := by decide +kernel
theorem dX1_costOf_60 : decode cX1_costOf 60 = .ok (.iaload, 1) := by decide +kernel
theorem dX1_costOf_61 : decode cX1_costOf 61 = .ok (.iadd, 1) := by decide +kernel
theorem dX1_costOf_62 : decode cX1_costOf 62 = .ok (.istore_n 2, 1) := by decide +kernel
theorem dX1_costOf_63 : decode cX1_costOf 63 = .ok (.iload_n 3, 1) := by decide +kernel
theorem dX1_costOf_64 : decode cX1_costOf 64 = .ok (.getstatic 108, 3) := by decide +kernel
theorem dX1_costOf_67 : decode cX1_costOf 67 = .ok (.iload 6, 2) := by decide +kernel
theorem dX1_costOf_69 : decode cX1_costOf 69 = .ok (.iaload, 1) := by decide +kernel
theorem dX1_costOf_70 : decode cX1_costOf 70 = .ok (.iadd, 1) := by decide +kernel
theorem dX1_costOf_71 : decode cX1_costOf 71 = .ok (.istore_n 3, 1) := by decide +kernel
theorem dX1_costOf_72 : decode cX1_costOf 72 = .ok (.iinc 5 1, 3) := by decide +kernel
theorem dX1_costOf_75 : decode cX1_costOf 75 = .ok (.goto (-65), 3) := by decide +kernel
theorem dX1_costOf_78 : decode cX1_costOf 78 = .ok (.aload_n 0, 1) := by decide +kernel
theorem dX1_costOf_79 : decode cX1_costOf 79 = .ok (.iload_n 2, 1) := by decide +kernel
theorem dX1_costOf_80 : decode cX1_costOf 80 = .ok (.iload_n 3, 1) := by decide +kernel
theorem dX1_costOf_81 : decode cX1_costOf 81 = .ok (.invokevirtual 111, 3) := by decide +kernel
theorem dX1_costOf_84 : decode cX1_costOf 84 = .ok (.ifCond .eq 8, 3) := by decide +kernel
theorem dX1_costOf_87 : decode cX1_costOf 87 = .ok (.iload 4, 2) := by decide +kernel
theorem dX1_costOf_89 : decode cX1_costOf 89 = .ok (.goto 5, 3) := by decide +kernel
theorem dX1_costOf_92 : decode cX1_costOf 92 = .ok (.bipush (-5), 2) := by decide +kernel
theorem dX1_costOf_94 : decode cX1_costOf 94 = .ok (.ireturn, 1) := by decide +kernel
theorem dX1_leastCost_0 : decode cX1_leastCost 0 = .ok (.aload_n 0, 1) := by decide +kernel
theorem dX1_leastCost_1 : decode cX1_leastCost 1 = .ok (.invokevirtual 115, 3) := by decide +kernel
theorem dX1_leastCost_4 : decode cX1_leastCost 4 = .ok (.ifCond .ne 6, 3) := by decide +kernel
theorem dX1_leastCost_7 : decode cX1_leastCost 7 = .ok (.bipush (-6), 2) := by decide +kernel
theorem dX1_leastCost_9 : decode cX1_leastCost 9 = .ok (.ireturn, 1) := by decide +kernel
theorem dX1_leastCost_10 : decode cX1_leastCost 10 = .ok (.aload_n 0, 1) := by decide +kernel
theorem dX1_leastCost_11 : decode cX1_leastCost 11 = .ok (.invokevirtual 119, 3) := by decide +kernel
theorem dX1_leastCost_14 : decode cX1_leastCost 14 = .ok (.aload_n 0, 1) := by decide +kernel
theorem dX1_leastCost_15 : decode cX1_leastCost 15 = .ok (.getfield 29, 3) := by decide +kernel
theorem dX1_leastCost_18 : decode cX1_leastCost 18 = .ok (.iconst 0, 1) := by decide +kernel
theorem dX1_leastCost_19 : decode cX1_leastCost 19 = .ok (.aaload, 1) := by decide +kernel
theorem dX1_leastCost_20 : decode cX1_leastCost 20 = .ok (.iconst 0, 1) := by decide +kernel
theorem dX1_leastCost_21 : decode cX1_leastCost 21 = .ok (.iaload, 1) := by decide +kernel
theorem dX1_leastCost_22 : decode cX1_leastCost 22 = .ok (.ireturn, 1) := by decide +kernel
theorem dX1_greatestCost_0 : decode cX1_greatestCost 0 = .ok (.aload_n 0, 1) := by decide +kernel
theorem dX1_greatestCost_1 : decode cX1_greatestCost 1 = .ok (.aload_n 0, 1) := by decide +kernel
theorem dX1_greatestCost_2 : decode cX1_greatestCost 2 = .ok (.getfield 32, 3) := by decide +kernel
theorem dX1_greatestCost_5 : decode cX1_greatestCost 5 = .ok (.bipush (-6), 2) := by decide +kernel
theorem dX1_greatestCost_7 : decode cX1_greatestCost 7 = .ok (.invokevirtual 122, 3) := by decide +kernel
theorem dX1_greatestCost_10 : decode cX1_greatestCost 10 = .ok (.ireturn, 1) := by decide +kernel
theorem dX1_howManyLayings_0 : decode cX1_howManyLayings 0 = .ok (.aload_n 0, 1) := by decide +kernel
theorem dX1_howManyLayings_1 : decode cX1_howManyLayings 1 = .ok (.aload_n 0, 1) := by decide +kernel
theorem dX1_howManyLayings_2 : decode cX1_howManyLayings 2 = .ok (.getfield 35, 3) := by decide +kernel
theorem dX1_howManyLayings_5 : decode cX1_howManyLayings 5 = .ok (.iconst 0, 1) := by decide +kernel
theorem dX1_howManyLayings_6 : decode cX1_howManyLayings 6 = .ok (.invokevirtual 122, 3) := by decide +kernel
theorem dX1_howManyLayings_9 : decode cX1_howManyLayings 9 = .ok (.ireturn, 1) := by decide +kernel
theorem dX1_howManyLeast_0 : decode cX1_howManyLeast 0 = .ok (.aload_n 0, 1) := by decide +kernel
theorem dX1_howManyLeast_1 : decode cX1_howManyLeast 1 = .ok (.aload_n 0, 1) := by decide +kernel
theorem dX1_howManyLeast_2 : decode cX1_howManyLeast 2 = .ok (.getfield 38, 3) := by decide +kernel
theorem dX1_howManyLeast_5 : decode cX1_howManyLeast 5 = .ok (.iconst 0, 1) := by decide +kernel
theorem dX1_howManyLeast_6 : decode cX1_howManyLeast 6 = .ok (.invokevirtual 122, 3) := by decide +kernel
theorem dX1_howManyLeast_9 : decode cX1_howManyLeast 9 = .ok (.ireturn, 1) := by decide +kernel
theorem dX1_tallied_0 : decode cX1_tallied 0 = .ok (.aload_n 0, 1) := by decide +kernel
theorem dX1_tallied_1 : decode cX1_tallied 1 = .ok (.invokevirtual 115, 3) := by decide +kernel
theorem dX1_tallied_4 : decode cX1_tallied 4 = .ok (.ifCond .ne 5, 3) := by decide +kernel
theorem dX1_tallied_7 : decode cX1_tallied 7 = .ok (.iload_n 2, 1) := by decide +kernel
theorem dX1_tallied_8 : decode cX1_tallied 8 = .ok (.ireturn, 1) := by decide +kernel
theorem dX1_tallied_9 : decode cX1_tallied 9 = .ok (.aload_n 0, 1) := by decide +kernel
theorem dX1_tallied_10 : decode cX1_tallied 10 = .ok (.invokevirtual 119, 3) := by decide +kernel
theorem dX1_tallied_13 : decode cX1_tallied 13 = .ok (.aload_n 0, 1) := by decide +kernel
theorem dX1_tallied_14 : decode cX1_tallied 14 = .ok (.invokevirtual 126, 3) := by decide +kernel
theorem dX1_tallied_17 : decode cX1_tallied 17 = .ok (.aload_n 1, 1) := by decide +kernel
theorem dX1_tallied_18 : decode cX1_tallied 18 = .ok (.iconst 0, 1) := by decide +kernel
theorem dX1_tallied_19 : decode cX1_tallied 19 = .ok (.aaload, 1) := by decide +kernel
theorem dX1_tallied_20 : decode cX1_tallied 20 = .ok (.iconst 0, 1) := by decide +kernel
theorem dX1_tallied_21 : decode cX1_tallied 21 = .ok (.iaload, 1) := by decide +kernel
theorem dX1_tallied_22 : decode cX1_tallied 22 = .ok (.ireturn, 1) := by decide +kernel
theorem dX1_leastStep_0 : decode cX1_leastStep 0 = .ok (.aload_n 0, 1) := by decide +kernel
theorem dX1_leastStep_1 : decode cX1_leastStep 1 = .ok (.invokevirtual 115, 3) := by decide +kernel
theorem dX1_leastStep_4 : decode cX1_leastStep 4 = .ok (.ifCond .ne 6, 3) := by decide +kernel
theorem dX1_leastStep_7 : decode cX1_leastStep 7 = .ok (.bipush (-6), 2) := by decide +kernel
theorem dX1_leastStep_9 : decode cX1_leastStep 9 = .ok (.ireturn, 1) := by decide +kernel
theorem dX1_leastStep_10 : decode cX1_leastStep 10 = .ok (.aload_n 0, 1) := by decide +kernel
theorem dX1_leastStep_11 : decode cX1_leastStep 11 = .ok (.invokevirtual 119, 3) := by decide +kernel
theorem dX1_leastStep_14 : decode cX1_leastStep 14 = .ok (.aload_n 0, 1) := by decide +kernel
theorem dX1_leastStep_15 : decode cX1_leastStep 15 = .ok (.invokevirtual 129, 3) := by decide +kernel
theorem dX1_leastStep_18 : decode cX1_leastStep 18 = .ok (.iload_n 1, 1) := by decide +kernel
theorem dX1_leastStep_19 : decode cX1_leastStep 19 = .ok (.iconst 0, 1) := by decide +kernel
theorem dX1_leastStep_20 : decode cX1_leastStep 20 = .ok (.aload_n 0, 1) := by decide +kernel
theorem dX1_leastStep_21 : decode cX1_leastStep 21 = .ok (.getfield 44, 3) := by decide +kernel
theorem dX1_leastStep_24 : decode cX1_leastStep 24 = .ok (.iconst 1, 1) := by decide +kernel
theorem dX1_leastStep_25 : decode cX1_leastStep 25 = .ok (.isub, 1) := by decide +kernel
theorem dX1_leastStep_26 : decode cX1_leastStep 26 = .ok (.invokestatic 84, 3) := by decide +kernel
theorem dX1_leastStep_29 : decode cX1_leastStep 29 = .ok (.ifCond .eq 12, 3) := by decide +kernel
theorem dX1_leastStep_32 : decode cX1_leastStep 32 = .ok (.aload_n 0, 1) := by decide +kernel
theorem dX1_leastStep_33 : decode cX1_leastStep 33 = .ok (.getfield 41, 3) := by decide +kernel
theorem dX1_leastStep_36 : decode cX1_leastStep 36 = .ok (.iload_n 1, 1) := by decide +kernel
theorem dX1_leastStep_37 : decode cX1_leastStep 37 = .ok (.iaload, 1) := by decide +kernel
theorem dX1_leastStep_38 : decode cX1_leastStep 38 = .ok (.goto 5, 3) := by decide +kernel
theorem dX1_leastStep_41 : decode cX1_leastStep 41 = .ok (.bipush (-6), 2) := by decide +kernel
theorem dX1_leastStep_43 : decode cX1_leastStep 43 = .ok (.ireturn, 1) := by decide +kernel
theorem dX1_firstSungOn_0 : decode cX1_firstSungOn 0 = .ok (.aload_n 0, 1) := by decide +kernel
theorem dX1_firstSungOn_1 : decode cX1_firstSungOn 1 = .ok (.aload_n 0, 1) := by decide +kernel
theorem dX1_firstSungOn_2 : decode cX1_firstSungOn 2 = .ok (.getfield 48, 3) := by decide +kernel
theorem dX1_firstSungOn_5 : decode cX1_firstSungOn 5 = .ok (.iload_n 1, 1) := by decide +kernel
theorem dX1_firstSungOn_6 : decode cX1_firstSungOn 6 = .ok (.invokevirtual 132, 3) := by decide +kernel
theorem dX1_firstSungOn_9 : decode cX1_firstSungOn 9 = .ok (.ireturn, 1) := by decide +kernel
theorem dX1_howManySungOn_0 : decode cX1_howManySungOn 0 = .ok (.aload_n 0, 1) := by decide +kernel
theorem dX1_howManySungOn_1 : decode cX1_howManySungOn 1 = .ok (.aload_n 0, 1) := by decide +kernel
theorem dX1_howManySungOn_2 : decode cX1_howManySungOn 2 = .ok (.getfield 51, 3) := by decide +kernel
theorem dX1_howManySungOn_5 : decode cX1_howManySungOn 5 = .ok (.iload_n 1, 1) := by decide +kernel
theorem dX1_howManySungOn_6 : decode cX1_howManySungOn 6 = .ok (.invokevirtual 132, 3) := by decide +kernel
theorem dX1_howManySungOn_9 : decode cX1_howManySungOn 9 = .ok (.ireturn, 1) := by decide +kernel
theorem dX1_traced_0 : decode cX1_traced 0 = .ok (.aload_n 0, 1) := by decide +kernel
theorem dX1_traced_1 : decode cX1_traced 1 = .ok (.invokevirtual 115, 3) := by decide +kernel
theorem dX1_traced_4 : decode cX1_traced 4 = .ok (.ifCond .eq 20, 3) := by decide +kernel
theorem dX1_traced_7 : decode cX1_traced 7 = .ok (.iload_n 2, 1) := by decide +kernel
theorem dX1_traced_8 : decode cX1_traced 8 = .ok (.iconst 0, 1) := by decide +kernel
theorem dX1_traced_9 : decode cX1_traced 9 = .ok (.aload_n 0, 1) := by decide +kernel
theorem dX1_traced_10 : decode cX1_traced 10 = .ok (.getfield 20, 3) := by decide +kernel
theorem dX1_traced_13 : decode cX1_traced 13 = .ok (.getfield 77, 3) := by decide +kernel
theorem dX1_traced_16 : decode cX1_traced 16 = .ok (.iconst 1, 1) := by decide +kernel
theorem dX1_traced_17 : decode cX1_traced 17 = .ok (.isub, 1) := by decide +kernel
theorem dX1_traced_18 : decode cX1_traced 18 = .ok (.invokestatic 84, 3) := by decide +kernel
theorem dX1_traced_21 : decode cX1_traced 21 = .ok (.ifCond .ne 6, 3) := by decide +kernel
theorem dX1_traced_24 : decode cX1_traced 24 = .ok (.bipush (-6), 2) := by decide +kernel
theorem dX1_traced_26 : decode cX1_traced 26 = .ok (.ireturn, 1) := by decide +kernel
theorem dX1_traced_27 : decode cX1_traced 27 = .ok (.aload_n 0, 1) := by decide +kernel
theorem dX1_traced_28 : decode cX1_traced 28 = .ok (.invokevirtual 119, 3) := by decide +kernel
theorem dX1_traced_31 : decode cX1_traced 31 = .ok (.aload_n 0, 1) := by decide +kernel
theorem dX1_traced_32 : decode cX1_traced 32 = .ok (.invokevirtual 129, 3) := by decide +kernel
theorem dX1_traced_35 : decode cX1_traced 35 = .ok (.aload_n 1, 1) := by decide +kernel
theorem dX1_traced_36 : decode cX1_traced 36 = .ok (.iload_n 2, 1) := by decide +kernel
theorem dX1_traced_37 : decode cX1_traced 37 = .ok (.iaload, 1) := by decide +kernel
theorem dX1_traced_38 : decode cX1_traced 38 = .ok (.ireturn, 1) := by decide +kernel
theorem dX1_hasLaying_0 : decode cX1_hasLaying 0 = .ok (.aload_n 0, 1) := by decide +kernel
theorem dX1_hasLaying_1 : decode cX1_hasLaying 1 = .ok (.getfield 14, 3) := by decide +kernel
theorem dX1_hasLaying_4 : decode cX1_hasLaying 4 = .ok (.getfield 77, 3) := by decide +kernel
theorem dX1_hasLaying_7 : decode cX1_hasLaying 7 = .ok (.ifCond .ne 7, 3) := by decide +kernel
theorem dX1_hasLaying_10 : decode cX1_hasLaying 10 = .ok (.iconst 1, 1) := by decide +kernel
theorem dX1_hasLaying_11 : decode cX1_hasLaying 11 = .ok (.goto 4, 3) := by decide +kernel
theorem dX1_hasLaying_14 : decode cX1_hasLaying 14 = .ok (.iconst 0, 1) := by decide +kernel
theorem dX1_hasLaying_15 : decode cX1_hasLaying 15 = .ok (.aload_n 0, 1) := by decide +kernel
theorem dX1_hasLaying_16 : decode cX1_hasLaying 16 = .ok (.getfield 20, 3) := by decide +kernel
theorem dX1_hasLaying_19 : decode cX1_hasLaying 19 = .ok (.getfield 77, 3) := by decide +kernel
theorem dX1_hasLaying_22 : decode cX1_hasLaying 22 = .ok (.ifCond .ne 7, 3) := by decide +kernel
theorem dX1_hasLaying_25 : decode cX1_hasLaying 25 = .ok (.iconst 1, 1) := by decide +kernel
theorem dX1_hasLaying_26 : decode cX1_hasLaying 26 = .ok (.goto 4, 3) := by decide +kernel
theorem dX1_hasLaying_29 : decode cX1_hasLaying 29 = .ok (.iconst 0, 1) := by decide +kernel
theorem dX1_hasLaying_30 : decode cX1_hasLaying 30 = .ok (.if_icmp .ne 7, 3) := by decide +kernel
theorem dX1_hasLaying_33 : decode cX1_hasLaying 33 = .ok (.iconst 1, 1) := by decide +kernel
theorem dX1_hasLaying_34 : decode cX1_hasLaying 34 = .ok (.goto 4, 3) := by decide +kernel
theorem dX1_hasLaying_37 : decode cX1_hasLaying 37 = .ok (.iconst 0, 1) := by decide +kernel
theorem dX1_hasLaying_38 : decode cX1_hasLaying 38 = .ok (.ireturn, 1) := by decide +kernel
theorem dX1_isEnd_0 : decode cX1_isEnd 0 = .ok (.iload_n 1, 1) := by decide +kernel
theorem dX1_isEnd_1 : decode cX1_isEnd 1 = .ok (.aload_n 0, 1) := by decide +kernel
theorem dX1_isEnd_2 : decode cX1_isEnd 2 = .ok (.getfield 14, 3) := by decide +kernel
theorem dX1_isEnd_5 : decode cX1_isEnd 5 = .ok (.getfield 77, 3) := by decide +kernel
theorem dX1_isEnd_8 : decode cX1_isEnd 8 = .ok (.if_icmp .ne 18, 3) := by decide +kernel
theorem dX1_isEnd_11 : decode cX1_isEnd 11 = .ok (.iload_n 2, 1) := by decide +kernel
theorem dX1_isEnd_12 : decode cX1_isEnd 12 = .ok (.aload_n 0, 1) := by decide +kernel
theorem dX1_isEnd_13 : decode cX1_isEnd 13 = .ok (.getfield 20, 3) := by decide +kernel
theorem dX1_isEnd_16 : decode cX1_isEnd 16 = .ok (.getfield 77, 3) := by decide +kernel
theorem dX1_isEnd_19 : decode cX1_isEnd 19 = .ok (.if_icmp .ne 7, 3) := by decide +kernel
theorem dX1_isEnd_22 : decode cX1_isEnd 22 = .ok (.iconst 1, 1) := by decide +kernel
theorem dX1_isEnd_23 : decode cX1_isEnd 23 = .ok (.goto 4, 3) := by decide +kernel
theorem dX1_isEnd_26 : decode cX1_isEnd 26 = .ok (.iconst 0, 1) := by decide +kernel
theorem dX1_isEnd_27 : decode cX1_isEnd 27 = .ok (.ireturn, 1) := by decide +kernel
theorem dX1_canStep_0 : decode cX1_canStep 0 = .ok (.iload_n 1, 1) := by decide +kernel
theorem dX1_canStep_1 : decode cX1_canStep 1 = .ok (.tableswitch 97 0 2 #[27, 55, 76], 27) := by decide +kernel
theorem dX1_canStep_28 : decode cX1_canStep 28 = .ok (.iload_n 2, 1) := by decide +kernel
theorem dX1_canStep_29 : decode cX1_canStep 29 = .ok (.aload_n 0, 1) := by decide +kernel
theorem dX1_canStep_30 : decode cX1_canStep 30 = .ok (.getfield 14, 3) := by decide +kernel
theorem dX1_canStep_33 : decode cX1_canStep 33 = .ok (.getfield 77, 3) := by decide +kernel
theorem dX1_canStep_36 : decode cX1_canStep 36 = .ok (.if_icmp .ge 18, 3) := by decide +kernel
theorem dX1_canStep_39 : decode cX1_canStep 39 = .ok (.iload_n 3, 1) := by decide +kernel
theorem dX1_canStep_40 : decode cX1_canStep 40 = .ok (.aload_n 0, 1) := by decide +kernel
theorem dX1_canStep_41 : decode cX1_canStep 41 = .ok (.getfield 20, 3) := by decide +kernel
theorem dX1_canStep_44 : decode cX1_canStep 44 = .ok (.getfield 77, 3) := by decide +kernel
theorem dX1_canStep_47 : decode cX1_canStep 47 = .ok (.if_icmp .ge 7, 3) := by decide +kernel
theorem dX1_canStep_50 : decode cX1_canStep 50 = .ok (.iconst 1, 1) := by decide +kernel
theorem dX1_canStep_51 : decode cX1_canStep 51 = .ok (.goto 4, 3) := by decide +kernel
theorem dX1_canStep_54 : decode cX1_canStep 54 = .ok (.iconst 0, 1) := by decide +kernel
theorem dX1_canStep_55 : decode cX1_canStep 55 = .ok (.ireturn, 1) := by decide +kernel
theorem dX1_canStep_56 : decode cX1_canStep 56 = .ok (.iload_n 2, 1) := by decide +kernel
theorem dX1_canStep_57 : decode cX1_canStep 57 = .ok (.ifCond .le 18, 3) := by decide +kernel
theorem dX1_canStep_60 : decode cX1_canStep 60 = .ok (.iload_n 3, 1) := by decide +kernel
theorem dX1_canStep_61 : decode cX1_canStep 61 = .ok (.aload_n 0, 1) := by decide +kernel
theorem dX1_canStep_62 : decode cX1_canStep 62 = .ok (.getfield 20, 3) := by decide +kernel
theorem dX1_canStep_65 : decode cX1_canStep 65 = .ok (.getfield 77, 3) := by decide +kernel
theorem dX1_canStep_68 : decode cX1_canStep 68 = .ok (.if_icmp .ge 7, 3) := by decide +kernel
theorem dX1_canStep_71 : decode cX1_canStep 71 = .ok (.iconst 1, 1) := by decide +kernel
theorem dX1_canStep_72 : decode cX1_canStep 72 = .ok (.goto 4, 3) := by decide +kernel
theorem dX1_canStep_75 : decode cX1_canStep 75 = .ok (.iconst 0, 1) := by decide +kernel
theorem dX1_canStep_76 : decode cX1_canStep 76 = .ok (.ireturn, 1) := by decide +kernel
theorem dX1_canStep_77 : decode cX1_canStep 77 = .ok (.iload_n 2, 1) := by decide +kernel
theorem dX1_canStep_78 : decode cX1_canStep 78 = .ok (.aload_n 0, 1) := by decide +kernel
theorem dX1_canStep_79 : decode cX1_canStep 79 = .ok (.getfield 14, 3) := by decide +kernel
theorem dX1_canStep_82 : decode cX1_canStep 82 = .ok (.getfield 77, 3) := by decide +kernel
theorem dX1_canStep_85 : decode cX1_canStep 85 = .ok (.if_icmp .ge 11, 3) := by decide +kernel
theorem dX1_canStep_88 : decode cX1_canStep 88 = .ok (.iload_n 3, 1) := by decide +kernel
theorem dX1_canStep_89 : decode cX1_canStep 89 = .ok (.ifCond .le 7, 3) := by decide +kernel
theorem dX1_canStep_92 : decode cX1_canStep 92 = .ok (.iconst 1, 1) := by decide +kernel
theorem dX1_canStep_93 : decode cX1_canStep 93 = .ok (.goto 4, 3) := by decide +kernel
theorem dX1_canStep_96 : decode cX1_canStep 96 = .ok (.iconst 0, 1) := by decide +kernel
theorem dX1_canStep_97 : decode cX1_canStep 97 = .ok (.ireturn, 1) := by decide +kernel
theorem dX1_canStep_98 : decode cX1_canStep 98 = .ok (.iconst 0, 1) := by decide +kernel
theorem dX1_canStep_99 : decode cX1_canStep 99 = .ok (.ireturn, 1) := by decide +kernel
theorem dX1_stepCost_0 : decode cX1_stepCost 0 = .ok (.iload_n 1, 1) := by decide +kernel
theorem dX1_stepCost_1 : decode cX1_stepCost 1 = .ok (.iconst 1, 1) := by decide +kernel
theorem dX1_stepCost_2 : decode cX1_stepCost 2 = .ok (.if_icmp .ne 10, 3) := by decide +kernel
theorem dX1_stepCost_5 : decode cX1_stepCost 5 = .ok (.aload_n 0, 1) := by decide +kernel
theorem dX1_stepCost_6 : decode cX1_stepCost 6 = .ok (.getfield 23, 3) := by decide +kernel
theorem dX1_stepCost_9 : decode cX1_stepCost 9 = .ok (.iconst 1, 1) := by decide +kernel
theorem dX1_stepCost_10 : decode cX1_stepCost 10 = .ok (.iaload, 1) := by decide +kernel
theorem dX1_stepCost_11 : decode cX1_stepCost 11 = .ok (.ireturn, 1) := by decide +kernel
theorem dX1_stepCost_12 : decode cX1_stepCost 12 = .ok (.iload_n 1, 1) := by decide +kernel
theorem dX1_stepCost_13 : decode cX1_stepCost 13 = .ok (.ifCond .ne 7, 3) := by decide +kernel
theorem dX1_stepCost_16 : decode cX1_stepCost 16 = .ok (.iload_n 3, 1) := by decide +kernel
theorem dX1_stepCost_17 : decode cX1_stepCost 17 = .ok (.goto 6, 3) := by decide +kernel
theorem dX1_stepCost_20 : decode cX1_stepCost 20 = .ok (.iload_n 3, 1) := by decide +kernel
theorem dX1_stepCost_21 : decode cX1_stepCost 21 = .ok (.iconst 1, 1) := by decide +kernel
theorem dX1_stepCost_22 : decode cX1_stepCost 22 = .ok (.isub, 1) := by decide +kernel
theorem dX1_stepCost_23 : decode cX1_stepCost 23 = .ok (.istore 4, 2) := by decide +kernel
theorem dX1_stepCost_25 : decode cX1_stepCost 25 = .ok (.aload_n 0, 1) := by decide +kernel
theorem dX1_stepCost_26 : decode cX1_stepCost 26 = .ok (.getfield 23, 3) := by decide +kernel
theorem dX1_stepCost_29 : decode cX1_stepCost 29 = .ok (.iconst 0, 1) := by decide +kernel
theorem dX1_stepCost_30 : decode cX1_stepCost 30 = .ok (.iaload, 1) := by decide +kernel
theorem dX1_stepCost_31 : decode cX1_stepCost 31 = .ok (.aload_n 0, 1) := by decide +kernel
theorem dX1_stepCost_32 : decode cX1_stepCost 32 = .ok (.getfield 14, 3) := by decide +kernel
theorem dX1_stepCost_35 : decode cX1_stepCost 35 = .ok (.getfield 88, 3) := by decide +kernel
theorem dX1_stepCost_38 : decode cX1_stepCost 38 = .ok (.iload_n 2, 1) := by decide +kernel
theorem dX1_stepCost_39 : decode cX1_stepCost 39 = .ok (.iaload, 1) := by decide +kernel
theorem dX1_stepCost_40 : decode cX1_stepCost 40 = .ok (.aload_n 0, 1) := by decide +kernel
theorem dX1_stepCost_41 : decode cX1_stepCost 41 = .ok (.getfield 20, 3) := by decide +kernel
theorem dX1_stepCost_44 : decode cX1_stepCost 44 = .ok (.getfield 88, 3) := by decide +kernel
theorem dX1_stepCost_47 : decode cX1_stepCost 47 = .ok (.iload 4, 2) := by decide +kernel
theorem dX1_stepCost_49 : decode cX1_stepCost 49 = .ok (.iaload, 1) := by decide +kernel
theorem dX1_stepCost_50 : decode cX1_stepCost 50 = .ok (.isub, 1) := by decide +kernel
theorem dX1_stepCost_51 : decode cX1_stepCost 51 = .ok (.invokestatic 136, 3) := by decide +kernel
theorem dX1_stepCost_54 : decode cX1_stepCost 54 = .ok (.imul, 1) := by decide +kernel
theorem dX1_stepCost_55 : decode cX1_stepCost 55 = .ok (.istore 5, 2) := by decide +kernel
theorem dX1_stepCost_57 : decode cX1_stepCost 57 = .ok (.iload_n 1, 1) := by decide +kernel
theorem dX1_stepCost_58 : decode cX1_stepCost 58 = .ok (.iconst 2, 1) := by decide +kernel
theorem dX1_stepCost_59 : decode cX1_stepCost 59 = .ok (.if_icmp .ne 13, 3) := by decide +kernel
theorem dX1_stepCost_62 : decode cX1_stepCost 62 = .ok (.aload_n 0, 1) := by decide +kernel
theorem dX1_stepCost_63 : decode cX1_stepCost 63 = .ok (.getfield 23, 3) := by decide +kernel
theorem dX1_stepCost_66 : decode cX1_stepCost 66 = .ok (.iconst 2, 1) := by decide +kernel
theorem dX1_stepCost_67 : decode cX1_stepCost 67 = .ok (.iaload, 1) := by decide +kernel
theorem dX1_stepCost_68 : decode cX1_stepCost 68 = .ok (.iload 5, 2) := by decide +kernel
theorem dX1_stepCost_70 : decode cX1_stepCost 70 = .ok (.iadd, 1) := by decide +kernel
theorem dX1_stepCost_71 : decode cX1_stepCost 71 = .ok (.ireturn, 1) := by decide +kernel
theorem dX1_stepCost_72 : decode cX1_stepCost 72 = .ok (.aload_n 0, 1) := by decide +kernel
theorem dX1_stepCost_73 : decode cX1_stepCost 73 = .ok (.getfield 14, 3) := by decide +kernel
theorem dX1_stepCost_76 : decode cX1_stepCost 76 = .ok (.getfield 141, 3) := by decide +kernel
theorem dX1_stepCost_79 : decode cX1_stepCost 79 = .ok (.iload_n 2, 1) := by decide +kernel
theorem dX1_stepCost_80 : decode cX1_stepCost 80 = .ok (.iaload, 1) := by decide +kernel
theorem dX1_stepCost_81 : decode cX1_stepCost 81 = .ok (.iconst 1, 1) := by decide +kernel
theorem dX1_stepCost_82 : decode cX1_stepCost 82 = .ok (.if_icmp .ne 21, 3) := by decide +kernel
theorem dX1_stepCost_85 : decode cX1_stepCost 85 = .ok (.aload_n 0, 1) := by decide +kernel
theorem dX1_stepCost_86 : decode cX1_stepCost 86 = .ok (.getfield 20, 3) := by decide +kernel
theorem dX1_stepCost_89 : decode cX1_stepCost 89 = .ok (.getfield 141, 3) := by decide +kernel
theorem dX1_stepCost_92 : decode cX1_stepCost 92 = .ok (.iload 4, 2) := by decide +kernel
theorem dX1_stepCost_94 : decode cX1_stepCost 94 = .ok (.iaload, 1) := by decide +kernel
theorem dX1_stepCost_95 : decode cX1_stepCost 95 = .ok (.iconst 1, 1) := by decide +kernel
theorem dX1_stepCost_96 : decode cX1_stepCost 96 = .ok (.if_icmp .ne 7, 3) := by decide +kernel
theorem dX1_stepCost_99 : decode cX1_stepCost 99 = .ok (.iconst 1, 1) := by decide +kernel
theorem dX1_stepCost_100 : decode cX1_stepCost 100 = .ok (.goto 4, 3) := by decide +kernel
theorem dX1_stepCost_103 : decode cX1_stepCost 103 = .ok (.iconst 0, 1) := by decide +kernel
theorem dX1_stepCost_104 : decode cX1_stepCost 104 = .ok (.istore 6, 2) := by decide +kernel
theorem dX1_stepCost_106 : decode cX1_stepCost 106 = .ok (.iload 6, 2) := by decide +kernel
theorem dX1_stepCost_108 : decode cX1_stepCost 108 = .ok (.ifCond .eq 15, 3) := by decide +kernel
theorem dX1_stepCost_111 : decode cX1_stepCost 111 = .ok (.aload_n 0, 1) := by decide +kernel
theorem dX1_stepCost_112 : decode cX1_stepCost 112 = .ok (.getfield 23, 3) := by decide +kernel
theorem dX1_stepCost_115 : decode cX1_stepCost 115 = .ok (.iconst 3, 1) := by decide +kernel
theorem dX1_stepCost_116 : decode cX1_stepCost 116 = .ok (.iaload, 1) := by decide +kernel
theorem dX1_stepCost_117 : decode cX1_stepCost 117 = .ok (.iload 5, 2) := by decide +kernel
theorem dX1_stepCost_119 : decode cX1_stepCost 119 = .ok (.iadd, 1) := by decide +kernel
theorem dX1_stepCost_120 : decode cX1_stepCost 120 = .ok (.goto 5, 3) := by decide +kernel
theorem dX1_stepCost_123 : decode cX1_stepCost 123 = .ok (.iload 5, 2) := by decide +kernel
theorem dX1_stepCost_125 : decode cX1_stepCost 125 = .ok (.ireturn, 1) := by decide +kernel
theorem dX1_weigh_0 : decode cX1_weigh 0 = .ok (.aload_n 0, 1) := by decide +kernel
theorem dX1_weigh_1 : decode cX1_weigh 1 = .ok (.getfield 14, 3) := by decide +kernel
theorem dX1_weigh_4 : decode cX1_weigh 4 = .ok (.getfield 77, 3) := by decide +kernel
theorem dX1_weigh_7 : decode cX1_weigh 7 = .ok (.istore_n 1, 1) := by decide +kernel
theorem dX1_weigh_8 : decode cX1_weigh 8 = .ok (.iload_n 1, 1) := by decide +kernel
theorem dX1_weigh_9 : decode cX1_weigh 9 = .ok (.iconst 1, 1) := by decide +kernel
theorem dX1_weigh_10 : decode cX1_weigh 10 = .ok (.if_icmp .lt 42, 3) := by decide +kernel
theorem dX1_weigh_13 : decode cX1_weigh 13 = .ok (.aload_n 0, 1) := by decide +kernel
theorem dX1_weigh_14 : decode cX1_weigh 14 = .ok (.getfield 20, 3) := by decide +kernel
theorem dX1_weigh_17 : decode cX1_weigh 17 = .ok (.getfield 77, 3) := by decide +kernel
theorem dX1_weigh_20 : decode cX1_weigh 20 = .ok (.istore_n 2, 1) := by decide +kernel
theorem dX1_weigh_21 : decode cX1_weigh 21 = .ok (.iload_n 2, 1) := by decide +kernel
theorem dX1_weigh_22 : decode cX1_weigh 22 = .ok (.iconst 1, 1) := by decide +kernel
theorem dX1_weigh_23 : decode cX1_weigh 23 = .ok (.if_icmp .lt 23, 3) := by decide +kernel
theorem dX1_weigh_26 : decode cX1_weigh 26 = .ok (.aload_n 0, 1) := by decide +kernel
theorem dX1_weigh_27 : decode cX1_weigh 27 = .ok (.getfield 29, 3) := by decide +kernel
theorem dX1_weigh_30 : decode cX1_weigh 30 = .ok (.iload_n 1, 1) := by decide +kernel
theorem dX1_weigh_31 : decode cX1_weigh 31 = .ok (.aaload, 1) := by decide +kernel
theorem dX1_weigh_32 : decode cX1_weigh 32 = .ok (.iload_n 2, 1) := by decide +kernel
theorem dX1_weigh_33 : decode cX1_weigh 33 = .ok (.aload_n 0, 1) := by decide +kernel
theorem dX1_weigh_34 : decode cX1_weigh 34 = .ok (.iload_n 1, 1) := by decide +kernel
theorem dX1_weigh_35 : decode cX1_weigh 35 = .ok (.iload_n 2, 1) := by decide +kernel
theorem dX1_weigh_36 : decode cX1_weigh 36 = .ok (.invokevirtual 144, 3) := by decide +kernel
theorem dX1_weigh_39 : decode cX1_weigh 39 = .ok (.iastore, 1) := by decide +kernel
theorem dX1_weigh_40 : decode cX1_weigh 40 = .ok (.iinc 2 (-1), 3) := by decide +kernel
theorem dX1_weigh_43 : decode cX1_weigh 43 = .ok (.goto (-22), 3) := by decide +kernel
theorem dX1_weigh_46 : decode cX1_weigh 46 = .ok (.iinc 1 (-1), 3) := by decide +kernel
theorem dX1_weigh_49 : decode cX1_weigh 49 = .ok (.goto (-41), 3) := by decide +kernel
theorem dX1_weigh_52 : decode cX1_weigh 52 = .ok (.aload_n 0, 1) := by decide +kernel
theorem dX1_weigh_53 : decode cX1_weigh 53 = .ok (.getfield 29, 3) := by decide +kernel
theorem dX1_weigh_56 : decode cX1_weigh 56 = .ok (.iconst 0, 1) := by decide +kernel
theorem dX1_weigh_57 : decode cX1_weigh 57 = .ok (.aaload, 1) := by decide +kernel
theorem dX1_weigh_58 : decode cX1_weigh 58 = .ok (.iconst 0, 1) := by decide +kernel
theorem dX1_weigh_59 : decode cX1_weigh 59 = .ok (.aload_n 0, 1) := by decide +kernel
theorem dX1_weigh_60 : decode cX1_weigh 60 = .ok (.iconst 0, 1) := by decide +kernel
theorem dX1_weigh_61 : decode cX1_weigh 61 = .ok (.iconst 0, 1) := by decide +kernel
theorem dX1_weigh_62 : decode cX1_weigh 62 = .ok (.invokevirtual 144, 3) := by decide +kernel
theorem dX1_weigh_65 : decode cX1_weigh 65 = .ok (.iastore, 1) := by decide +kernel
theorem dX1_weigh_66 : decode cX1_weigh 66 = .ok (.return_, 1) := by decide +kernel
theorem dX1_leastAt_0 : decode cX1_leastAt 0 = .ok (.aload_n 0, 1) := by decide +kernel
theorem dX1_leastAt_1 : decode cX1_leastAt 1 = .ok (.iload_n 1, 1) := by decide +kernel
theorem dX1_leastAt_2 : decode cX1_leastAt 2 = .ok (.iload_n 2, 1) := by decide +kernel
theorem dX1_leastAt_3 : decode cX1_leastAt 3 = .ok (.invokevirtual 111, 3) := by decide +kernel
theorem dX1_leastAt_6 : decode cX1_leastAt 6 = .ok (.ifCond .eq 7, 3) := by decide +kernel
theorem dX1_leastAt_9 : decode cX1_leastAt 9 = .ok (.iconst 0, 1) := by decide +kernel
theorem dX1_leastAt_10 : decode cX1_leastAt 10 = .ok (.goto 5, 3) := by decide +kernel
theorem dX1_leastAt_13 : decode cX1_leastAt 13 = .ok (.bipush (-6), 2) := by decide +kernel
theorem dX1_leastAt_15 : decode cX1_leastAt 15 = .ok (.istore_n 3, 1) := by decide +kernel
theorem dX1_leastAt_16 : decode cX1_leastAt 16 = .ok (.iconst 0, 1) := by decide +kernel
theorem dX1_leastAt_17 : decode cX1_leastAt 17 = .ok (.istore 4, 2) := by decide +kernel
theorem dX1_leastAt_19 : decode cX1_leastAt 19 = .ok (.iload 4, 2) := by decide +kernel
theorem dX1_leastAt_21 : decode cX1_leastAt 21 = .ok (.iconst 3, 1) := by decide +kernel
theorem dX1_leastAt_22 : decode cX1_leastAt 22 = .ok (.if_icmp .ge 73, 3) := by decide +kernel
theorem dX1_leastAt_25 : decode cX1_leastAt 25 = .ok (.aload_n 0, 1) := by decide +kernel
theorem dX1_leastAt_26 : decode cX1_leastAt 26 = .ok (.iload 4, 2) := by decide +kernel
theorem dX1_leastAt_28 : decode cX1_leastAt 28 = .ok (.iload_n 1, 1) := by decide +kernel
theorem dX1_leastAt_29 : decode cX1_leastAt 29 = .ok (.iload_n 2, 1) := by decide +kernel
theorem dX1_leastAt_30 : decode cX1_leastAt 30 = .ok (.invokevirtual 98, 3) := by decide +kernel
theorem dX1_leastAt_33 : decode cX1_leastAt 33 = .ok (.ifCond .eq 56, 3) := by decide +kernel
theorem dX1_leastAt_36 : decode cX1_leastAt 36 = .ok (.aload_n 0, 1) := by decide +kernel
theorem dX1_leastAt_37 : decode cX1_leastAt 37 = .ok (.getfield 29, 3) := by decide +kernel
theorem dX1_leastAt_40 : decode cX1_leastAt 40 = .ok (.iload_n 1, 1) := by decide +kernel
theorem dX1_leastAt_41 : decode cX1_leastAt 41 = .ok (.getstatic 105, 3) := by decide +kernel
theorem dX1_leastAt_44 : decode cX1_leastAt 44 = .ok (.iload 4, 2) := by decide +kernel
theorem dX1_leastAt_46 : decode cX1_leastAt 46 = .ok (.iaload, 1) := by decide +kernel
theorem dX1_leastAt_47 : decode cX1_leastAt 47 = .ok (.iadd, 1) := by decide +kernel
theorem dX1_leastAt_48 : decode cX1_leastAt 48 = .ok (.aaload, 1) := by decide +kernel
theorem dX1_leastAt_49 : decode cX1_leastAt 49 = .ok (.iload_n 2, 1) := by decide +kernel
theorem dX1_leastAt_50 : decode cX1_leastAt 50 = .ok (.getstatic 108, 3) := by decide +kernel
theorem dX1_leastAt_53 : decode cX1_leastAt 53 = .ok (.iload 4, 2) := by decide +kernel
theorem dX1_leastAt_55 : decode cX1_leastAt 55 = .ok (.iaload, 1) := by decide +kernel
theorem dX1_leastAt_56 : decode cX1_leastAt 56 = .ok (.iadd, 1) := by decide +kernel
theorem dX1_leastAt_57 : decode cX1_leastAt 57 = .ok (.iaload, 1) := by decide +kernel
theorem dX1_leastAt_58 : decode cX1_leastAt 58 = .ok (.istore 5, 2) := by decide +kernel
theorem dX1_leastAt_60 : decode cX1_leastAt 60 = .ok (.aload_n 0, 1) := by decide +kernel
theorem dX1_leastAt_61 : decode cX1_leastAt 61 = .ok (.iload 4, 2) := by decide +kernel
theorem dX1_leastAt_63 : decode cX1_leastAt 63 = .ok (.iload_n 1, 1) := by decide +kernel
theorem dX1_leastAt_64 : decode cX1_leastAt 64 = .ok (.iload_n 2, 1) := by decide +kernel
theorem dX1_leastAt_65 : decode cX1_leastAt 65 = .ok (.invokevirtual 101, 3) := by decide +kernel
theorem dX1_leastAt_68 : decode cX1_leastAt 68 = .ok (.iload 5, 2) := by decide +kernel
theorem dX1_leastAt_70 : decode cX1_leastAt 70 = .ok (.iadd, 1) := by decide +kernel
theorem dX1_leastAt_71 : decode cX1_leastAt 71 = .ok (.istore 6, 2) := by decide +kernel
theorem dX1_leastAt_73 : decode cX1_leastAt 73 = .ok (.iload 6, 2) := by decide +kernel
theorem dX1_leastAt_75 : decode cX1_leastAt 75 = .ok (.iload_n 3, 1) := by decide +kernel
theorem dX1_leastAt_76 : decode cX1_leastAt 76 = .ok (.invokestatic 148, 3) := by decide +kernel
theorem dX1_leastAt_79 : decode cX1_leastAt 79 = .ok (.ifCond .eq 8, 3) := by decide +kernel
theorem dX1_leastAt_82 : decode cX1_leastAt 82 = .ok (.iload 6, 2) := by decide +kernel
theorem dX1_leastAt_84 : decode cX1_leastAt 84 = .ok (.goto 4, 3) := by decide +kernel
theorem dX1_leastAt_87 : decode cX1_leastAt 87 = .ok (.iload_n 3, 1) := by decide +kernel
theorem dX1_leastAt_88 : decode cX1_leastAt 88 = .ok (.istore_n 3, 1) := by decide +kernel
theorem dX1_leastAt_89 : decode cX1_leastAt 89 = .ok (.iinc 4 1, 3) := by decide +kernel
theorem dX1_leastAt_92 : decode cX1_leastAt 92 = .ok (.goto (-73), 3) := by decide +kernel
theorem dX1_leastAt_95 : decode cX1_leastAt 95 = .ok (.iload_n 3, 1) := by decide +kernel
theorem dX1_leastAt_96 : decode cX1_leastAt 96 = .ok (.ireturn, 1) := by decide +kernel
theorem dX1_tally_0 : decode cX1_tally 0 = .ok (.aload_n 0, 1) := by decide +kernel
theorem dX1_tally_1 : decode cX1_tally 1 = .ok (.getfield 14, 3) := by decide +kernel
theorem dX1_tally_4 : decode cX1_tally 4 = .ok (.getfield 77, 3) := by decide +kernel
theorem dX1_tally_7 : decode cX1_tally 7 = .ok (.istore_n 1, 1) := by decide +kernel
theorem dX1_tally_8 : decode cX1_tally 8 = .ok (.iload_n 1, 1) := by decide +kernel
theorem dX1_tally_9 : decode cX1_tally 9 = .ok (.iconst 1, 1) := by decide +kernel
theorem dX1_tally_10 : decode cX1_tally 10 = .ok (.if_icmp .lt 34, 3) := by decide +kernel
theorem dX1_tally_13 : decode cX1_tally 13 = .ok (.aload_n 0, 1) := by decide +kernel
theorem dX1_tally_14 : decode cX1_tally 14 = .ok (.getfield 20, 3) := by decide +kernel
theorem dX1_tally_17 : decode cX1_tally 17 = .ok (.getfield 77, 3) := by decide +kernel
theorem dX1_tally_20 : decode cX1_tally 20 = .ok (.istore_n 2, 1) := by decide +kernel
theorem dX1_tally_21 : decode cX1_tally 21 = .ok (.iload_n 2, 1) := by decide +kernel
theorem dX1_tally_22 : decode cX1_tally 22 = .ok (.iconst 1, 1) := by decide +kernel
theorem dX1_tally_23 : decode cX1_tally 23 = .ok (.if_icmp .lt 15, 3) := by decide +kernel
theorem dX1_tally_26 : decode cX1_tally 26 = .ok (.aload_n 0, 1) := by decide +kernel
theorem dX1_tally_27 : decode cX1_tally 27 = .ok (.iload_n 1, 1) := by decide +kernel
theorem dX1_tally_28 : decode cX1_tally 28 = .ok (.iload_n 2, 1) := by decide +kernel
theorem dX1_tally_29 : decode cX1_tally 29 = .ok (.invokevirtual 151, 3) := by decide +kernel
theorem dX1_tally_32 : decode cX1_tally 32 = .ok (.iinc 2 (-1), 3) := by decide +kernel
theorem dX1_tally_35 : decode cX1_tally 35 = .ok (.goto (-14), 3) := by decide +kernel
theorem dX1_tally_38 : decode cX1_tally 38 = .ok (.iinc 1 (-1), 3) := by decide +kernel
theorem dX1_tally_41 : decode cX1_tally 41 = .ok (.goto (-33), 3) := by decide +kernel
theorem dX1_tally_44 : decode cX1_tally 44 = .ok (.aload_n 0, 1) := by decide +kernel
theorem dX1_tally_45 : decode cX1_tally 45 = .ok (.iconst 0, 1) := by decide +kernel
theorem dX1_tally_46 : decode cX1_tally 46 = .ok (.iconst 0, 1) := by decide +kernel
theorem dX1_tally_47 : decode cX1_tally 47 = .ok (.invokevirtual 151, 3) := by decide +kernel
theorem dX1_tally_50 : decode cX1_tally 50 = .ok (.return_, 1) := by decide +kernel
theorem dX1_tallyPlace_0 : decode cX1_tallyPlace 0 = .ok (.iconst 0, 1) := by decide +kernel
theorem dX1_tallyPlace_1 : decode cX1_tallyPlace 1 = .ok (.istore_n 3, 1) := by decide +kernel
theorem dX1_tallyPlace_2 : decode cX1_tallyPlace 2 = .ok (.aload_n 0, 1) := by decide +kernel
theorem dX1_tallyPlace_3 : decode cX1_tallyPlace 3 = .ok (.iload_n 1, 1) := by decide +kernel
theorem dX1_tallyPlace_4 : decode cX1_tallyPlace 4 = .ok (.iload_n 2, 1) := by decide +kernel
theorem dX1_tallyPlace_5 : decode cX1_tallyPlace 5 = .ok (.invokevirtual 111, 3) := by decide +kernel
theorem dX1_tallyPlace_8 : decode cX1_tallyPlace 8 = .ok (.ifCond .eq 7, 3) := by decide +kernel
theorem dX1_tallyPlace_11 : decode cX1_tallyPlace 11 = .ok (.iconst 1, 1) := by decide +kernel
theorem dX1_tallyPlace_12 : decode cX1_tallyPlace 12 = .ok (.goto 4, 3) := by decide +kernel
theorem dX1_tallyPlace_15 : decode cX1_tallyPlace 15 = .ok (.iconst 0, 1) := by decide +kernel
theorem dX1_tallyPlace_16 : decode cX1_tallyPlace 16 = .ok (.istore 4, 2) := by decide +kernel
theorem dX1_tallyPlace_18 : decode cX1_tallyPlace 18 = .ok (.iload 4, 2) := by decide +kernel
theorem dX1_tallyPlace_20 : decode cX1_tallyPlace 20 = .ok (.istore 5, 2) := by decide +kernel
theorem dX1_tallyPlace_22 : decode cX1_tallyPlace 22 = .ok (.iconst 0, 1) := by decide +kernel
theorem dX1_tallyPlace_23 : decode cX1_tallyPlace 23 = .ok (.istore 6, 2) := by decide +kernel
theorem dX1_tallyPlace_25 : decode cX1_tallyPlace 25 = .ok (.iload 6, 2) := by decide +kernel
theorem dX1_tallyPlace_27 : decode cX1_tallyPlace 27 = .ok (.iconst 3, 1) := by decide +kernel
theorem dX1_tallyPlace_28 : decode cX1_tallyPlace 28 = .ok (.if_icmp .ge 122, 3) := by decide +kernel
theorem dX1_tallyPlace_31 : decode cX1_tallyPlace 31 = .ok (.aload_n 0, 1) := by decide +kernel
theorem dX1_tallyPlace_32 : decode cX1_tallyPlace 32 = .ok (.iload 6, 2) := by decide +kernel
theorem dX1_tallyPlace_34 : decode cX1_tallyPlace 34 = .ok (.iload_n 1, 1) := by decide +kernel
theorem dX1_tallyPlace_35 : decode cX1_tallyPlace 35 = .ok (.iload_n 2, 1) := by decide +kernel
theorem dX1_tallyPlace_36 : decode cX1_tallyPlace 36 = .ok (.invokevirtual 98, 3) := by decide +kernel
theorem dX1_tallyPlace_39 : decode cX1_tallyPlace 39 = .ok (.ifCond .eq 105, 3) := by decide +kernel
theorem dX1_tallyPlace_42 : decode cX1_tallyPlace 42 = .ok (.iload_n 1, 1) := by decide +kernel
theorem dX1_tallyPlace_43 : decode cX1_tallyPlace 43 = .ok (.getstatic 105, 3) := by decide +kernel
theorem dX1_tallyPlace_46 : decode cX1_tallyPlace 46 = .ok (.iload 6, 2) := by decide +kernel
theorem dX1_tallyPlace_48 : decode cX1_tallyPlace 48 = .ok (.iaload, 1) := by decide +kernel
theorem dX1_tallyPlace_49 : decode cX1_tallyPlace 49 = .ok (.iadd, 1) := by decide +kernel
theorem dX1_tallyPlace_50 : decode cX1_tallyPlace 50 = .ok (.istore 7, 2) := by decide +kernel
theorem dX1_tallyPlace_52 : decode cX1_tallyPlace 52 = .ok (.iload_n 2, 1) := by decide +kernel
theorem dX1_tallyPlace_53 : decode cX1_tallyPlace 53 = .ok (.getstatic 108, 3) := by decide +kernel
theorem dX1_tallyPlace_56 : decode cX1_tallyPlace 56 = .ok (.iload 6, 2) := by decide +kernel
theorem dX1_tallyPlace_58 : decode cX1_tallyPlace 58 = .ok (.iaload, 1) := by decide +kernel
theorem dX1_tallyPlace_59 : decode cX1_tallyPlace 59 = .ok (.iadd, 1) := by decide +kernel
theorem dX1_tallyPlace_60 : decode cX1_tallyPlace 60 = .ok (.istore 8, 2) := by decide +kernel
theorem dX1_tallyPlace_62 : decode cX1_tallyPlace 62 = .ok (.aload_n 0, 1) := by decide +kernel
theorem dX1_tallyPlace_63 : decode cX1_tallyPlace 63 = .ok (.iload 6, 2) := by decide +kernel
theorem dX1_tallyPlace_65 : decode cX1_tallyPlace 65 = .ok (.iload_n 1, 1) := by decide +kernel
theorem dX1_tallyPlace_66 : decode cX1_tallyPlace 66 = .ok (.iload_n 2, 1) := by decide +kernel
theorem dX1_tallyPlace_67 : decode cX1_tallyPlace 67 = .ok (.invokevirtual 101, 3) := by decide +kernel
theorem dX1_tallyPlace_70 : decode cX1_tallyPlace 70 = .ok (.istore 9, 2) := by decide +kernel
theorem dX1_tallyPlace_72 : decode cX1_tallyPlace 72 = .ok (.iload_n 3, 1) := by decide +kernel
theorem dX1_tallyPlace_73 : decode cX1_tallyPlace 73 = .ok (.iload 9, 2) := by decide +kernel
theorem dX1_tallyPlace_75 : decode cX1_tallyPlace 75 = .ok (.aload_n 0, 1) := by decide +kernel
theorem dX1_tallyPlace_76 : decode cX1_tallyPlace 76 = .ok (.getfield 32, 3) := by decide +kernel
theorem dX1_tallyPlace_79 : decode cX1_tallyPlace 79 = .ok (.iload 7, 2) := by decide +kernel
theorem dX1_tallyPlace_81 : decode cX1_tallyPlace 81 = .ok (.aaload, 1) := by decide +kernel
theorem dX1_tallyPlace_82 : decode cX1_tallyPlace 82 = .ok (.iload 8, 2) := by decide +kernel
theorem dX1_tallyPlace_84 : decode cX1_tallyPlace 84 = .ok (.iaload, 1) := by decide +kernel
theorem dX1_tallyPlace_85 : decode cX1_tallyPlace 85 = .ok (.iadd, 1) := by decide +kernel
theorem dX1_tallyPlace_86 : decode cX1_tallyPlace 86 = .ok (.invokestatic 155, 3) := by decide +kernel
theorem dX1_tallyPlace_89 : decode cX1_tallyPlace 89 = .ok (.istore_n 3, 1) := by decide +kernel
theorem dX1_tallyPlace_90 : decode cX1_tallyPlace 90 = .ok (.iload 4, 2) := by decide +kernel
theorem dX1_tallyPlace_92 : decode cX1_tallyPlace 92 = .ok (.aload_n 0, 1) := by decide +kernel
theorem dX1_tallyPlace_93 : decode cX1_tallyPlace 93 = .ok (.getfield 35, 3) := by decide +kernel
theorem dX1_tallyPlace_96 : decode cX1_tallyPlace 96 = .ok (.iload 7, 2) := by decide +kernel
theorem dX1_tallyPlace_98 : decode cX1_tallyPlace 98 = .ok (.aaload, 1) := by decide +kernel
theorem dX1_tallyPlace_99 : decode cX1_tallyPlace 99 = .ok (.iload 8, 2) := by decide +kernel
theorem dX1_tallyPlace_101 : decode cX1_tallyPlace 101 = .ok (.iaload, 1) := by decide +kernel
theorem dX1_tallyPlace_102 : decode cX1_tallyPlace 102 = .ok (.iadd, 1) := by decide +kernel
theorem dX1_tallyPlace_103 : decode cX1_tallyPlace 103 = .ok (.istore 4, 2) := by decide +kernel
theorem dX1_tallyPlace_105 : decode cX1_tallyPlace 105 = .ok (.iload 9, 2) := by decide +kernel
theorem dX1_tallyPlace_107 : decode cX1_tallyPlace 107 = .ok (.aload_n 0, 1) := by decide +kernel
theorem dX1_tallyPlace_108 : decode cX1_tallyPlace 108 = .ok (.getfield 29, 3) := by decide +kernel
theorem dX1_tallyPlace_111 : decode cX1_tallyPlace 111 = .ok (.iload 7, 2) := by decide +kernel
theorem dX1_tallyPlace_113 : decode cX1_tallyPlace 113 = .ok (.aaload, 1) := by decide +kernel
theorem dX1_tallyPlace_114 : decode cX1_tallyPlace 114 = .ok (.iload 8, 2) := by decide +kernel
theorem dX1_tallyPlace_116 : decode cX1_tallyPlace 116 = .ok (.iaload, 1) := by decide +kernel
theorem dX1_tallyPlace_117 : decode cX1_tallyPlace 117 = .ok (.iadd, 1) := by decide +kernel
theorem dX1_tallyPlace_118 : decode cX1_tallyPlace 118 = .ok (.aload_n 0, 1) := by decide +kernel
theorem dX1_tallyPlace_119 : decode cX1_tallyPlace 119 = .ok (.getfield 29, 3) := by decide +kernel
theorem dX1_tallyPlace_122 : decode cX1_tallyPlace 122 = .ok (.iload_n 1, 1) := by decide +kernel
theorem dX1_tallyPlace_123 : decode cX1_tallyPlace 123 = .ok (.aaload, 1) := by decide +kernel
theorem dX1_tallyPlace_124 : decode cX1_tallyPlace 124 = .ok (.iload_n 2, 1) := by decide +kernel
theorem dX1_tallyPlace_125 : decode cX1_tallyPlace 125 = .ok (.iaload, 1) := by decide +kernel
theorem dX1_tallyPlace_126 : decode cX1_tallyPlace 126 = .ok (.if_icmp .ne 18, 3) := by decide +kernel
theorem dX1_tallyPlace_129 : decode cX1_tallyPlace 129 = .ok (.iload 5, 2) := by decide +kernel
theorem dX1_tallyPlace_131 : decode cX1_tallyPlace 131 = .ok (.aload_n 0, 1) := by decide +kernel
theorem dX1_tallyPlace_132 : decode cX1_tallyPlace 132 = .ok (.getfield 38, 3) := by decide +kernel
theorem dX1_tallyPlace_135 : decode cX1_tallyPlace 135 = .ok (.iload 7, 2) := by decide +kernel
theorem dX1_tallyPlace_137 : decode cX1_tallyPlace 137 = .ok (.aaload, 1) := by decide +kernel
theorem dX1_tallyPlace_138 : decode cX1_tallyPlace 138 = .ok (.iload 8, 2) := by decide +kernel
theorem dX1_tallyPlace_140 : decode cX1_tallyPlace 140 = .ok (.iaload, 1) := by decide +kernel
theorem dX1_tallyPlace_141 : decode cX1_tallyPlace 141 = .ok (.iadd, 1) := by decide +kernel
theorem dX1_tallyPlace_142 : decode cX1_tallyPlace 142 = .ok (.istore 5, 2) := by decide +kernel
theorem dX1_tallyPlace_144 : decode cX1_tallyPlace 144 = .ok (.iinc 6 1, 3) := by decide +kernel
theorem dX1_tallyPlace_147 : decode cX1_tallyPlace 147 = .ok (.goto (-122), 3) := by decide +kernel
theorem dX1_tallyPlace_150 : decode cX1_tallyPlace 150 = .ok (.aload_n 0, 1) := by decide +kernel
theorem dX1_tallyPlace_151 : decode cX1_tallyPlace 151 = .ok (.getfield 32, 3) := by decide +kernel
theorem dX1_tallyPlace_154 : decode cX1_tallyPlace 154 = .ok (.iload_n 1, 1) := by decide +kernel
theorem dX1_tallyPlace_155 : decode cX1_tallyPlace 155 = .ok (.aaload, 1) := by decide +kernel
theorem dX1_tallyPlace_156 : decode cX1_tallyPlace 156 = .ok (.iload_n 2, 1) := by decide +kernel
theorem dX1_tallyPlace_157 : decode cX1_tallyPlace 157 = .ok (.iload_n 3, 1) := by decide +kernel
theorem dX1_tallyPlace_158 : decode cX1_tallyPlace 158 = .ok (.iastore, 1) := by decide +kernel
theorem dX1_tallyPlace_159 : decode cX1_tallyPlace 159 = .ok (.aload_n 0, 1) := by decide +kernel
theorem dX1_tallyPlace_160 : decode cX1_tallyPlace 160 = .ok (.getfield 35, 3) := by decide +kernel
theorem dX1_tallyPlace_163 : decode cX1_tallyPlace 163 = .ok (.iload_n 1, 1) := by decide +kernel
theorem dX1_tallyPlace_164 : decode cX1_tallyPlace 164 = .ok (.aaload, 1) := by decide +kernel
theorem dX1_tallyPlace_165 : decode cX1_tallyPlace 165 = .ok (.iload_n 2, 1) := by decide +kernel
theorem dX1_tallyPlace_166 : decode cX1_tallyPlace 166 = .ok (.iload 4, 2) := by decide +kernel
theorem dX1_tallyPlace_168 : decode cX1_tallyPlace 168 = .ok (.iastore, 1) := by decide +kernel
theorem dX1_tallyPlace_169 : decode cX1_tallyPlace 169 = .ok (.aload_n 0, 1) := by decide +kernel
theorem dX1_tallyPlace_170 : decode cX1_tallyPlace 170 = .ok (.getfield 38, 3) := by decide +kernel
theorem dX1_tallyPlace_173 : decode cX1_tallyPlace 173 = .ok (.iload_n 1, 1) := by decide +kernel
theorem dX1_tallyPlace_174 : decode cX1_tallyPlace 174 = .ok (.aaload, 1) := by decide +kernel
theorem dX1_tallyPlace_175 : decode cX1_tallyPlace 175 = .ok (.iload_n 2, 1) := by decide +kernel
theorem dX1_tallyPlace_176 : decode cX1_tallyPlace 176 = .ok (.iload 5, 2) := by decide +kernel
theorem dX1_tallyPlace_178 : decode cX1_tallyPlace 178 = .ok (.iastore, 1) := by decide +kernel
theorem dX1_tallyPlace_179 : decode cX1_tallyPlace 179 = .ok (.return_, 1) := by decide +kernel
theorem dX1_trace_0 : decode cX1_trace 0 = .ok (.iconst 0, 1) := by decide +kernel
theorem dX1_trace_1 : decode cX1_trace 1 = .ok (.istore_n 1, 1) := by decide +kernel
theorem dX1_trace_2 : decode cX1_trace 2 = .ok (.iload_n 1, 1) := by decide +kernel
theorem dX1_trace_3 : decode cX1_trace 3 = .ok (.bipush 11, 2) := by decide +kernel
theorem dX1_trace_5 : decode cX1_trace 5 = .ok (.if_icmp .ge 24, 3) := by decide +kernel
theorem dX1_trace_8 : decode cX1_trace 8 = .ok (.aload_n 0, 1) := by decide +kernel
theorem dX1_trace_9 : decode cX1_trace 9 = .ok (.getfield 48, 3) := by decide +kernel
theorem dX1_trace_12 : decode cX1_trace 12 = .ok (.iload_n 1, 1) := by decide +kernel
theorem dX1_trace_13 : decode cX1_trace 13 = .ok (.bipush (-6), 2) := by decide +kernel
theorem dX1_trace_15 : decode cX1_trace 15 = .ok (.iastore, 1) := by decide +kernel
theorem dX1_trace_16 : decode cX1_trace 16 = .ok (.aload_n 0, 1) := by decide +kernel
theorem dX1_trace_17 : decode cX1_trace 17 = .ok (.getfield 51, 3) := by decide +kernel
theorem dX1_trace_20 : decode cX1_trace 20 = .ok (.iload_n 1, 1) := by decide +kernel
theorem dX1_trace_21 : decode cX1_trace 21 = .ok (.iconst 0, 1) := by decide +kernel
theorem dX1_trace_22 : decode cX1_trace 22 = .ok (.iastore, 1) := by decide +kernel
theorem dX1_trace_23 : decode cX1_trace 23 = .ok (.iinc 1 1, 3) := by decide +kernel
theorem dX1_trace_26 : decode cX1_trace 26 = .ok (.goto (-24), 3) := by decide +kernel
theorem dX1_trace_29 : decode cX1_trace 29 = .ok (.aload_n 0, 1) := by decide +kernel
theorem dX1_trace_30 : decode cX1_trace 30 = .ok (.iconst 0, 1) := by decide +kernel
theorem dX1_trace_31 : decode cX1_trace 31 = .ok (.putfield 44, 3) := by decide +kernel
theorem dX1_trace_34 : decode cX1_trace 34 = .ok (.iconst 0, 1) := by decide +kernel
theorem dX1_trace_35 : decode cX1_trace 35 = .ok (.istore_n 1, 1) := by decide +kernel
theorem dX1_trace_36 : decode cX1_trace 36 = .ok (.iconst 0, 1) := by decide +kernel
theorem dX1_trace_37 : decode cX1_trace 37 = .ok (.istore_n 2, 1) := by decide +kernel
theorem dX1_trace_38 : decode cX1_trace 38 = .ok (.iconst 0, 1) := by decide +kernel
theorem dX1_trace_39 : decode cX1_trace 39 = .ok (.istore_n 3, 1) := by decide +kernel
theorem dX1_trace_40 : decode cX1_trace 40 = .ok (.iload_n 3, 1) := by decide +kernel
theorem dX1_trace_41 : decode cX1_trace 41 = .ok (.bipush 20, 2) := by decide +kernel
theorem dX1_trace_43 : decode cX1_trace 43 = .ok (.if_icmp .ge 96, 3) := by decide +kernel
theorem dX1_trace_46 : decode cX1_trace 46 = .ok (.aload_n 0, 1) := by decide +kernel
theorem dX1_trace_47 : decode cX1_trace 47 = .ok (.iload_n 1, 1) := by decide +kernel
theorem dX1_trace_48 : decode cX1_trace 48 = .ok (.iload_n 2, 1) := by decide +kernel
theorem dX1_trace_49 : decode cX1_trace 49 = .ok (.invokevirtual 158, 3) := by decide +kernel
theorem dX1_trace_52 : decode cX1_trace 52 = .ok (.istore 4, 2) := by decide +kernel
theorem dX1_trace_54 : decode cX1_trace 54 = .ok (.iload 4, 2) := by decide +kernel
theorem dX1_trace_56 : decode cX1_trace 56 = .ok (.iconst (-1), 1) := by decide +kernel
theorem dX1_trace_57 : decode cX1_trace 57 = .ok (.if_icmp .ne 4, 3) := by decide +kernel
theorem dX1_trace_60 : decode cX1_trace 60 = .ok (.return_, 1) := by decide +kernel
theorem dX1_trace_61 : decode cX1_trace 61 = .ok (.iload_n 1, 1) := by decide +kernel
theorem dX1_trace_62 : decode cX1_trace 62 = .ok (.getstatic 105, 3) := by decide +kernel
theorem dX1_trace_65 : decode cX1_trace 65 = .ok (.iload 4, 2) := by decide +kernel
theorem dX1_trace_67 : decode cX1_trace 67 = .ok (.iaload, 1) := by decide +kernel
theorem dX1_trace_68 : decode cX1_trace 68 = .ok (.iadd, 1) := by decide +kernel
theorem dX1_trace_69 : decode cX1_trace 69 = .ok (.istore_n 1, 1) := by decide +kernel
theorem dX1_trace_70 : decode cX1_trace 70 = .ok (.iload_n 2, 1) := by decide +kernel
theorem dX1_trace_71 : decode cX1_trace 71 = .ok (.getstatic 108, 3) := by decide +kernel
theorem dX1_trace_74 : decode cX1_trace 74 = .ok (.iload 4, 2) := by decide +kernel
theorem dX1_trace_76 : decode cX1_trace 76 = .ok (.iaload, 1) := by decide +kernel
theorem dX1_trace_77 : decode cX1_trace 77 = .ok (.iadd, 1) := by decide +kernel
theorem dX1_trace_78 : decode cX1_trace 78 = .ok (.istore_n 2, 1) := by decide +kernel
theorem dX1_trace_79 : decode cX1_trace 79 = .ok (.aload_n 0, 1) := by decide +kernel
theorem dX1_trace_80 : decode cX1_trace 80 = .ok (.getfield 41, 3) := by decide +kernel
theorem dX1_trace_83 : decode cX1_trace 83 = .ok (.iload_n 3, 1) := by decide +kernel
theorem dX1_trace_84 : decode cX1_trace 84 = .ok (.iload 4, 2) := by decide +kernel
theorem dX1_trace_86 : decode cX1_trace 86 = .ok (.iastore, 1) := by decide +kernel
theorem dX1_trace_87 : decode cX1_trace 87 = .ok (.aload_n 0, 1) := by decide +kernel
theorem dX1_trace_88 : decode cX1_trace 88 = .ok (.dup, 1) := by decide +kernel
theorem dX1_trace_89 : decode cX1_trace 89 = .ok (.getfield 44, 3) := by decide +kernel
theorem dX1_trace_92 : decode cX1_trace 92 = .ok (.iconst 1, 1) := by decide +kernel
theorem dX1_trace_93 : decode cX1_trace 93 = .ok (.iadd, 1) := by decide +kernel
theorem dX1_trace_94 : decode cX1_trace 94 = .ok (.putfield 44, 3) := by decide +kernel
theorem dX1_trace_97 : decode cX1_trace 97 = .ok (.aload_n 0, 1) := by decide +kernel
theorem dX1_trace_98 : decode cX1_trace 98 = .ok (.getfield 48, 3) := by decide +kernel
theorem dX1_trace_101 : decode cX1_trace 101 = .ok (.iload_n 2, 1) := by decide +kernel
theorem dX1_trace_102 : decode cX1_trace 102 = .ok (.iconst 1, 1) := by decide +kernel
theorem dX1_trace_103 : decode cX1_trace 103 = .ok (.isub, 1) := by decide +kernel
theorem dX1_trace_104 : decode cX1_trace 104 = .ok (.iaload, 1) := by decide +kernel
theorem dX1_trace_105 : decode cX1_trace 105 = .ok (.bipush (-6), 2) := by decide +kernel
theorem dX1_trace_107 : decode cX1_trace 107 = .ok (.if_icmp .ne 14, 3) := by decide +kernel
theorem dX1_trace_110 : decode cX1_trace 110 = .ok (.aload_n 0, 1) := by decide +kernel
theorem dX1_trace_111 : decode cX1_trace 111 = .ok (.getfield 48, 3) := by decide +kernel
theorem dX1_trace_114 : decode cX1_trace 114 = .ok (.iload_n 2, 1) := by decide +kernel
theorem dX1_trace_115 : decode cX1_trace 115 = .ok (.iconst 1, 1) := by decide +kernel
theorem dX1_trace_116 : decode cX1_trace 116 = .ok (.isub, 1) := by decide +kernel
theorem dX1_trace_117 : decode cX1_trace 117 = .ok (.iload_n 1, 1) := by decide +kernel
theorem dX1_trace_118 : decode cX1_trace 118 = .ok (.iconst 1, 1) := by decide +kernel
theorem dX1_trace_119 : decode cX1_trace 119 = .ok (.isub, 1) := by decide +kernel
theorem dX1_trace_120 : decode cX1_trace 120 = .ok (.iastore, 1) := by decide +kernel
theorem dX1_trace_121 : decode cX1_trace 121 = .ok (.aload_n 0, 1) := by decide +kernel
theorem dX1_trace_122 : decode cX1_trace 122 = .ok (.getfield 51, 3) := by decide +kernel
theorem dX1_trace_125 : decode cX1_trace 125 = .ok (.iload_n 2, 1) := by decide +kernel
theorem dX1_trace_126 : decode cX1_trace 126 = .ok (.iconst 1, 1) := by decide +kernel
theorem dX1_trace_127 : decode cX1_trace 127 = .ok (.isub, 1) := by decide +kernel
theorem dX1_trace_128 : decode cX1_trace 128 = .ok (.dup2, 1) := by decide +kernel
theorem dX1_trace_129 : decode cX1_trace 129 = .ok (.iaload, 1) := by decide +kernel
theorem dX1_trace_130 : decode cX1_trace 130 = .ok (.iconst 1, 1) := by decide +kernel
theorem dX1_trace_131 : decode cX1_trace 131 = .ok (.iadd, 1) := by decide +kernel
theorem dX1_trace_132 : decode cX1_trace 132 = .ok (.iastore, 1) := by decide +kernel
theorem dX1_trace_133 : decode cX1_trace 133 = .ok (.iinc 3 1, 3) := by decide +kernel
theorem dX1_trace_136 : decode cX1_trace 136 = .ok (.goto (-96), 3) := by decide +kernel
theorem dX1_trace_139 : decode cX1_trace 139 = .ok (.return_, 1) := by decide +kernel
theorem dX1_leastStepFrom_0 : decode cX1_leastStepFrom 0 = .ok (.iconst 0, 1) := by decide +kernel
theorem dX1_leastStepFrom_1 : decode cX1_leastStepFrom 1 = .ok (.istore_n 3, 1) := by decide +kernel
theorem dX1_leastStepFrom_2 : decode cX1_leastStepFrom 2 = .ok (.iload_n 3, 1) := by decide +kernel
theorem dX1_leastStepFrom_3 : decode cX1_leastStepFrom 3 = .ok (.iconst 3, 1) := by decide +kernel
theorem dX1_leastStepFrom_4 : decode cX1_leastStepFrom 4 = .ok (.if_icmp .ge 64, 3) := by decide +kernel
theorem dX1_leastStepFrom_7 : decode cX1_leastStepFrom 7 = .ok (.aload_n 0, 1) := by decide +kernel
theorem dX1_leastStepFrom_8 : decode cX1_leastStepFrom 8 = .ok (.iload_n 3, 1) := by decide +kernel
theorem dX1_leastStepFrom_9 : decode cX1_leastStepFrom 9 = .ok (.iload_n 1, 1) := by decide +kernel
theorem dX1_leastStepFrom_10 : decode cX1_leastStepFrom 10 = .ok (.iload_n 2, 1) := by decide +kernel
theorem dX1_leastStepFrom_11 : decode cX1_leastStepFrom 11 = .ok (.invokevirtual 98, 3) := by decide +kernel
theorem dX1_leastStepFrom_14 : decode cX1_leastStepFrom 14 = .ok (.ifCond .eq 48, 3) := by decide +kernel
theorem dX1_leastStepFrom_17 : decode cX1_leastStepFrom 17 = .ok (.aload_n 0, 1) := by decide +kernel
theorem dX1_leastStepFrom_18 : decode cX1_leastStepFrom 18 = .ok (.getfield 29, 3) := by decide +kernel
theorem dX1_leastStepFrom_21 : decode cX1_leastStepFrom 21 = .ok (.iload_n 1, 1) := by decide +kernel
theorem dX1_leastStepFrom_22 : decode cX1_leastStepFrom 22 = .ok (.getstatic 105, 3) := by decide +kernel
theorem dX1_leastStepFrom_25 : decode cX1_leastStepFrom 25 = .ok (.iload_n 3, 1) := by decide +kernel
theorem dX1_leastStepFrom_26 : decode cX1_leastStepFrom 26 = .ok (.iaload, 1) := by decide +kernel
theorem dX1_leastStepFrom_27 : decode cX1_leastStepFrom 27 = .ok (.iadd, 1) := by decide +kernel
theorem dX1_leastStepFrom_28 : decode cX1_leastStepFrom 28 = .ok (.aaload, 1) := by decide +kernel
theorem dX1_leastStepFrom_29 : decode cX1_leastStepFrom 29 = .ok (.iload_n 2, 1) := by decide +kernel
theorem dX1_leastStepFrom_30 : decode cX1_leastStepFrom 30 = .ok (.getstatic 108, 3) := by decide +kernel
theorem dX1_leastStepFrom_33 : decode cX1_leastStepFrom 33 = .ok (.iload_n 3, 1) := by decide +kernel
theorem dX1_leastStepFrom_34 : decode cX1_leastStepFrom 34 = .ok (.iaload, 1) := by decide +kernel
theorem dX1_leastStepFrom_35 : decode cX1_leastStepFrom 35 = .ok (.iadd, 1) := by decide +kernel
theorem dX1_leastStepFrom_36 : decode cX1_leastStepFrom 36 = .ok (.iaload, 1) := by decide +kernel
theorem dX1_leastStepFrom_37 : decode cX1_leastStepFrom 37 = .ok (.istore 4, 2) := by decide +kernel
theorem dX1_leastStepFrom_39 : decode cX1_leastStepFrom 39 = .ok (.aload_n 0, 1) := by decide +kernel
theorem dX1_leastStepFrom_40 : decode cX1_leastStepFrom 40 = .ok (.iload_n 3, 1) := by decide +kernel
theorem dX1_leastStepFrom_41 : decode cX1_leastStepFrom 41 = .ok (.iload_n 1, 1) := by decide +kernel
theorem dX1_leastStepFrom_42 : decode cX1_leastStepFrom 42 = .ok (.iload_n 2, 1) := by decide +kernel
theorem dX1_leastStepFrom_43 : decode cX1_leastStepFrom 43 = .ok (.invokevirtual 101, 3) := by decide +kernel
theorem dX1_leastStepFrom_46 : decode cX1_leastStepFrom 46 = .ok (.iload 4, 2) := by decide +kernel
theorem dX1_leastStepFrom_48 : decode cX1_leastStepFrom 48 = .ok (.iadd, 1) := by decide +kernel
theorem dX1_leastStepFrom_49 : decode cX1_leastStepFrom 49 = .ok (.aload_n 0, 1) := by decide +kernel
theorem dX1_leastStepFrom_50 : decode cX1_leastStepFrom 50 = .ok (.getfield 29, 3) := by decide +kernel
theorem dX1_leastStepFrom_53 : decode cX1_leastStepFrom 53 = .ok (.iload_n 1, 1) := by decide +kernel
theorem dX1_leastStepFrom_54 : decode cX1_leastStepFrom 54 = .ok (.aaload, 1) := by decide +kernel
theorem dX1_leastStepFrom_55 : decode cX1_leastStepFrom 55 = .ok (.iload_n 2, 1) := by decide +kernel
theorem dX1_leastStepFrom_56 : decode cX1_leastStepFrom 56 = .ok (.iaload, 1) := by decide +kernel
theorem dX1_leastStepFrom_57 : decode cX1_leastStepFrom 57 = .ok (.if_icmp .ne 5, 3) := by decide +kernel
theorem dX1_leastStepFrom_60 : decode cX1_leastStepFrom 60 = .ok (.iload_n 3, 1) := by decide +kernel
theorem dX1_leastStepFrom_61 : decode cX1_leastStepFrom 61 = .ok (.ireturn, 1) := by decide +kernel
theorem dX1_leastStepFrom_62 : decode cX1_leastStepFrom 62 = .ok (.iinc 3 1, 3) := by decide +kernel
theorem dX1_leastStepFrom_65 : decode cX1_leastStepFrom 65 = .ok (.goto (-63), 3) := by decide +kernel
theorem dX1_leastStepFrom_68 : decode cX1_leastStepFrom 68 = .ok (.iconst (-1), 1) := by decide +kernel
theorem dX1_leastStepFrom_69 : decode cX1_leastStepFrom 69 = .ok (.ireturn, 1) := by decide +kernel
end
section
theorem dX5_init_0 : decode cX5_init 0 = .ok (.aload_n 0, 1) := by decide +kernel
theorem dX5_init_1 : decode cX5_init 1 = .ok (.invokespecial 1, 3) := by decide +kernel
theorem dX5_init_4 : decode cX5_init 4 = .ok (.aload_n 0, 1) := by decide +kernel
theorem dX5_init_5 : decode cX5_init 5 = .ok (.sipush 153, 3) := by decide +kernel
theorem dX5_init_8 : decode cX5_init 8 = .ok (.newarray .int, 2) := by decide +kernel
theorem dX5_init_10 : decode cX5_init 10 = .ok (.putfield 7, 3) := by decide +kernel
theorem dX5_init_13 : decode cX5_init 13 = .ok (.aload_n 0, 1) := by decide +kernel
theorem dX5_init_14 : decode cX5_init 14 = .ok (.sipush 306, 3) := by decide +kernel
theorem dX5_init_17 : decode cX5_init 17 = .ok (.newarray .int, 2) := by decide +kernel
theorem dX5_init_19 : decode cX5_init 19 = .ok (.putfield 13, 3) := by decide +kernel
theorem dX5_init_22 : decode cX5_init 22 = .ok (.aload_n 0, 1) := by decide +kernel
theorem dX5_init_23 : decode cX5_init 23 = .ok (.iconst 2, 1) := by decide +kernel
theorem dX5_init_24 : decode cX5_init 24 = .ok (.newarray .boolean, 2) := by decide +kernel
theorem dX5_init_26 : decode cX5_init 26 = .ok (.putfield 16, 3) := by decide +kernel
theorem dX5_init_29 : decode cX5_init 29 = .ok (.aload_n 0, 1) := by decide +kernel
theorem dX5_init_30 : decode cX5_init 30 = .ok (.bipush 22, 2) := by decide +kernel
theorem dX5_init_32 : decode cX5_init 32 = .ok (.newarray .int, 2) := by decide +kernel
theorem dX5_init_34 : decode cX5_init 34 = .ok (.putfield 20, 3) := by decide +kernel
theorem dX5_init_37 : decode cX5_init 37 = .ok (.aload_n 0, 1) := by decide +kernel
theorem dX5_init_38 : decode cX5_init 38 = .ok (.bipush 9, 2) := by decide +kernel
theorem dX5_init_40 : decode cX5_init 40 = .ok (.newarray .int, 2) := by decide +kernel
theorem dX5_init_42 : decode cX5_init 42 = .ok (.putfield 23, 3) := by decide +kernel
theorem dX5_init_45 : decode cX5_init 45 = .ok (.aload_n 0, 1) := by decide +kernel
theorem dX5_init_46 : decode cX5_init 46 = .ok (.bipush 9, 2) := by decide +kernel
theorem dX5_init_48 : decode cX5_init 48 = .ok (.newarray .int, 2) := by decide +kernel
theorem dX5_init_50 : decode cX5_init 50 = .ok (.putfield 26, 3) := by decide +kernel
theorem dX5_init_53 : decode cX5_init 53 = .ok (.aload_n 0, 1) := by decide +kernel
theorem dX5_init_54 : decode cX5_init 54 = .ok (.bipush 11, 2) := by decide +kernel
theorem dX5_init_56 : decode cX5_init 56 = .ok (.newarray .int, 2) := by decide +kernel
theorem dX5_init_58 : decode cX5_init 58 = .ok (.putfield 29, 3) := by decide +kernel
theorem dX5_init_61 : decode cX5_init 61 = .ok (.aload_n 0, 1) := by decide +kernel
theorem dX5_init_62 : decode cX5_init 62 = .ok (.bipush 11, 2) := by decide +kernel
theorem dX5_init_64 : decode cX5_init 64 = .ok (.newarray .int, 2) := by decide +kernel
theorem dX5_init_66 : decode cX5_init 66 = .ok (.putfield 32, 3) := by decide +kernel
theorem dX5_init_69 : decode cX5_init 69 = .ok (.aload_n 0, 1) := by decide +kernel
theorem dX5_init_70 : decode cX5_init 70 = .ok (.bipush 120, 2) := by decide +kernel
theorem dX5_init_72 : decode cX5_init 72 = .ok (.newarray .int, 2) := by decide +kernel
theorem dX5_init_74 : decode cX5_init 74 = .ok (.putfield 35, 3) := by decide +kernel
theorem dX5_init_77 : decode cX5_init 77 = .ok (.aload_n 0, 1) := by decide +kernel
theorem dX5_init_78 : decode cX5_init 78 = .ok (.bipush 120, 2) := by decide +kernel
theorem dX5_init_80 : decode cX5_init 80 = .ok (.newarray .int, 2) := by decide +kernel
theorem dX5_init_82 : decode cX5_init 82 = .ok (.putfield 38, 3) := by decide +kernel
theorem dX5_init_85 : decode cX5_init 85 = .ok (.aload_n 0, 1) := by decide +kernel
theorem dX5_init_86 : decode cX5_init 86 = .ok (.bipush 120, 2) := by decide +kernel
theorem dX5_init_88 : decode cX5_init 88 = .ok (.newarray .int, 2) := by decide +kernel
theorem dX5_init_90 : decode cX5_init 90 = .ok (.putfield 41, 3) := by decide +kernel
theorem dX5_init_93 : decode cX5_init 93 = .ok (.aload_n 0, 1) := by decide +kernel
theorem dX5_init_94 : decode cX5_init 94 = .ok (.bipush 120, 2) := by decide +kernel
theorem dX5_init_96 : decode cX5_init 96 = .ok (.newarray .int, 2) := by decide +kernel
theorem dX5_init_98 : decode cX5_init 98 = .ok (.putfield 44, 3) := by decide +kernel
theorem dX5_init_101 : decode cX5_init 101 = .ok (.aload_n 0, 1) := by decide +kernel
theorem dX5_init_102 : decode cX5_init 102 = .ok (.bipush 20, 2) := by decide +kernel
theorem dX5_init_104 : decode cX5_init 104 = .ok (.newarray .int, 2) := by decide +kernel
theorem dX5_init_106 : decode cX5_init 106 = .ok (.putfield 47, 3) := by decide +kernel
theorem dX5_init_109 : decode cX5_init 109 = .ok (.aload_n 0, 1) := by decide +kernel
theorem dX5_init_110 : decode cX5_init 110 = .ok (.getfield 7, 3) := by decide +kernel
theorem dX5_init_113 : decode cX5_init 113 = .ok (.sipush 149, 3) := by decide +kernel
theorem dX5_init_116 : decode cX5_init 116 = .ok (.iconst 3, 1) := by decide +kernel
theorem dX5_init_117 : decode cX5_init 117 = .ok (.iastore, 1) := by decide +kernel
theorem dX5_init_118 : decode cX5_init 118 = .ok (.aload_n 0, 1) := by decide +kernel
theorem dX5_init_119 : decode cX5_init 119 = .ok (.getfield 7, 3) := by decide +kernel
theorem dX5_init_122 : decode cX5_init 122 = .ok (.sipush 150, 3) := by decide +kernel
theorem dX5_init_125 : decode cX5_init 125 = .ok (.iconst 2, 1) := by decide +kernel
theorem dX5_init_126 : decode cX5_init 126 = .ok (.iastore, 1) := by decide +kernel
theorem dX5_init_127 : decode cX5_init 127 = .ok (.aload_n 0, 1) := by decide +kernel
theorem dX5_init_128 : decode cX5_init 128 = .ok (.getfield 7, 3) := by decide +kernel
theorem dX5_init_131 : decode cX5_init 131 = .ok (.sipush 151, 3) := by decide +kernel
theorem dX5_init_134 : decode cX5_init 134 = .ok (.iconst 4, 1) := by decide +kernel
theorem dX5_init_135 : decode cX5_init 135 = .ok (.iastore, 1) := by decide +kernel
theorem dX5_init_136 : decode cX5_init 136 = .ok (.aload_n 0, 1) := by decide +kernel
theorem dX5_init_137 : decode cX5_init 137 = .ok (.getfield 7, 3) := by decide +kernel
theorem dX5_init_140 : decode cX5_init 140 = .ok (.sipush 152, 3) := by decide +kernel
theorem dX5_init_143 : decode cX5_init 143 = .ok (.iconst 2, 1) := by decide +kernel
theorem dX5_init_144 : decode cX5_init 144 = .ok (.iastore, 1) := by decide +kernel
theorem dX5_init_145 : decode cX5_init 145 = .ok (.return_, 1) := by decide +kernel
theorem dX5_in_0 : decode cX5_in 0 = .ok (.iload_n 0, 1) := by decide +kernel
theorem dX5_in_1 : decode cX5_in 1 = .ok (.iload_n 1, 1) := by decide +kernel
theorem dX5_in_2 : decode cX5_in 2 = .ok (.if_icmp .lt 12, 3) := by decide +kernel
theorem dX5_in_5 : decode cX5_in 5 = .ok (.iload_n 0, 1) := by decide +kernel
theorem dX5_in_6 : decode cX5_in 6 = .ok (.iload_n 2, 1) := by decide +kernel
theorem dX5_in_7 : decode cX5_in 7 = .ok (.if_icmp .gt 7, 3) := by decide +kernel
theorem dX5_in_10 : decode cX5_in 10 = .ok (.iconst 1, 1) := by decide +kernel
theorem dX5_in_11 : decode cX5_in 11 = .ok (.goto 4, 3) := by decide +kernel
theorem dX5_in_14 : decode cX5_in 14 = .ok (.iconst 0, 1) := by decide +kernel
theorem dX5_in_15 : decode cX5_in 15 = .ok (.ireturn, 1) := by decide +kernel
theorem dX5_isLine_0 : decode cX5_isLine 0 = .ok (.iload_n 0, 1) := by decide +kernel
theorem dX5_isLine_1 : decode cX5_isLine 1 = .ok (.iconst 0, 1) := by decide +kernel
theorem dX5_isLine_2 : decode cX5_isLine 2 = .ok (.iconst 2, 1) := by decide +kernel
theorem dX5_isLine_3 : decode cX5_isLine 3 = .ok (.invokestatic 50, 3) := by decide +kernel
theorem dX5_isLine_6 : decode cX5_isLine 6 = .ok (.ireturn, 1) := by decide +kernel
theorem dX5_isTune_0 : decode cX5_isTune 0 = .ok (.iload_n 0, 1) := by decide +kernel
theorem dX5_isTune_1 : decode cX5_isTune 1 = .ok (.iconst 0, 1) := by decide +kernel
theorem dX5_isTune_2 : decode cX5_isTune 2 = .ok (.iconst 3, 1) := by decide +kernel
theorem dX5_isTune_3 : decode cX5_isTune 3 = .ok (.invokestatic 50, 3) := by decide +kernel
theorem dX5_isTune_6 : decode cX5_isTune 6 = .ok (.ireturn, 1) := by decide +kernel
theorem dX5_say_0 : decode cX5_say 0 = .ok (.iload_n 1, 1) := by decide +kernel
theorem dX5_say_1 : decode cX5_say 1 = .ok (.bipush 33, 2) := by decide +kernel
theorem dX5_say_3 : decode cX5_say 3 = .ok (.bipush 126, 2) := by decide +kernel
theorem dX5_say_5 : decode cX5_say 5 = .ok (.invokestatic 50, 3) := by decide +kernel
theorem dX5_say_8 : decode cX5_say 8 = .ok (.ifCond .ne 6, 3) := by decide +kernel
theorem dX5_say_11 : decode cX5_say 11 = .ok (.bipush (-2), 2) := by decide +kernel
theorem dX5_say_13 : decode cX5_say 13 = .ok (.ireturn, 1) := by decide +kernel
theorem dX5_say_14 : decode cX5_say 14 = .ok (.aload_n 0, 1) := by decide +kernel
theorem dX5_say_15 : decode cX5_say 15 = .ok (.getfield 54, 3) := by decide +kernel
theorem dX5_say_18 : decode cX5_say 18 = .ok (.bipush 22, 2) := by decide +kernel
theorem dX5_say_20 : decode cX5_say 20 = .ok (.if_icmp .ne 6, 3) := by decide +kernel
theorem dX5_say_23 : decode cX5_say 23 = .ok (.bipush (-4), 2) := by decide +kernel
theorem dX5_say_25 : decode cX5_say 25 = .ok (.ireturn, 1) := by decide +kernel
theorem dX5_say_26 : decode cX5_say 26 = .ok (.aload_n 0, 1) := by decide +kernel
theorem dX5_say_27 : decode cX5_say 27 = .ok (.getfield 20, 3) := by decide +kernel
theorem dX5_say_30 : decode cX5_say 30 = .ok (.aload_n 0, 1) := by decide +kernel
theorem dX5_say_31 : decode cX5_say 31 = .ok (.getfield 54, 3) := by decide +kernel
theorem dX5_say_34 : decode cX5_say 34 = .ok (.iload_n 1, 1) := by decide +kernel
theorem dX5_say_35 : decode cX5_say 35 = .ok (.iastore, 1) := by decide +kernel
theorem dX5_say_36 : decode cX5_say 36 = .ok (.aload_n 0, 1) := by decide +kernel
theorem dX5_say_37 : decode cX5_say 37 = .ok (.dup, 1) := by decide +kernel
theorem dX5_say_38 : decode cX5_say 38 = .ok (.getfield 54, 3) := by decide +kernel
theorem dX5_say_41 : decode cX5_say 41 = .ok (.iconst 1, 1) := by decide +kernel
theorem dX5_say_42 : decode cX5_say 42 = .ok (.iadd, 1) := by decide +kernel
theorem dX5_say_43 : decode cX5_say 43 = .ok (.putfield 54, 3) := by decide +kernel
theorem dX5_say_46 : decode cX5_say 46 = .ok (.aload_n 0, 1) := by decide +kernel
theorem dX5_say_47 : decode cX5_say 47 = .ok (.getfield 54, 3) := by decide +kernel
theorem dX5_say_50 : decode cX5_say 50 = .ok (.ireturn, 1) := by decide +kernel
theorem dX5_wipe_0 : decode cX5_wipe 0 = .ok (.aload_n 0, 1) := by decide +kernel
theorem dX5_wipe_1 : decode cX5_wipe 1 = .ok (.getfield 54, 3) := by decide +kernel
theorem dX5_wipe_4 : decode cX5_wipe 4 = .ok (.istore_n 1, 1) := by decide +kernel
theorem dX5_wipe_5 : decode cX5_wipe 5 = .ok (.aload_n 0, 1) := by decide +kernel
theorem dX5_wipe_6 : decode cX5_wipe 6 = .ok (.iconst 0, 1) := by decide +kernel
theorem dX5_wipe_7 : decode cX5_wipe 7 = .ok (.putfield 54, 3) := by decide +kernel
theorem dX5_wipe_10 : decode cX5_wipe 10 = .ok (.iload_n 1, 1) := by decide +kernel
theorem dX5_wipe_11 : decode cX5_wipe 11 = .ok (.ireturn, 1) := by decide +kernel
theorem dX5_isFigure_0 : decode cX5_isFigure 0 = .ok (.aload_n 0, 1) := by decide +kernel
theorem dX5_isFigure_1 : decode cX5_isFigure 1 = .ok (.getfield 20, 3) := by decide +kernel
theorem dX5_isFigure_4 : decode cX5_isFigure 4 = .ok (.iload_n 1, 1) := by decide +kernel
theorem dX5_isFigure_5 : decode cX5_isFigure 5 = .ok (.iaload, 1) := by decide +kernel
theorem dX5_isFigure_6 : decode cX5_isFigure 6 = .ok (.bipush 48, 2) := by decide +kernel
theorem dX5_isFigure_8 : decode cX5_isFigure 8 = .ok (.iload_n 2, 1) := by decide +kernel
theorem dX5_isFigure_9 : decode cX5_isFigure 9 = .ok (.iadd, 1) := by decide +kernel
theorem dX5_isFigure_10 : decode cX5_isFigure 10 = .ok (.bipush 48, 2) := by decide +kernel
theorem dX5_isFigure_12 : decode cX5_isFigure 12 = .ok (.iload_n 3, 1) := by decide +kernel
theorem dX5_isFigure_13 : decode cX5_isFigure 13 = .ok (.iadd, 1) := by decide +kernel
theorem dX5_isFigure_14 : decode cX5_isFigure 14 = .ok (.invokestatic 50, 3) := by decide +kernel
theorem dX5_isFigure_17 : decode cX5_isFigure 17 = .ok (.ireturn, 1) := by decide +kernel
theorem dX5_lineFault_0 : decode cX5_lineFault 0 = .ok (.iconst 0, 1) := by decide +kernel
theorem dX5_lineFault_1 : decode cX5_lineFault 1 = .ok (.istore_n 1, 1) := by decide +kernel
theorem dX5_lineFault_2 : decode cX5_lineFault 2 = .ok (.iconst 0, 1) := by decide +kernel
theorem dX5_lineFault_3 : decode cX5_lineFault 3 = .ok (.istore_n 2, 1) := by decide +kernel
theorem dX5_lineFault_4 : decode cX5_lineFault 4 = .ok (.iload_n 2, 1) := by decide +kernel
theorem dX5_lineFault_5 : decode cX5_lineFault 5 = .ok (.aload_n 0, 1) := by decide +kernel
theorem dX5_lineFault_6 : decode cX5_lineFault 6 = .ok (.getfield 54, 3) := by decide +kernel
theorem dX5_lineFault_9 : decode cX5_lineFault 9 = .ok (.if_icmp .ge 90, 3) := by decide +kernel
theorem dX5_lineFault_12 : decode cX5_lineFault 12 = .ok (.aload_n 0, 1) := by decide +kernel
theorem dX5_lineFault_13 : decode cX5_lineFault 13 = .ok (.getfield 20, 3) := by decide +kernel
theorem dX5_lineFault_16 : decode cX5_lineFault 16 = .ok (.iload_n 2, 1) := by decide +kernel
theorem dX5_lineFault_17 : decode cX5_lineFault 17 = .ok (.iaload, 1) := by decide +kernel
theorem dX5_lineFault_18 : decode cX5_lineFault 18 = .ok (.bipush 45, 2) := by decide +kernel
theorem dX5_lineFault_20 : decode cX5_lineFault 20 = .ok (.if_icmp .ne 24, 3) := by decide +kernel
theorem dX5_lineFault_23 : decode cX5_lineFault 23 = .ok (.iload_n 2, 1) := by decide +kernel
theorem dX5_lineFault_24 : decode cX5_lineFault 24 = .ok (.ifCond .le 20, 3) := by decide +kernel
theorem dX5_lineFault_27 : decode cX5_lineFault 27 = .ok (.aload_n 0, 1) := by decide +kernel
theorem dX5_lineFault_28 : decode cX5_lineFault 28 = .ok (.getfield 20, 3) := by decide +kernel
theorem dX5_lineFault_31 : decode cX5_lineFault 31 = .ok (.iload_n 2, 1) := by decide +kernel
theorem dX5_lineFault_32 : decode cX5_lineFault 32 = .ok (.iconst 1, 1) := by decide +kernel
theorem dX5_lineFault_33 : decode cX5_lineFault 33 = .ok (.isub, 1) := by decide +kernel
theorem dX5_lineFault_34 : decode cX5_lineFault 34 = .ok (.iaload, 1) := by decide +kernel
theorem dX5_lineFault_35 : decode cX5_lineFault 35 = .ok (.bipush 45, 2) := by decide +kernel
theorem dX5_lineFault_37 : decode cX5_lineFault 37 = .ok (.if_icmp .eq 7, 3) := by decide +kernel
theorem dX5_lineFault_40 : decode cX5_lineFault 40 = .ok (.iconst 1, 1) := by decide +kernel
theorem dX5_lineFault_41 : decode cX5_lineFault 41 = .ok (.goto 4, 3) := by decide +kernel
theorem dX5_lineFault_44 : decode cX5_lineFault 44 = .ok (.iconst 0, 1) := by decide +kernel
theorem dX5_lineFault_45 : decode cX5_lineFault 45 = .ok (.istore_n 3, 1) := by decide +kernel
theorem dX5_lineFault_46 : decode cX5_lineFault 46 = .ok (.aload_n 0, 1) := by decide +kernel
theorem dX5_lineFault_47 : decode cX5_lineFault 47 = .ok (.iload_n 2, 1) := by decide +kernel
theorem dX5_lineFault_48 : decode cX5_lineFault 48 = .ok (.iconst 0, 1) := by decide +kernel
theorem dX5_lineFault_49 : decode cX5_lineFault 49 = .ok (.iconst 2, 1) := by decide +kernel
theorem dX5_lineFault_50 : decode cX5_lineFault 50 = .ok (.invokevirtual 58, 3) := by decide +kernel
theorem dX5_lineFault_53 : decode cX5_lineFault 53 = .ok (.ifCond .eq 13, 3) := by decide +kernel
theorem dX5_lineFault_56 : decode cX5_lineFault 56 = .ok (.iload_n 1, 1) := by decide +kernel
theorem dX5_lineFault_57 : decode cX5_lineFault 57 = .ok (.bipush 9, 2) := by decide +kernel
theorem dX5_lineFault_59 : decode cX5_lineFault 59 = .ok (.if_icmp .ge 7, 3) := by decide +kernel
theorem dX5_lineFault_62 : decode cX5_lineFault 62 = .ok (.iconst 1, 1) := by decide +kernel
theorem dX5_lineFault_63 : decode cX5_lineFault 63 = .ok (.goto 4, 3) := by decide +kernel
theorem dX5_lineFault_66 : decode cX5_lineFault 66 = .ok (.iconst 0, 1) := by decide +kernel
theorem dX5_lineFault_67 : decode cX5_lineFault 67 = .ok (.istore 4, 2) := by decide +kernel
theorem dX5_lineFault_69 : decode cX5_lineFault 69 = .ok (.iload_n 3, 1) := by decide +kernel
theorem dX5_lineFault_70 : decode cX5_lineFault 70 = .ok (.ifCond .ne 10, 3) := by decide +kernel
theorem dX5_lineFault_73 : decode cX5_lineFault 73 = .ok (.iload 4, 2) := by decide +kernel
theorem dX5_lineFault_75 : decode cX5_lineFault 75 = .ok (.ifCond .ne 5, 3) := by decide +kernel
theorem dX5_lineFault_78 : decode cX5_lineFault 78 = .ok (.iload_n 2, 1) := by decide +kernel
theorem dX5_lineFault_79 : decode cX5_lineFault 79 = .ok (.ireturn, 1) := by decide +kernel
theorem dX5_lineFault_80 : decode cX5_lineFault 80 = .ok (.iload_n 1, 1) := by decide +kernel
theorem dX5_lineFault_81 : decode cX5_lineFault 81 = .ok (.iload 4, 2) := by decide +kernel
theorem dX5_lineFault_83 : decode cX5_lineFault 83 = .ok (.ifCond .eq 7, 3) := by decide +kernel
theorem dX5_lineFault_86 : decode cX5_lineFault 86 = .ok (.iconst 1, 1) := by decide +kernel
theorem dX5_lineFault_87 : decode cX5_lineFault 87 = .ok (.goto 4, 3) := by decide +kernel
theorem dX5_lineFault_90 : decode cX5_lineFault 90 = .ok (.iconst 0, 1) := by decide +kernel
theorem dX5_lineFault_91 : decode cX5_lineFault 91 = .ok (.iadd, 1) := by decide +kernel
theorem dX5_lineFault_92 : decode cX5_lineFault 92 = .ok (.istore_n 1, 1) := by decide +kernel
theorem dX5_lineFault_93 : decode cX5_lineFault 93 = .ok (.iinc 2 1, 3) := by decide +kernel
theorem dX5_lineFault_96 : decode cX5_lineFault 96 = .ok (.goto (-92), 3) := by decide +kernel
theorem dX5_lineFault_99 : decode cX5_lineFault 99 = .ok (.bipush (-6), 2) := by decide +kernel
theorem dX5_lineFault_101 : decode cX5_lineFault 101 = .ok (.ireturn, 1) := by decide +kernel
theorem dX5_tuneFault_0 : decode cX5_tuneFault 0 = .ok (.iconst 0, 1) := by decide +kernel
theorem dX5_tuneFault_1 : decode cX5_tuneFault 1 = .ok (.istore_n 1, 1) := by decide +kernel
theorem dX5_tuneFault_2 : decode cX5_tuneFault 2 = .ok (.iload_n 1, 1) := by decide +kernel
theorem dX5_tuneFault_3 : decode cX5_tuneFault 3 = .ok (.aload_n 0, 1) := by decide +kernel
theorem dX5_tuneFault_4 : decode cX5_tuneFault 4 = .ok (.getfield 54, 3) := by decide +kernel
theorem dX5_tuneFault_7 : decode cX5_tuneFault 7 = .ok (.if_icmp .ge 53, 3) := by decide +kernel
theorem dX5_tuneFault_10 : decode cX5_tuneFault 10 = .ok (.iload_n 1, 1) := by decide +kernel
theorem dX5_tuneFault_11 : decode cX5_tuneFault 11 = .ok (.iconst 2, 1) := by decide +kernel
theorem dX5_tuneFault_12 : decode cX5_tuneFault 12 = .ok (.irem, 1) := by decide +kernel
theorem dX5_tuneFault_13 : decode cX5_tuneFault 13 = .ok (.ifCond .ne 27, 3) := by decide +kernel
theorem dX5_tuneFault_16 : decode cX5_tuneFault 16 = .ok (.aload_n 0, 1) := by decide +kernel
theorem dX5_tuneFault_17 : decode cX5_tuneFault 17 = .ok (.iload_n 1, 1) := by decide +kernel
theorem dX5_tuneFault_18 : decode cX5_tuneFault 18 = .ok (.iconst 0, 1) := by decide +kernel
theorem dX5_tuneFault_19 : decode cX5_tuneFault 19 = .ok (.iconst 2, 1) := by decide +kernel
theorem dX5_tuneFault_20 : decode cX5_tuneFault 20 = .ok (.invokevirtual 58, 3) := by decide +kernel
theorem dX5_tuneFault_23 : decode cX5_tuneFault 23 = .ok (.ifCond .eq 13, 3) := by decide +kernel
theorem dX5_tuneFault_26 : decode cX5_tuneFault 26 = .ok (.iload_n 1, 1) := by decide +kernel
theorem dX5_tuneFault_27 : decode cX5_tuneFault 27 = .ok (.bipush 22, 2) := by decide +kernel
theorem dX5_tuneFault_29 : decode cX5_tuneFault 29 = .ok (.if_icmp .ge 7, 3) := by decide +kernel
theorem dX5_tuneFault_32 : decode cX5_tuneFault 32 = .ok (.iconst 1, 1) := by decide +kernel
theorem dX5_tuneFault_33 : decode cX5_tuneFault 33 = .ok (.goto 14, 3) := by decide +kernel
theorem dX5_tuneFault_36 : decode cX5_tuneFault 36 = .ok (.iconst 0, 1) := by decide +kernel
theorem dX5_tuneFault_37 : decode cX5_tuneFault 37 = .ok (.goto 10, 3) := by decide +kernel
theorem dX5_tuneFault_40 : decode cX5_tuneFault 40 = .ok (.aload_n 0, 1) := by decide +kernel
theorem dX5_tuneFault_41 : decode cX5_tuneFault 41 = .ok (.iload_n 1, 1) := by decide +kernel
theorem dX5_tuneFault_42 : decode cX5_tuneFault 42 = .ok (.iconst 1, 1) := by decide +kernel
theorem dX5_tuneFault_43 : decode cX5_tuneFault 43 = .ok (.iconst 4, 1) := by decide +kernel
theorem dX5_tuneFault_44 : decode cX5_tuneFault 44 = .ok (.invokevirtual 58, 3) := by decide +kernel
theorem dX5_tuneFault_47 : decode cX5_tuneFault 47 = .ok (.istore_n 2, 1) := by decide +kernel
theorem dX5_tuneFault_48 : decode cX5_tuneFault 48 = .ok (.iload_n 2, 1) := by decide +kernel
theorem dX5_tuneFault_49 : decode cX5_tuneFault 49 = .ok (.ifCond .ne 5, 3) := by decide +kernel
theorem dX5_tuneFault_52 : decode cX5_tuneFault 52 = .ok (.iload_n 1, 1) := by decide +kernel
theorem dX5_tuneFault_53 : decode cX5_tuneFault 53 = .ok (.ireturn, 1) := by decide +kernel
theorem dX5_tuneFault_54 : decode cX5_tuneFault 54 = .ok (.iinc 1 1, 3) := by decide +kernel
theorem dX5_tuneFault_57 : decode cX5_tuneFault 57 = .ok (.goto (-55), 3) := by decide +kernel
theorem dX5_tuneFault_60 : decode cX5_tuneFault 60 = .ok (.aload_n 0, 1) := by decide +kernel
theorem dX5_tuneFault_61 : decode cX5_tuneFault 61 = .ok (.getfield 54, 3) := by decide +kernel
theorem dX5_tuneFault_64 : decode cX5_tuneFault 64 = .ok (.iconst 2, 1) := by decide +kernel
theorem dX5_tuneFault_65 : decode cX5_tuneFault 65 = .ok (.irem, 1) := by decide +kernel
theorem dX5_tuneFault_66 : decode cX5_tuneFault 66 = .ok (.ifCond .ne 8, 3) := by decide +kernel
theorem dX5_tuneFault_69 : decode cX5_tuneFault 69 = .ok (.bipush (-6), 2) := by decide +kernel
theorem dX5_tuneFault_71 : decode cX5_tuneFault 71 = .ok (.goto 7, 3) := by decide +kernel
theorem dX5_tuneFault_74 : decode cX5_tuneFault 74 = .ok (.aload_n 0, 1) := by decide +kernel
theorem dX5_tuneFault_75 : decode cX5_tuneFault 75 = .ok (.getfield 54, 3) := by decide +kernel
theorem dX5_tuneFault_78 : decode cX5_tuneFault 78 = .ok (.ireturn, 1) := by decide +kernel
theorem dX5_fault_0 : decode cX5_fault 0 = .ok (.iload_n 1, 1) := by decide +kernel
theorem dX5_fault_1 : decode cX5_fault 1 = .ok (.ifCond .ne 10, 3) := by decide +kernel
theorem dX5_fault_4 : decode cX5_fault 4 = .ok (.aload_n 0, 1) := by decide +kernel
theorem dX5_fault_5 : decode cX5_fault 5 = .ok (.invokevirtual 61, 3) := by decide +kernel
theorem dX5_fault_8 : decode cX5_fault 8 = .ok (.goto 17, 3) := by decide +kernel
theorem dX5_fault_11 : decode cX5_fault 11 = .ok (.iload_n 1, 1) := by decide +kernel
theorem dX5_fault_12 : decode cX5_fault 12 = .ok (.iconst 1, 1) := by decide +kernel
theorem dX5_fault_13 : decode cX5_fault 13 = .ok (.if_icmp .ne 10, 3) := by decide +kernel
theorem dX5_fault_16 : decode cX5_fault 16 = .ok (.aload_n 0, 1) := by decide +kernel
theorem dX5_fault_17 : decode cX5_fault 17 = .ok (.invokevirtual 65, 3) := by decide +kernel
theorem dX5_fault_20 : decode cX5_fault 20 = .ok (.goto 5, 3) := by decide +kernel
theorem dX5_fault_23 : decode cX5_fault 23 = .ok (.bipush (-2), 2) := by decide +kernel
theorem dX5_fault_25 : decode cX5_fault 25 = .ok (.ireturn, 1) := by decide +kernel
theorem dX5_line_0 : decode cX5_line 0 = .ok (.iload_n 1, 1) := by decide +kernel
theorem dX5_line_1 : decode cX5_line 1 = .ok (.invokestatic 68, 3) := by decide +kernel
theorem dX5_line_4 : decode cX5_line 4 = .ok (.ifCond .ne 5, 3) := by decide +kernel
theorem dX5_line_7 : decode cX5_line 7 = .ok (.iconst (-1), 1) := by decide +kernel
theorem dX5_line_8 : decode cX5_line 8 = .ok (.ireturn, 1) := by decide +kernel
theorem dX5_line_9 : decode cX5_line 9 = .ok (.aload_n 0, 1) := by decide +kernel
theorem dX5_line_10 : decode cX5_line 10 = .ok (.invokevirtual 61, 3) := by decide +kernel
theorem dX5_line_13 : decode cX5_line 13 = .ok (.ifCond .lt 6, 3) := by decide +kernel
theorem dX5_line_16 : decode cX5_line 16 = .ok (.bipush (-7), 2) := by decide +kernel
theorem dX5_line_18 : decode cX5_line 18 = .ok (.ireturn, 1) := by decide +kernel
theorem dX5_line_19 : decode cX5_line 19 = .ok (.iconst 0, 1) := by decide +kernel
theorem dX5_line_20 : decode cX5_line 20 = .ok (.istore_n 2, 1) := by decide +kernel
theorem dX5_line_21 : decode cX5_line 21 = .ok (.iconst 0, 1) := by decide +kernel
theorem dX5_line_22 : decode cX5_line 22 = .ok (.istore_n 3, 1) := by decide +kernel
theorem dX5_line_23 : decode cX5_line 23 = .ok (.iload_n 3, 1) := by decide +kernel
theorem dX5_line_24 : decode cX5_line 24 = .ok (.aload_n 0, 1) := by decide +kernel
theorem dX5_line_25 : decode cX5_line 25 = .ok (.getfield 54, 3) := by decide +kernel
theorem dX5_line_28 : decode cX5_line 28 = .ok (.if_icmp .ge 80, 3) := by decide +kernel
theorem dX5_line_31 : decode cX5_line 31 = .ok (.aload_n 0, 1) := by decide +kernel
theorem dX5_line_32 : decode cX5_line 32 = .ok (.getfield 20, 3) := by decide +kernel
theorem dX5_line_35 : decode cX5_line 35 = .ok (.iload_n 3, 1) := by decide +kernel
theorem dX5_line_36 : decode cX5_line 36 = .ok (.iaload, 1) := by decide +kernel
theorem dX5_line_37 : decode cX5_line 37 = .ok (.bipush 45, 2) := by decide +kernel
theorem dX5_line_39 : decode cX5_line 39 = .ok (.if_icmp .ne 23, 3) := by decide +kernel
theorem dX5_line_42 : decode cX5_line 42 = .ok (.aload_n 0, 1) := by decide +kernel
theorem dX5_line_43 : decode cX5_line 43 = .ok (.getfield 7, 3) := by decide +kernel
theorem dX5_line_46 : decode cX5_line 46 = .ok (.bipush 30, 2) := by decide +kernel
theorem dX5_line_48 : decode cX5_line 48 = .ok (.bipush 9, 2) := by decide +kernel
theorem dX5_line_50 : decode cX5_line 50 = .ok (.iload_n 1, 1) := by decide +kernel
theorem dX5_line_51 : decode cX5_line 51 = .ok (.imul, 1) := by decide +kernel
theorem dX5_line_52 : decode cX5_line 52 = .ok (.iadd, 1) := by decide +kernel
theorem dX5_line_53 : decode cX5_line 53 = .ok (.iload_n 2, 1) := by decide +kernel
theorem dX5_line_54 : decode cX5_line 54 = .ok (.iadd, 1) := by decide +kernel
theorem dX5_line_55 : decode cX5_line 55 = .ok (.iconst 1, 1) := by decide +kernel
theorem dX5_line_56 : decode cX5_line 56 = .ok (.isub, 1) := by decide +kernel
theorem dX5_line_57 : decode cX5_line 57 = .ok (.iconst 1, 1) := by decide +kernel
theorem dX5_line_58 : decode cX5_line 58 = .ok (.iastore, 1) := by decide +kernel
theorem dX5_line_59 : decode cX5_line 59 = .ok (.goto 43, 3) := by decide +kernel
theorem dX5_line_62 : decode cX5_line 62 = .ok (.aload_n 0, 1) := by decide +kernel
theorem dX5_line_63 : decode cX5_line 63 = .ok (.getfield 7, 3) := by decide +kernel
theorem dX5_line_66 : decode cX5_line 66 = .ok (.iconst 3, 1) := by decide +kernel
theorem dX5_line_67 : decode cX5_line 67 = .ok (.bipush 9, 2) := by decide +kernel
theorem dX5_line_69 : decode cX5_line 69 = .ok (.iload_n 1, 1) := by decide +kernel
theorem dX5_line_70 : decode cX5_line 70 = .ok (.imul, 1) := by decide +kernel
theorem dX5_line_71 : decode cX5_line 71 = .ok (.iadd, 1) := by decide +kernel
theorem dX5_line_72 : decode cX5_line 72 = .ok (.iload_n 2, 1) := by decide +kernel
theorem dX5_line_73 : decode cX5_line 73 = .ok (.iadd, 1) := by decide +kernel
theorem dX5_line_74 : decode cX5_line 74 = .ok (.aload_n 0, 1) := by decide +kernel
theorem dX5_line_75 : decode cX5_line 75 = .ok (.getfield 20, 3) := by decide +kernel
theorem dX5_line_78 : decode cX5_line 78 = .ok (.iload_n 3, 1) := by decide +kernel
theorem dX5_line_79 : decode cX5_line 79 = .ok (.iaload, 1) := by decide +kernel
theorem dX5_line_80 : decode cX5_line 80 = .ok (.bipush 48, 2) := by decide +kernel
theorem dX5_line_82 : decode cX5_line 82 = .ok (.isub, 1) := by decide +kernel
theorem dX5_line_83 : decode cX5_line 83 = .ok (.iastore, 1) := by decide +kernel
theorem dX5_line_84 : decode cX5_line 84 = .ok (.aload_n 0, 1) := by decide +kernel
theorem dX5_line_85 : decode cX5_line 85 = .ok (.getfield 7, 3) := by decide +kernel
theorem dX5_line_88 : decode cX5_line 88 = .ok (.bipush 30, 2) := by decide +kernel
theorem dX5_line_90 : decode cX5_line 90 = .ok (.bipush 9, 2) := by decide +kernel
theorem dX5_line_92 : decode cX5_line 92 = .ok (.iload_n 1, 1) := by decide +kernel
theorem dX5_line_93 : decode cX5_line 93 = .ok (.imul, 1) := by decide +kernel
theorem dX5_line_94 : decode cX5_line 94 = .ok (.iadd, 1) := by decide +kernel
theorem dX5_line_95 : decode cX5_line 95 = .ok (.iload_n 2, 1) := by decide +kernel
theorem dX5_line_96 : decode cX5_line 96 = .ok (.iadd, 1) := by decide +kernel
theorem dX5_line_97 : decode cX5_line 97 = .ok (.iconst 0, 1) := by decide +kernel
theorem dX5_line_98 : decode cX5_line 98 = .ok (.iastore, 1) := by decide +kernel
theorem dX5_line_99 : decode cX5_line 99 = .ok (.iinc 2 1, 3) := by decide +kernel
theorem dX5_line_102 : decode cX5_line 102 = .ok (.iinc 3 1, 3) := by decide +kernel
theorem dX5_line_105 : decode cX5_line 105 = .ok (.goto (-82), 3) := by decide +kernel
theorem dX5_line_108 : decode cX5_line 108 = .ok (.aload_n 0, 1) := by decide +kernel
theorem dX5_line_109 : decode cX5_line 109 = .ok (.getfield 7, 3) := by decide +kernel
theorem dX5_line_112 : decode cX5_line 112 = .ok (.iconst 0, 1) := by decide +kernel
theorem dX5_line_113 : decode cX5_line 113 = .ok (.iload_n 1, 1) := by decide +kernel
theorem dX5_line_114 : decode cX5_line 114 = .ok (.iadd, 1) := by decide +kernel
theorem dX5_line_115 : decode cX5_line 115 = .ok (.iload_n 2, 1) := by decide +kernel
theorem dX5_line_116 : decode cX5_line 116 = .ok (.iastore, 1) := by decide +kernel
theorem dX5_line_117 : decode cX5_line 117 = .ok (.aload_n 0, 1) := by decide +kernel
theorem dX5_line_118 : decode cX5_line 118 = .ok (.iconst 0, 1) := by decide +kernel
theorem dX5_line_119 : decode cX5_line 119 = .ok (.putfield 54, 3) := by decide +kernel
theorem dX5_line_122 : decode cX5_line 122 = .ok (.iload_n 2, 1) := by decide +kernel
theorem dX5_line_123 : decode cX5_line 123 = .ok (.ireturn, 1) := by decide +kernel
theorem dX5_tune_0 : decode cX5_tune 0 = .ok (.iload_n 1, 1) := by decide +kernel
theorem dX5_tune_1 : decode cX5_tune 1 = .ok (.invokestatic 72, 3) := by decide +kernel
theorem dX5_tune_4 : decode cX5_tune 4 = .ok (.ifCond .ne 5, 3) := by decide +kernel
theorem dX5_tune_7 : decode cX5_tune 7 = .ok (.iconst (-1), 1) := by decide +kernel
theorem dX5_tune_8 : decode cX5_tune 8 = .ok (.ireturn, 1) := by decide +kernel
theorem dX5_tune_9 : decode cX5_tune 9 = .ok (.aload_n 0, 1) := by decide +kernel
theorem dX5_tune_10 : decode cX5_tune 10 = .ok (.invokevirtual 65, 3) := by decide +kernel
theorem dX5_tune_13 : decode cX5_tune 13 = .ok (.ifCond .lt 6, 3) := by decide +kernel
theorem dX5_tune_16 : decode cX5_tune 16 = .ok (.bipush (-7), 2) := by decide +kernel
theorem dX5_tune_18 : decode cX5_tune 18 = .ok (.ireturn, 1) := by decide +kernel
theorem dX5_tune_19 : decode cX5_tune 19 = .ok (.aload_n 0, 1) := by decide +kernel
theorem dX5_tune_20 : decode cX5_tune 20 = .ok (.getfield 54, 3) := by decide +kernel
theorem dX5_tune_23 : decode cX5_tune 23 = .ok (.iconst 2, 1) := by decide +kernel
theorem dX5_tune_24 : decode cX5_tune 24 = .ok (.idiv, 1) := by decide +kernel
theorem dX5_tune_25 : decode cX5_tune 25 = .ok (.istore_n 2, 1) := by decide +kernel
theorem dX5_tune_26 : decode cX5_tune 26 = .ok (.iconst 0, 1) := by decide +kernel
theorem dX5_tune_27 : decode cX5_tune 27 = .ok (.istore_n 3, 1) := by decide +kernel
theorem dX5_tune_28 : decode cX5_tune 28 = .ok (.iload_n 3, 1) := by decide +kernel
theorem dX5_tune_29 : decode cX5_tune 29 = .ok (.iload_n 2, 1) := by decide +kernel
theorem dX5_tune_30 : decode cX5_tune 30 = .ok (.if_icmp .ge 61, 3) := by decide +kernel
theorem dX5_tune_33 : decode cX5_tune 33 = .ok (.aload_n 0, 1) := by decide +kernel
theorem dX5_tune_34 : decode cX5_tune 34 = .ok (.getfield 7, 3) := by decide +kernel
theorem dX5_tune_37 : decode cX5_tune 37 = .ok (.bipush 61, 2) := by decide +kernel
theorem dX5_tune_39 : decode cX5_tune 39 = .ok (.bipush 11, 2) := by decide +kernel
theorem dX5_tune_41 : decode cX5_tune 41 = .ok (.iload_n 1, 1) := by decide +kernel
theorem dX5_tune_42 : decode cX5_tune 42 = .ok (.imul, 1) := by decide +kernel
theorem dX5_tune_43 : decode cX5_tune 43 = .ok (.iadd, 1) := by decide +kernel
theorem dX5_tune_44 : decode cX5_tune 44 = .ok (.iload_n 3, 1) := by decide +kernel
theorem dX5_tune_45 : decode cX5_tune 45 = .ok (.iadd, 1) := by decide +kernel
theorem dX5_tune_46 : decode cX5_tune 46 = .ok (.aload_n 0, 1) := by decide +kernel
theorem dX5_tune_47 : decode cX5_tune 47 = .ok (.getfield 20, 3) := by decide +kernel
theorem dX5_tune_50 : decode cX5_tune 50 = .ok (.iconst 2, 1) := by decide +kernel
theorem dX5_tune_51 : decode cX5_tune 51 = .ok (.iload_n 3, 1) := by decide +kernel
theorem dX5_tune_52 : decode cX5_tune 52 = .ok (.imul, 1) := by decide +kernel
theorem dX5_tune_53 : decode cX5_tune 53 = .ok (.iaload, 1) := by decide +kernel
theorem dX5_tune_54 : decode cX5_tune 54 = .ok (.bipush 48, 2) := by decide +kernel
theorem dX5_tune_56 : decode cX5_tune 56 = .ok (.isub, 1) := by decide +kernel
theorem dX5_tune_57 : decode cX5_tune 57 = .ok (.iastore, 1) := by decide +kernel
theorem dX5_tune_58 : decode cX5_tune 58 = .ok (.aload_n 0, 1) := by decide +kernel
theorem dX5_tune_59 : decode cX5_tune 59 = .ok (.getfield 7, 3) := by decide +kernel
theorem dX5_tune_62 : decode cX5_tune 62 = .ok (.bipush 105, 2) := by decide +kernel
theorem dX5_tune_64 : decode cX5_tune 64 = .ok (.bipush 11, 2) := by decide +kernel
theorem dX5_tune_66 : decode cX5_tune 66 = .ok (.iload_n 1, 1) := by decide +kernel
theorem dX5_tune_67 : decode cX5_tune 67 = .ok (.imul, 1) := by decide +kernel
theorem dX5_tune_68 : decode cX5_tune 68 = .ok (.iadd, 1) := by decide +kernel
theorem dX5_tune_69 : decode cX5_tune 69 = .ok (.iload_n 3, 1) := by decide +kernel
theorem dX5_tune_70 : decode cX5_tune 70 = .ok (.iadd, 1) := by decide +kernel
theorem dX5_tune_71 : decode cX5_tune 71 = .ok (.aload_n 0, 1) := by decide +kernel
theorem dX5_tune_72 : decode cX5_tune 72 = .ok (.getfield 20, 3) := by decide +kernel
theorem dX5_tune_75 : decode cX5_tune 75 = .ok (.iconst 2, 1) := by decide +kernel
theorem dX5_tune_76 : decode cX5_tune 76 = .ok (.iload_n 3, 1) := by decide +kernel
theorem dX5_tune_77 : decode cX5_tune 77 = .ok (.imul, 1) := by decide +kernel
theorem dX5_tune_78 : decode cX5_tune 78 = .ok (.iconst 1, 1) := by decide +kernel
theorem dX5_tune_79 : decode cX5_tune 79 = .ok (.iadd, 1) := by decide +kernel
theorem dX5_tune_80 : decode cX5_tune 80 = .ok (.iaload, 1) := by decide +kernel
theorem dX5_tune_81 : decode cX5_tune 81 = .ok (.bipush 48, 2) := by decide +kernel
theorem dX5_tune_83 : decode cX5_tune 83 = .ok (.isub, 1) := by decide +kernel
theorem dX5_tune_84 : decode cX5_tune 84 = .ok (.iastore, 1) := by decide +kernel
theorem dX5_tune_85 : decode cX5_tune 85 = .ok (.iinc 3 1, 3) := by decide +kernel
theorem dX5_tune_88 : decode cX5_tune 88 = .ok (.goto (-60), 3) := by decide +kernel
theorem dX5_tune_91 : decode cX5_tune 91 = .ok (.aload_n 0, 1) := by decide +kernel
theorem dX5_tune_92 : decode cX5_tune 92 = .ok (.getfield 7, 3) := by decide +kernel
theorem dX5_tune_95 : decode cX5_tune 95 = .ok (.bipush 57, 2) := by decide +kernel
theorem dX5_tune_97 : decode cX5_tune 97 = .ok (.iload_n 1, 1) := by decide +kernel
theorem dX5_tune_98 : decode cX5_tune 98 = .ok (.iadd, 1) := by decide +kernel
theorem dX5_tune_99 : decode cX5_tune 99 = .ok (.iload_n 2, 1) := by decide +kernel
theorem dX5_tune_100 : decode cX5_tune 100 = .ok (.iastore, 1) := by decide +kernel
theorem dX5_tune_101 : decode cX5_tune 101 = .ok (.aload_n 0, 1) := by decide +kernel
theorem dX5_tune_102 : decode cX5_tune 102 = .ok (.iconst 0, 1) := by decide +kernel
theorem dX5_tune_103 : decode cX5_tune 103 = .ok (.putfield 54, 3) := by decide +kernel
theorem dX5_tune_106 : decode cX5_tune 106 = .ok (.iload_n 2, 1) := by decide +kernel
theorem dX5_tune_107 : decode cX5_tune 107 = .ok (.ireturn, 1) := by decide +kernel
theorem dX5_rule_0 : decode cX5_rule 0 = .ok (.iload_n 1, 1) := by decide +kernel
theorem dX5_rule_1 : decode cX5_rule 1 = .ok (.iconst 0, 1) := by decide +kernel
theorem dX5_rule_2 : decode cX5_rule 2 = .ok (.iconst 3, 1) := by decide +kernel
theorem dX5_rule_3 : decode cX5_rule 3 = .ok (.invokestatic 50, 3) := by decide +kernel
theorem dX5_rule_6 : decode cX5_rule 6 = .ok (.ifCond .eq 13, 3) := by decide +kernel
theorem dX5_rule_9 : decode cX5_rule 9 = .ok (.iload_n 2, 1) := by decide +kernel
theorem dX5_rule_10 : decode cX5_rule 10 = .ok (.iconst 0, 1) := by decide +kernel
theorem dX5_rule_11 : decode cX5_rule 11 = .ok (.bipush 9, 2) := by decide +kernel
theorem dX5_rule_13 : decode cX5_rule 13 = .ok (.invokestatic 50, 3) := by decide +kernel
theorem dX5_rule_16 : decode cX5_rule 16 = .ok (.ifCond .ne 6, 3) := by decide +kernel
theorem dX5_rule_19 : decode cX5_rule 19 = .ok (.bipush (-2), 2) := by decide +kernel
theorem dX5_rule_21 : decode cX5_rule 21 = .ok (.ireturn, 1) := by decide +kernel
theorem dX5_rule_22 : decode cX5_rule 22 = .ok (.aload_n 0, 1) := by decide +kernel
theorem dX5_rule_23 : decode cX5_rule 23 = .ok (.getfield 7, 3) := by decide +kernel
theorem dX5_rule_26 : decode cX5_rule 26 = .ok (.sipush 149, 3) := by decide +kernel
theorem dX5_rule_29 : decode cX5_rule 29 = .ok (.iload_n 1, 1) := by decide +kernel
theorem dX5_rule_30 : decode cX5_rule 30 = .ok (.iadd, 1) := by decide +kernel
theorem dX5_rule_31 : decode cX5_rule 31 = .ok (.iaload, 1) := by decide +kernel
theorem dX5_rule_32 : decode cX5_rule 32 = .ok (.istore_n 3, 1) := by decide +kernel
theorem dX5_rule_33 : decode cX5_rule 33 = .ok (.aload_n 0, 1) := by decide +kernel
theorem dX5_rule_34 : decode cX5_rule 34 = .ok (.getfield 7, 3) := by decide +kernel
theorem dX5_rule_37 : decode cX5_rule 37 = .ok (.sipush 149, 3) := by decide +kernel
theorem dX5_rule_40 : decode cX5_rule 40 = .ok (.iload_n 1, 1) := by decide +kernel
theorem dX5_rule_41 : decode cX5_rule 41 = .ok (.iadd, 1) := by decide +kernel
theorem dX5_rule_42 : decode cX5_rule 42 = .ok (.iload_n 2, 1) := by decide +kernel
theorem dX5_rule_43 : decode cX5_rule 43 = .ok (.iastore, 1) := by decide +kernel
theorem dX5_rule_44 : decode cX5_rule 44 = .ok (.iload_n 3, 1) := by decide +kernel
theorem dX5_rule_45 : decode cX5_rule 45 = .ok (.ireturn, 1) := by decide +kernel
theorem dX5_syllable_0 : decode cX5_syllable 0 = .ok (.iload_n 1, 1) := by decide +kernel
theorem dX5_syllable_1 : decode cX5_syllable 1 = .ok (.invokestatic 68, 3) := by decide +kernel
theorem dX5_syllable_4 : decode cX5_syllable 4 = .ok (.ifCond .ne 5, 3) := by decide +kernel
theorem dX5_syllable_7 : decode cX5_syllable 7 = .ok (.iconst (-1), 1) := by decide +kernel
theorem dX5_syllable_8 : decode cX5_syllable 8 = .ok (.ireturn, 1) := by decide +kernel
theorem dX5_syllable_9 : decode cX5_syllable 9 = .ok (.iload_n 3, 1) := by decide +kernel
theorem dX5_syllable_10 : decode cX5_syllable 10 = .ok (.iconst 0, 1) := by decide +kernel
theorem dX5_syllable_11 : decode cX5_syllable 11 = .ok (.iconst 1, 1) := by decide +kernel
theorem dX5_syllable_12 : decode cX5_syllable 12 = .ok (.invokestatic 50, 3) := by decide +kernel
theorem dX5_syllable_15 : decode cX5_syllable 15 = .ok (.ifCond .ne 6, 3) := by decide +kernel
theorem dX5_syllable_18 : decode cX5_syllable 18 = .ok (.bipush (-2), 2) := by decide +kernel
theorem dX5_syllable_20 : decode cX5_syllable 20 = .ok (.ireturn, 1) := by decide +kernel
theorem dX5_syllable_21 : decode cX5_syllable 21 = .ok (.iload_n 2, 1) := by decide +kernel
theorem dX5_syllable_22 : decode cX5_syllable 22 = .ok (.iconst (-1), 1) := by decide +kernel
theorem dX5_syllable_23 : decode cX5_syllable 23 = .ok (.if_icmp .ne 12, 3) := by decide +kernel
theorem dX5_syllable_26 : decode cX5_syllable 26 = .ok (.aload_n 0, 1) := by decide +kernel
theorem dX5_syllable_27 : decode cX5_syllable 27 = .ok (.getfield 7, 3) := by decide +kernel
theorem dX5_syllable_30 : decode cX5_syllable 30 = .ok (.iconst 0, 1) := by decide +kernel
theorem dX5_syllable_31 : decode cX5_syllable 31 = .ok (.iload_n 1, 1) := by decide +kernel
theorem dX5_syllable_32 : decode cX5_syllable 32 = .ok (.iadd, 1) := by decide +kernel
theorem dX5_syllable_33 : decode cX5_syllable 33 = .ok (.iaload, 1) := by decide +kernel
theorem dX5_syllable_34 : decode cX5_syllable 34 = .ok (.ireturn, 1) := by decide +kernel
theorem dX5_syllable_35 : decode cX5_syllable 35 = .ok (.iload_n 2, 1) := by decide +kernel
theorem dX5_syllable_36 : decode cX5_syllable 36 = .ok (.iconst 0, 1) := by decide +kernel
theorem dX5_syllable_37 : decode cX5_syllable 37 = .ok (.aload_n 0, 1) := by decide +kernel
theorem dX5_syllable_38 : decode cX5_syllable 38 = .ok (.getfield 7, 3) := by decide +kernel
theorem dX5_syllable_41 : decode cX5_syllable 41 = .ok (.iconst 0, 1) := by decide +kernel
theorem dX5_syllable_42 : decode cX5_syllable 42 = .ok (.iload_n 1, 1) := by decide +kernel
theorem dX5_syllable_43 : decode cX5_syllable 43 = .ok (.iadd, 1) := by decide +kernel
theorem dX5_syllable_44 : decode cX5_syllable 44 = .ok (.iaload, 1) := by decide +kernel
theorem dX5_syllable_45 : decode cX5_syllable 45 = .ok (.iconst 1, 1) := by decide +kernel
theorem dX5_syllable_46 : decode cX5_syllable 46 = .ok (.isub, 1) := by decide +kernel
theorem dX5_syllable_47 : decode cX5_syllable 47 = .ok (.invokestatic 50, 3) := by decide +kernel
theorem dX5_syllable_50 : decode cX5_syllable 50 = .ok (.ifCond .eq 28, 3) := by decide +kernel
theorem dX5_syllable_53 : decode cX5_syllable 53 = .ok (.aload_n 0, 1) := by decide +kernel
theorem dX5_syllable_54 : decode cX5_syllable 54 = .ok (.getfield 7, 3) := by decide +kernel
theorem dX5_syllable_57 : decode cX5_syllable 57 = .ok (.iload_n 3, 1) := by decide +kernel
theorem dX5_syllable_58 : decode cX5_syllable 58 = .ok (.ifCond .ne 7, 3) := by decide +kernel
theorem dX5_syllable_61 : decode cX5_syllable 61 = .ok (.iconst 3, 1) := by decide +kernel
theorem dX5_syllable_62 : decode cX5_syllable 62 = .ok (.goto 5, 3) := by decide +kernel
theorem dX5_syllable_65 : decode cX5_syllable 65 = .ok (.bipush 30, 2) := by decide +kernel
theorem dX5_syllable_67 : decode cX5_syllable 67 = .ok (.bipush 9, 2) := by decide +kernel
theorem dX5_syllable_69 : decode cX5_syllable 69 = .ok (.iload_n 1, 1) := by decide +kernel
theorem dX5_syllable_70 : decode cX5_syllable 70 = .ok (.imul, 1) := by decide +kernel
theorem dX5_syllable_71 : decode cX5_syllable 71 = .ok (.iadd, 1) := by decide +kernel
theorem dX5_syllable_72 : decode cX5_syllable 72 = .ok (.iload_n 2, 1) := by decide +kernel
theorem dX5_syllable_73 : decode cX5_syllable 73 = .ok (.iadd, 1) := by decide +kernel
theorem dX5_syllable_74 : decode cX5_syllable 74 = .ok (.iaload, 1) := by decide +kernel
theorem dX5_syllable_75 : decode cX5_syllable 75 = .ok (.goto 5, 3) := by decide +kernel
theorem dX5_syllable_78 : decode cX5_syllable 78 = .ok (.bipush (-6), 2) := by decide +kernel
theorem dX5_syllable_80 : decode cX5_syllable 80 = .ok (.ireturn, 1) := by decide +kernel
theorem dX5_note_0 : decode cX5_note 0 = .ok (.iload_n 1, 1) := by decide +kernel
theorem dX5_note_1 : decode cX5_note 1 = .ok (.invokestatic 72, 3) := by decide +kernel
theorem dX5_note_4 : decode cX5_note 4 = .ok (.ifCond .ne 5, 3) := by decide +kernel
theorem dX5_note_7 : decode cX5_note 7 = .ok (.iconst (-1), 1) := by decide +kernel
theorem dX5_note_8 : decode cX5_note 8 = .ok (.ireturn, 1) := by decide +kernel
theorem dX5_note_9 : decode cX5_note 9 = .ok (.iload_n 3, 1) := by decide +kernel
theorem dX5_note_10 : decode cX5_note 10 = .ok (.iconst 0, 1) := by decide +kernel
theorem dX5_note_11 : decode cX5_note 11 = .ok (.iconst 1, 1) := by decide +kernel
theorem dX5_note_12 : decode cX5_note 12 = .ok (.invokestatic 50, 3) := by decide +kernel
theorem dX5_note_15 : decode cX5_note 15 = .ok (.ifCond .ne 6, 3) := by decide +kernel
theorem dX5_note_18 : decode cX5_note 18 = .ok (.bipush (-2), 2) := by decide +kernel
theorem dX5_note_20 : decode cX5_note 20 = .ok (.ireturn, 1) := by decide +kernel
theorem dX5_note_21 : decode cX5_note 21 = .ok (.iload_n 2, 1) := by decide +kernel
theorem dX5_note_22 : decode cX5_note 22 = .ok (.iconst (-1), 1) := by decide +kernel
theorem dX5_note_23 : decode cX5_note 23 = .ok (.if_icmp .ne 13, 3) := by decide +kernel
theorem dX5_note_26 : decode cX5_note 26 = .ok (.aload_n 0, 1) := by decide +kernel
theorem dX5_note_27 : decode cX5_note 27 = .ok (.getfield 7, 3) := by decide +kernel
theorem dX5_note_30 : decode cX5_note 30 = .ok (.bipush 57, 2) := by decide +kernel
theorem dX5_note_32 : decode cX5_note 32 = .ok (.iload_n 1, 1) := by decide +kernel
theorem dX5_note_33 : decode cX5_note 33 = .ok (.iadd, 1) := by decide +kernel
theorem dX5_note_34 : decode cX5_note 34 = .ok (.iaload, 1) := by decide +kernel
theorem dX5_note_35 : decode cX5_note 35 = .ok (.ireturn, 1) := by decide +kernel
theorem dX5_note_36 : decode cX5_note 36 = .ok (.iload_n 2, 1) := by decide +kernel
theorem dX5_note_37 : decode cX5_note 37 = .ok (.iconst 0, 1) := by decide +kernel
theorem dX5_note_38 : decode cX5_note 38 = .ok (.aload_n 0, 1) := by decide +kernel
theorem dX5_note_39 : decode cX5_note 39 = .ok (.getfield 7, 3) := by decide +kernel
theorem dX5_note_42 : decode cX5_note 42 = .ok (.bipush 57, 2) := by decide +kernel
theorem dX5_note_44 : decode cX5_note 44 = .ok (.iload_n 1, 1) := by decide +kernel
theorem dX5_note_45 : decode cX5_note 45 = .ok (.iadd, 1) := by decide +kernel
theorem dX5_note_46 : decode cX5_note 46 = .ok (.iaload, 1) := by decide +kernel
theorem dX5_note_47 : decode cX5_note 47 = .ok (.iconst 1, 1) := by decide +kernel
theorem dX5_note_48 : decode cX5_note 48 = .ok (.isub, 1) := by decide +kernel
theorem dX5_note_49 : decode cX5_note 49 = .ok (.invokestatic 50, 3) := by decide +kernel
theorem dX5_note_52 : decode cX5_note 52 = .ok (.ifCond .eq 29, 3) := by decide +kernel
theorem dX5_note_55 : decode cX5_note 55 = .ok (.aload_n 0, 1) := by decide +kernel
theorem dX5_note_56 : decode cX5_note 56 = .ok (.getfield 7, 3) := by decide +kernel
theorem dX5_note_59 : decode cX5_note 59 = .ok (.iload_n 3, 1) := by decide +kernel
theorem dX5_note_60 : decode cX5_note 60 = .ok (.ifCond .ne 8, 3) := by decide +kernel
theorem dX5_note_63 : decode cX5_note 63 = .ok (.bipush 61, 2) := by decide +kernel
theorem dX5_note_65 : decode cX5_note 65 = .ok (.goto 5, 3) := by decide +kernel
theorem dX5_note_68 : decode cX5_note 68 = .ok (.bipush 105, 2) := by decide +kernel
theorem dX5_note_70 : decode cX5_note 70 = .ok (.bipush 11, 2) := by decide +kernel
theorem dX5_note_72 : decode cX5_note 72 = .ok (.iload_n 1, 1) := by decide +kernel
theorem dX5_note_73 : decode cX5_note 73 = .ok (.imul, 1) := by decide +kernel
theorem dX5_note_74 : decode cX5_note 74 = .ok (.iadd, 1) := by decide +kernel
theorem dX5_note_75 : decode cX5_note 75 = .ok (.iload_n 2, 1) := by decide +kernel
theorem dX5_note_76 : decode cX5_note 76 = .ok (.iadd, 1) := by decide +kernel
theorem dX5_note_77 : decode cX5_note 77 = .ok (.iaload, 1) := by decide +kernel
theorem dX5_note_78 : decode cX5_note 78 = .ok (.goto 5, 3) := by decide +kernel
theorem dX5_note_81 : decode cX5_note 81 = .ok (.bipush (-6), 2) := by decide +kernel
theorem dX5_note_83 : decode cX5_note 83 = .ok (.ireturn, 1) := by decide +kernel
theorem dX5_lay_0 : decode cX5_lay 0 = .ok (.aload_n 0, 1) := by decide +kernel
theorem dX5_lay_1 : decode cX5_lay 1 = .ok (.aload_n 0, 1) := by decide +kernel
theorem dX5_lay_2 : decode cX5_lay 2 = .ok (.getfield 7, 3) := by decide +kernel
theorem dX5_lay_5 : decode cX5_lay 5 = .ok (.iconst 0, 1) := by decide +kernel
theorem dX5_lay_6 : decode cX5_lay 6 = .ok (.iload_n 1, 1) := by decide +kernel
theorem dX5_lay_7 : decode cX5_lay 7 = .ok (.iadd, 1) := by decide +kernel
theorem dX5_lay_8 : decode cX5_lay 8 = .ok (.iaload, 1) := by decide +kernel
theorem dX5_lay_9 : decode cX5_lay 9 = .ok (.putfield 75, 3) := by decide +kernel
theorem dX5_lay_12 : decode cX5_lay 12 = .ok (.aload_n 0, 1) := by decide +kernel
theorem dX5_lay_13 : decode cX5_lay 13 = .ok (.aload_n 0, 1) := by decide +kernel
theorem dX5_lay_14 : decode cX5_lay 14 = .ok (.getfield 7, 3) := by decide +kernel
theorem dX5_lay_17 : decode cX5_lay 17 = .ok (.bipush 57, 2) := by decide +kernel
theorem dX5_lay_19 : decode cX5_lay 19 = .ok (.iload_n 2, 1) := by decide +kernel
theorem dX5_lay_20 : decode cX5_lay 20 = .ok (.iadd, 1) := by decide +kernel
theorem dX5_lay_21 : decode cX5_lay 21 = .ok (.iaload, 1) := by decide +kernel
theorem dX5_lay_22 : decode cX5_lay 22 = .ok (.putfield 78, 3) := by decide +kernel
theorem dX5_lay_25 : decode cX5_lay 25 = .ok (.iconst 0, 1) := by decide +kernel
theorem dX5_lay_26 : decode cX5_lay 26 = .ok (.istore 4, 2) := by decide +kernel
theorem dX5_lay_28 : decode cX5_lay 28 = .ok (.iload 4, 2) := by decide +kernel
theorem dX5_lay_30 : decode cX5_lay 30 = .ok (.aload_n 0, 1) := by decide +kernel
theorem dX5_lay_31 : decode cX5_lay 31 = .ok (.getfield 75, 3) := by decide +kernel
theorem dX5_lay_34 : decode cX5_lay 34 = .ok (.if_icmp .ge 52, 3) := by decide +kernel
theorem dX5_lay_37 : decode cX5_lay 37 = .ok (.aload_n 0, 1) := by decide +kernel
theorem dX5_lay_38 : decode cX5_lay 38 = .ok (.getfield 23, 3) := by decide +kernel
theorem dX5_lay_41 : decode cX5_lay 41 = .ok (.iload 4, 2) := by decide +kernel
theorem dX5_lay_43 : decode cX5_lay 43 = .ok (.aload_n 0, 1) := by decide +kernel
theorem dX5_lay_44 : decode cX5_lay 44 = .ok (.getfield 7, 3) := by decide +kernel
theorem dX5_lay_47 : decode cX5_lay 47 = .ok (.iconst 3, 1) := by decide +kernel
theorem dX5_lay_48 : decode cX5_lay 48 = .ok (.bipush 9, 2) := by decide +kernel
theorem dX5_lay_50 : decode cX5_lay 50 = .ok (.iload_n 1, 1) := by decide +kernel
theorem dX5_lay_51 : decode cX5_lay 51 = .ok (.imul, 1) := by decide +kernel
theorem dX5_lay_52 : decode cX5_lay 52 = .ok (.iadd, 1) := by decide +kernel
theorem dX5_lay_53 : decode cX5_lay 53 = .ok (.iload 4, 2) := by decide +kernel
theorem dX5_lay_55 : decode cX5_lay 55 = .ok (.iadd, 1) := by decide +kernel
theorem dX5_lay_56 : decode cX5_lay 56 = .ok (.iaload, 1) := by decide +kernel
theorem dX5_lay_57 : decode cX5_lay 57 = .ok (.iastore, 1) := by decide +kernel
theorem dX5_lay_58 : decode cX5_lay 58 = .ok (.aload_n 0, 1) := by decide +kernel
theorem dX5_lay_59 : decode cX5_lay 59 = .ok (.getfield 26, 3) := by decide +kernel
theorem dX5_lay_62 : decode cX5_lay 62 = .ok (.iload 4, 2) := by decide +kernel
theorem dX5_lay_64 : decode cX5_lay 64 = .ok (.aload_n 0, 1) := by decide +kernel
theorem dX5_lay_65 : decode cX5_lay 65 = .ok (.getfield 7, 3) := by decide +kernel
theorem dX5_lay_68 : decode cX5_lay 68 = .ok (.bipush 30, 2) := by decide +kernel
theorem dX5_lay_70 : decode cX5_lay 70 = .ok (.bipush 9, 2) := by decide +kernel
theorem dX5_lay_72 : decode cX5_lay 72 = .ok (.iload_n 1, 1) := by decide +kernel
theorem dX5_lay_73 : decode cX5_lay 73 = .ok (.imul, 1) := by decide +kernel
theorem dX5_lay_74 : decode cX5_lay 74 = .ok (.iadd, 1) := by decide +kernel
theorem dX5_lay_75 : decode cX5_lay 75 = .ok (.iload 4, 2) := by decide +kernel
theorem dX5_lay_77 : decode cX5_lay 77 = .ok (.iadd, 1) := by decide +kernel
theorem dX5_lay_78 : decode cX5_lay 78 = .ok (.iaload, 1) := by decide +kernel
theorem dX5_lay_79 : decode cX5_lay 79 = .ok (.iastore, 1) := by decide +kernel
theorem dX5_lay_80 : decode cX5_lay 80 = .ok (.iinc 4 1, 3) := by decide +kernel
theorem dX5_lay_83 : decode cX5_lay 83 = .ok (.goto (-55), 3) := by decide +kernel
theorem dX5_lay_86 : decode cX5_lay 86 = .ok (.iconst 0, 1) := by decide +kernel
theorem dX5_lay_87 : decode cX5_lay 87 = .ok (.istore 4, 2) := by decide +kernel
theorem dX5_lay_89 : decode cX5_lay 89 = .ok (.iload 4, 2) := by decide +kernel
theorem dX5_lay_91 : decode cX5_lay 91 = .ok (.aload_n 0, 1) := by decide +kernel
theorem dX5_lay_92 : decode cX5_lay 92 = .ok (.getfield 78, 3) := by decide +kernel
theorem dX5_lay_95 : decode cX5_lay 95 = .ok (.if_icmp .ge 59, 3) := by decide +kernel
theorem dX5_lay_98 : decode cX5_lay 98 = .ok (.bipush 11, 2) := by decide +kernel
theorem dX5_lay_100 : decode cX5_lay 100 = .ok (.iload_n 2, 1) := by decide +kernel
theorem dX5_lay_101 : decode cX5_lay 101 = .ok (.imul, 1) := by decide +kernel
theorem dX5_lay_102 : decode cX5_lay 102 = .ok (.iload 4, 2) := by decide +kernel
theorem dX5_lay_104 : decode cX5_lay 104 = .ok (.iload_n 3, 1) := by decide +kernel
theorem dX5_lay_105 : decode cX5_lay 105 = .ok (.iadd, 1) := by decide +kernel
theorem dX5_lay_106 : decode cX5_lay 106 = .ok (.aload_n 0, 1) := by decide +kernel
theorem dX5_lay_107 : decode cX5_lay 107 = .ok (.getfield 78, 3) := by decide +kernel
theorem dX5_lay_110 : decode cX5_lay 110 = .ok (.irem, 1) := by decide +kernel
theorem dX5_lay_111 : decode cX5_lay 111 = .ok (.iadd, 1) := by decide +kernel
theorem dX5_lay_112 : decode cX5_lay 112 = .ok (.istore 5, 2) := by decide +kernel
theorem dX5_lay_114 : decode cX5_lay 114 = .ok (.aload_n 0, 1) := by decide +kernel
theorem dX5_lay_115 : decode cX5_lay 115 = .ok (.getfield 29, 3) := by decide +kernel
theorem dX5_lay_118 : decode cX5_lay 118 = .ok (.iload 4, 2) := by decide +kernel
theorem dX5_lay_120 : decode cX5_lay 120 = .ok (.aload_n 0, 1) := by decide +kernel
theorem dX5_lay_121 : decode cX5_lay 121 = .ok (.getfield 7, 3) := by decide +kernel
theorem dX5_lay_124 : decode cX5_lay 124 = .ok (.bipush 61, 2) := by decide +kernel
theorem dX5_lay_126 : decode cX5_lay 126 = .ok (.iload 5, 2) := by decide +kernel
theorem dX5_lay_128 : decode cX5_lay 128 = .ok (.iadd, 1) := by decide +kernel
theorem dX5_lay_129 : decode cX5_lay 129 = .ok (.iaload, 1) := by decide +kernel
theorem dX5_lay_130 : decode cX5_lay 130 = .ok (.iastore, 1) := by decide +kernel
theorem dX5_lay_131 : decode cX5_lay 131 = .ok (.aload_n 0, 1) := by decide +kernel
theorem dX5_lay_132 : decode cX5_lay 132 = .ok (.getfield 32, 3) := by decide +kernel
theorem dX5_lay_135 : decode cX5_lay 135 = .ok (.iload 4, 2) := by decide +kernel
theorem dX5_lay_137 : decode cX5_lay 137 = .ok (.aload_n 0, 1) := by decide +kernel
theorem dX5_lay_138 : decode cX5_lay 138 = .ok (.getfield 7, 3) := by decide +kernel
theorem dX5_lay_141 : decode cX5_lay 141 = .ok (.bipush 105, 2) := by decide +kernel
theorem dX5_lay_143 : decode cX5_lay 143 = .ok (.iload 5, 2) := by decide +kernel
theorem dX5_lay_145 : decode cX5_lay 145 = .ok (.iadd, 1) := by decide +kernel
theorem dX5_lay_146 : decode cX5_lay 146 = .ok (.iaload, 1) := by decide +kernel
theorem dX5_lay_147 : decode cX5_lay 147 = .ok (.iastore, 1) := by decide +kernel
theorem dX5_lay_148 : decode cX5_lay 148 = .ok (.iinc 4 1, 3) := by decide +kernel
theorem dX5_lay_151 : decode cX5_lay 151 = .ok (.goto (-62), 3) := by decide +kernel
theorem dX5_lay_154 : decode cX5_lay 154 = .ok (.return_, 1) := by decide +kernel
theorem dX5_fit_0 : decode cX5_fit 0 = .ok (.aload_n 0, 1) := by decide +kernel
theorem dX5_fit_1 : decode cX5_fit 1 = .ok (.getfield 23, 3) := by decide +kernel
theorem dX5_fit_4 : decode cX5_fit 4 = .ok (.iload_n 1, 1) := by decide +kernel
theorem dX5_fit_5 : decode cX5_fit 5 = .ok (.iaload, 1) := by decide +kernel
theorem dX5_fit_6 : decode cX5_fit 6 = .ok (.aload_n 0, 1) := by decide +kernel
theorem dX5_fit_7 : decode cX5_fit 7 = .ok (.getfield 29, 3) := by decide +kernel
theorem dX5_fit_10 : decode cX5_fit 10 = .ok (.iload_n 2, 1) := by decide +kernel
theorem dX5_fit_11 : decode cX5_fit 11 = .ok (.iaload, 1) := by decide +kernel
theorem dX5_fit_12 : decode cX5_fit 12 = .ok (.isub, 1) := by decide +kernel
theorem dX5_fit_13 : decode cX5_fit 13 = .ok (.istore_n 3, 1) := by decide +kernel
theorem dX5_fit_14 : decode cX5_fit 14 = .ok (.aload_n 0, 1) := by decide +kernel
theorem dX5_fit_15 : decode cX5_fit 15 = .ok (.getfield 7, 3) := by decide +kernel
theorem dX5_fit_18 : decode cX5_fit 18 = .ok (.sipush 149, 3) := by decide +kernel
theorem dX5_fit_21 : decode cX5_fit 21 = .ok (.iaload, 1) := by decide +kernel
theorem dX5_fit_22 : decode cX5_fit 22 = .ok (.iload_n 3, 1) := by decide +kernel
theorem dX5_fit_23 : decode cX5_fit 23 = .ok (.ifCond .ge 8, 3) := by decide +kernel
theorem dX5_fit_26 : decode cX5_fit 26 = .ok (.iload_n 3, 1) := by decide +kernel
theorem dX5_fit_27 : decode cX5_fit 27 = .ok (.ineg, 1) := by decide +kernel
theorem dX5_fit_28 : decode cX5_fit 28 = .ok (.goto 4, 3) := by decide +kernel
theorem dX5_fit_31 : decode cX5_fit 31 = .ok (.iload_n 3, 1) := by decide +kernel
theorem dX5_fit_32 : decode cX5_fit 32 = .ok (.imul, 1) := by decide +kernel
theorem dX5_fit_33 : decode cX5_fit 33 = .ok (.ireturn, 1) := by decide +kernel
theorem dX5_costOf_0 : decode cX5_costOf 0 = .ok (.iload_n 1, 1) := by decide +kernel
theorem dX5_costOf_1 : decode cX5_costOf 1 = .ok (.lookupswitch 76 #[(0, 27), (1, 67)], 27) := by decide +kernel
theorem dX5_costOf_28 : decode cX5_costOf 28 = .ok (.aload_n 0, 1) := by decide +kernel
theorem dX5_costOf_29 : decode cX5_costOf 29 = .ok (.iload_n 2, 1) := by decide +kernel
theorem dX5_costOf_30 : decode cX5_costOf 30 = .ok (.iload_n 3, 1) := by decide +kernel
theorem dX5_costOf_31 : decode cX5_costOf 31 = .ok (.invokevirtual 81, 3) := by decide +kernel
theorem dX5_costOf_34 : decode cX5_costOf 34 = .ok (.aload_n 0, 1) := by decide +kernel
theorem dX5_costOf_35 : decode cX5_costOf 35 = .ok (.getfield 26, 3) := by decide +kernel
theorem dX5_costOf_38 : decode cX5_costOf 38 = .ok (.iload_n 2, 1) := by decide +kernel
theorem dX5_costOf_39 : decode cX5_costOf 39 = .ok (.iaload, 1) := by decide +kernel
theorem dX5_costOf_40 : decode cX5_costOf 40 = .ok (.iconst 1, 1) := by decide +kernel
theorem dX5_costOf_41 : decode cX5_costOf 41 = .ok (.if_icmp .ne 24, 3) := by decide +kernel
theorem dX5_costOf_44 : decode cX5_costOf 44 = .ok (.aload_n 0, 1) := by decide +kernel
theorem dX5_costOf_45 : decode cX5_costOf 45 = .ok (.getfield 32, 3) := by decide +kernel
theorem dX5_costOf_48 : decode cX5_costOf 48 = .ok (.iload_n 3, 1) := by decide +kernel
theorem dX5_costOf_49 : decode cX5_costOf 49 = .ok (.iaload, 1) := by decide +kernel
theorem dX5_costOf_50 : decode cX5_costOf 50 = .ok (.iconst 1, 1) := by decide +kernel
theorem dX5_costOf_51 : decode cX5_costOf 51 = .ok (.if_icmp .ne 14, 3) := by decide +kernel
theorem dX5_costOf_54 : decode cX5_costOf 54 = .ok (.aload_n 0, 1) := by decide +kernel
theorem dX5_costOf_55 : decode cX5_costOf 55 = .ok (.getfield 7, 3) := by decide +kernel
theorem dX5_costOf_58 : decode cX5_costOf 58 = .ok (.sipush 152, 3) := by decide +kernel
theorem dX5_costOf_61 : decode cX5_costOf 61 = .ok (.iaload, 1) := by decide +kernel
theorem dX5_costOf_62 : decode cX5_costOf 62 = .ok (.goto 4, 3) := by decide +kernel
theorem dX5_costOf_65 : decode cX5_costOf 65 = .ok (.iconst 0, 1) := by decide +kernel
theorem dX5_costOf_66 : decode cX5_costOf 66 = .ok (.iadd, 1) := by decide +kernel
theorem dX5_costOf_67 : decode cX5_costOf 67 = .ok (.ireturn, 1) := by decide +kernel
theorem dX5_costOf_68 : decode cX5_costOf 68 = .ok (.aload_n 0, 1) := by decide +kernel
theorem dX5_costOf_69 : decode cX5_costOf 69 = .ok (.getfield 7, 3) := by decide +kernel
theorem dX5_costOf_72 : decode cX5_costOf 72 = .ok (.sipush 150, 3) := by decide +kernel
theorem dX5_costOf_75 : decode cX5_costOf 75 = .ok (.iaload, 1) := by decide +kernel
theorem dX5_costOf_76 : decode cX5_costOf 76 = .ok (.ireturn, 1) := by decide +kernel
theorem dX5_costOf_77 : decode cX5_costOf 77 = .ok (.aload_n 0, 1) := by decide +kernel
theorem dX5_costOf_78 : decode cX5_costOf 78 = .ok (.iload_n 2, 1) := by decide +kernel
theorem dX5_costOf_79 : decode cX5_costOf 79 = .ok (.iload_n 3, 1) := by decide +kernel
theorem dX5_costOf_80 : decode cX5_costOf 80 = .ok (.iconst 1, 1) := by decide +kernel
theorem dX5_costOf_81 : decode cX5_costOf 81 = .ok (.isub, 1) := by decide +kernel
theorem dX5_costOf_82 : decode cX5_costOf 82 = .ok (.invokevirtual 81, 3) := by decide +kernel
theorem dX5_costOf_85 : decode cX5_costOf 85 = .ok (.aload_n 0, 1) := by decide +kernel
theorem dX5_costOf_86 : decode cX5_costOf 86 = .ok (.getfield 7, 3) := by decide +kernel
theorem dX5_costOf_89 : decode cX5_costOf 89 = .ok (.sipush 151, 3) := by decide +kernel
theorem dX5_costOf_92 : decode cX5_costOf 92 = .ok (.iaload, 1) := by decide +kernel
theorem dX5_costOf_93 : decode cX5_costOf 93 = .ok (.iadd, 1) := by decide +kernel
theorem dX5_costOf_94 : decode cX5_costOf 94 = .ok (.ireturn, 1) := by decide +kernel
theorem dX5_canStep_0 : decode cX5_canStep 0 = .ok (.iload_n 1, 1) := by decide +kernel
theorem dX5_canStep_1 : decode cX5_canStep 1 = .ok (.lookupswitch 67 #[(0, 27), (1, 49)], 27) := by decide +kernel
theorem dX5_canStep_28 : decode cX5_canStep 28 = .ok (.iload_n 2, 1) := by decide +kernel
theorem dX5_canStep_29 : decode cX5_canStep 29 = .ok (.aload_n 0, 1) := by decide +kernel
theorem dX5_canStep_30 : decode cX5_canStep 30 = .ok (.getfield 75, 3) := by decide +kernel
theorem dX5_canStep_33 : decode cX5_canStep 33 = .ok (.if_icmp .ge 15, 3) := by decide +kernel
theorem dX5_canStep_36 : decode cX5_canStep 36 = .ok (.iload_n 3, 1) := by decide +kernel
theorem dX5_canStep_37 : decode cX5_canStep 37 = .ok (.aload_n 0, 1) := by decide +kernel
theorem dX5_canStep_38 : decode cX5_canStep 38 = .ok (.getfield 78, 3) := by decide +kernel
theorem dX5_canStep_41 : decode cX5_canStep 41 = .ok (.if_icmp .ge 7, 3) := by decide +kernel
theorem dX5_canStep_44 : decode cX5_canStep 44 = .ok (.iconst 1, 1) := by decide +kernel
theorem dX5_canStep_45 : decode cX5_canStep 45 = .ok (.goto 4, 3) := by decide +kernel
theorem dX5_canStep_48 : decode cX5_canStep 48 = .ok (.iconst 0, 1) := by decide +kernel
theorem dX5_canStep_49 : decode cX5_canStep 49 = .ok (.ireturn, 1) := by decide +kernel
theorem dX5_canStep_50 : decode cX5_canStep 50 = .ok (.iload_n 2, 1) := by decide +kernel
theorem dX5_canStep_51 : decode cX5_canStep 51 = .ok (.ifCond .le 15, 3) := by decide +kernel
theorem dX5_canStep_54 : decode cX5_canStep 54 = .ok (.iload_n 3, 1) := by decide +kernel
theorem dX5_canStep_55 : decode cX5_canStep 55 = .ok (.aload_n 0, 1) := by decide +kernel
theorem dX5_canStep_56 : decode cX5_canStep 56 = .ok (.getfield 78, 3) := by decide +kernel
theorem dX5_canStep_59 : decode cX5_canStep 59 = .ok (.if_icmp .ge 7, 3) := by decide +kernel
theorem dX5_canStep_62 : decode cX5_canStep 62 = .ok (.iconst 1, 1) := by decide +kernel
theorem dX5_canStep_63 : decode cX5_canStep 63 = .ok (.goto 4, 3) := by decide +kernel
theorem dX5_canStep_66 : decode cX5_canStep 66 = .ok (.iconst 0, 1) := by decide +kernel
theorem dX5_canStep_67 : decode cX5_canStep 67 = .ok (.ireturn, 1) := by decide +kernel
theorem dX5_canStep_68 : decode cX5_canStep 68 = .ok (.iload_n 3, 1) := by decide +kernel
theorem dX5_canStep_69 : decode cX5_canStep 69 = .ok (.ifCond .le 15, 3) := by decide +kernel
theorem dX5_canStep_72 : decode cX5_canStep 72 = .ok (.iload_n 2, 1) := by decide +kernel
theorem dX5_canStep_73 : decode cX5_canStep 73 = .ok (.aload_n 0, 1) := by decide +kernel
theorem dX5_canStep_74 : decode cX5_canStep 74 = .ok (.getfield 75, 3) := by decide +kernel
theorem dX5_canStep_77 : decode cX5_canStep 77 = .ok (.if_icmp .ge 7, 3) := by decide +kernel
theorem dX5_canStep_80 : decode cX5_canStep 80 = .ok (.iconst 1, 1) := by decide +kernel
theorem dX5_canStep_81 : decode cX5_canStep 81 = .ok (.goto 4, 3) := by decide +kernel
theorem dX5_canStep_84 : decode cX5_canStep 84 = .ok (.iconst 0, 1) := by decide +kernel
theorem dX5_canStep_85 : decode cX5_canStep 85 = .ok (.ireturn, 1) := by decide +kernel
theorem dX5_syllablesOf_0 : decode cX5_syllablesOf 0 = .ok (.iload_n 0, 1) := by decide +kernel
theorem dX5_syllablesOf_1 : decode cX5_syllablesOf 1 = .ok (.iconst 1, 1) := by decide +kernel
theorem dX5_syllablesOf_2 : decode cX5_syllablesOf 2 = .ok (.if_icmp .ne 7, 3) := by decide +kernel
theorem dX5_syllablesOf_5 : decode cX5_syllablesOf 5 = .ok (.iconst 0, 1) := by decide +kernel
theorem dX5_syllablesOf_6 : decode cX5_syllablesOf 6 = .ok (.goto 4, 3) := by decide +kernel
theorem dX5_syllablesOf_9 : decode cX5_syllablesOf 9 = .ok (.iconst 1, 1) := by decide +kernel
theorem dX5_syllablesOf_10 : decode cX5_syllablesOf 10 = .ok (.ireturn, 1) := by decide +kernel
theorem dX5_notesOf_0 : decode cX5_notesOf 0 = .ok (.iload_n 0, 1) := by decide +kernel
theorem dX5_notesOf_1 : decode cX5_notesOf 1 = .ok (.iconst 2, 1) := by decide +kernel
theorem dX5_notesOf_2 : decode cX5_notesOf 2 = .ok (.if_icmp .ne 7, 3) := by decide +kernel
theorem dX5_notesOf_5 : decode cX5_notesOf 5 = .ok (.iconst 0, 1) := by decide +kernel
theorem dX5_notesOf_6 : decode cX5_notesOf 6 = .ok (.goto 4, 3) := by decide +kernel
theorem dX5_notesOf_9 : decode cX5_notesOf 9 = .ok (.iconst 1, 1) := by decide +kernel
theorem dX5_notesOf_10 : decode cX5_notesOf 10 = .ok (.ireturn, 1) := by decide +kernel
theorem dX5_at_0 : decode cX5_at 0 = .ok (.bipush 12, 2) := by decide +kernel
theorem dX5_at_2 : decode cX5_at 2 = .ok (.iload_n 0, 1) := by decide +kernel
theorem dX5_at_3 : decode cX5_at 3 = .ok (.imul, 1) := by decide +kernel
theorem dX5_at_4 : decode cX5_at 4 = .ok (.iload_n 1, 1) := by decide +kernel
theorem dX5_at_5 : decode cX5_at 5 = .ok (.iadd, 1) := by decide +kernel
theorem dX5_at_6 : decode cX5_at 6 = .ok (.ireturn, 1) := by decide +kernel
theorem dX5_take_0 : decode cX5_take 0 = .ok (.iload_n 2, 1) := by decide +kernel
theorem dX5_take_1 : decode cX5_take 1 = .ok (.iload_n 3, 1) := by decide +kernel
theorem dX5_take_2 : decode cX5_take 2 = .ok (.invokestatic 85, 3) := by decide +kernel
theorem dX5_take_5 : decode cX5_take 5 = .ok (.istore 4, 2) := by decide +kernel
theorem dX5_take_7 : decode cX5_take 7 = .ok (.iload_n 2, 1) := by decide +kernel
theorem dX5_take_8 : decode cX5_take 8 = .ok (.iload_n 1, 1) := by decide +kernel
theorem dX5_take_9 : decode cX5_take 9 = .ok (.invokestatic 88, 3) := by decide +kernel
theorem dX5_take_12 : decode cX5_take 12 = .ok (.iadd, 1) := by decide +kernel
theorem dX5_take_13 : decode cX5_take 13 = .ok (.iload_n 3, 1) := by decide +kernel
theorem dX5_take_14 : decode cX5_take 14 = .ok (.iload_n 1, 1) := by decide +kernel
theorem dX5_take_15 : decode cX5_take 15 = .ok (.invokestatic 92, 3) := by decide +kernel
theorem dX5_take_18 : decode cX5_take 18 = .ok (.iadd, 1) := by decide +kernel
theorem dX5_take_19 : decode cX5_take 19 = .ok (.invokestatic 85, 3) := by decide +kernel
theorem dX5_take_22 : decode cX5_take 22 = .ok (.istore 5, 2) := by decide +kernel
theorem dX5_take_24 : decode cX5_take 24 = .ok (.aload_n 0, 1) := by decide +kernel
theorem dX5_take_25 : decode cX5_take 25 = .ok (.getfield 41, 3) := by decide +kernel
theorem dX5_take_28 : decode cX5_take 28 = .ok (.iload 5, 2) := by decide +kernel
theorem dX5_take_30 : decode cX5_take 30 = .ok (.iaload, 1) := by decide +kernel
theorem dX5_take_31 : decode cX5_take 31 = .ok (.ifCond .ne 4, 3) := by decide +kernel
theorem dX5_take_34 : decode cX5_take 34 = .ok (.return_, 1) := by decide +kernel
theorem dX5_take_35 : decode cX5_take 35 = .ok (.aload_n 0, 1) := by decide +kernel
theorem dX5_take_36 : decode cX5_take 36 = .ok (.iload_n 1, 1) := by decide +kernel
theorem dX5_take_37 : decode cX5_take 37 = .ok (.iload_n 2, 1) := by decide +kernel
theorem dX5_take_38 : decode cX5_take 38 = .ok (.iload_n 3, 1) := by decide +kernel
theorem dX5_take_39 : decode cX5_take 39 = .ok (.invokevirtual 95, 3) := by decide +kernel
theorem dX5_take_42 : decode cX5_take 42 = .ok (.istore 6, 2) := by decide +kernel
theorem dX5_take_44 : decode cX5_take 44 = .ok (.aload_n 0, 1) := by decide +kernel
theorem dX5_take_45 : decode cX5_take 45 = .ok (.getfield 41, 3) := by decide +kernel
theorem dX5_take_48 : decode cX5_take 48 = .ok (.iload 4, 2) := by decide +kernel
theorem dX5_take_50 : decode cX5_take 50 = .ok (.iaload, 1) := by decide +kernel
theorem dX5_take_51 : decode cX5_take 51 = .ok (.ifCond .eq 23, 3) := by decide +kernel
theorem dX5_take_54 : decode cX5_take 54 = .ok (.iload 6, 2) := by decide +kernel
theorem dX5_take_56 : decode cX5_take 56 = .ok (.aload_n 0, 1) := by decide +kernel
theorem dX5_take_57 : decode cX5_take 57 = .ok (.getfield 35, 3) := by decide +kernel
theorem dX5_take_60 : decode cX5_take 60 = .ok (.iload 5, 2) := by decide +kernel
theorem dX5_take_62 : decode cX5_take 62 = .ok (.iaload, 1) := by decide +kernel
theorem dX5_take_63 : decode cX5_take 63 = .ok (.iadd, 1) := by decide +kernel
theorem dX5_take_64 : decode cX5_take 64 = .ok (.aload_n 0, 1) := by decide +kernel
theorem dX5_take_65 : decode cX5_take 65 = .ok (.getfield 35, 3) := by decide +kernel
theorem dX5_take_68 : decode cX5_take 68 = .ok (.iload 4, 2) := by decide +kernel
theorem dX5_take_70 : decode cX5_take 70 = .ok (.iaload, 1) := by decide +kernel
theorem dX5_take_71 : decode cX5_take 71 = .ok (.if_icmp .ge 28, 3) := by decide +kernel
theorem dX5_take_74 : decode cX5_take 74 = .ok (.aload_n 0, 1) := by decide +kernel
theorem dX5_take_75 : decode cX5_take 75 = .ok (.getfield 35, 3) := by decide +kernel
theorem dX5_take_78 : decode cX5_take 78 = .ok (.iload 4, 2) := by decide +kernel
theorem dX5_take_80 : decode cX5_take 80 = .ok (.iload 6, 2) := by decide +kernel
theorem dX5_take_82 : decode cX5_take 82 = .ok (.aload_n 0, 1) := by decide +kernel
theorem dX5_take_83 : decode cX5_take 83 = .ok (.getfield 35, 3) := by decide +kernel
theorem dX5_take_86 : decode cX5_take 86 = .ok (.iload 5, 2) := by decide +kernel
theorem dX5_take_88 : decode cX5_take 88 = .ok (.iaload, 1) := by decide +kernel
theorem dX5_take_89 : decode cX5_take 89 = .ok (.iadd, 1) := by decide +kernel
theorem dX5_take_90 : decode cX5_take 90 = .ok (.iastore, 1) := by decide +kernel
theorem dX5_take_91 : decode cX5_take 91 = .ok (.aload_n 0, 1) := by decide +kernel
theorem dX5_take_92 : decode cX5_take 92 = .ok (.getfield 44, 3) := by decide +kernel
theorem dX5_take_95 : decode cX5_take 95 = .ok (.iload 4, 2) := by decide +kernel
theorem dX5_take_97 : decode cX5_take 97 = .ok (.iconst 0, 1) := by decide +kernel
theorem dX5_take_98 : decode cX5_take 98 = .ok (.iastore, 1) := by decide +kernel
theorem dX5_take_99 : decode cX5_take 99 = .ok (.aload_n 0, 1) := by decide +kernel
theorem dX5_take_100 : decode cX5_take 100 = .ok (.getfield 44, 3) := by decide +kernel
theorem dX5_take_103 : decode cX5_take 103 = .ok (.iload 4, 2) := by decide +kernel
theorem dX5_take_105 : decode cX5_take 105 = .ok (.dup2, 1) := by decide +kernel
theorem dX5_take_106 : decode cX5_take 106 = .ok (.iaload, 1) := by decide +kernel
theorem dX5_take_107 : decode cX5_take 107 = .ok (.iload 6, 2) := by decide +kernel
theorem dX5_take_109 : decode cX5_take 109 = .ok (.aload_n 0, 1) := by decide +kernel
theorem dX5_take_110 : decode cX5_take 110 = .ok (.getfield 35, 3) := by decide +kernel
theorem dX5_take_113 : decode cX5_take 113 = .ok (.iload 5, 2) := by decide +kernel
theorem dX5_take_115 : decode cX5_take 115 = .ok (.iaload, 1) := by decide +kernel
theorem dX5_take_116 : decode cX5_take 116 = .ok (.iadd, 1) := by decide +kernel
theorem dX5_take_117 : decode cX5_take 117 = .ok (.aload_n 0, 1) := by decide +kernel
theorem dX5_take_118 : decode cX5_take 118 = .ok (.getfield 35, 3) := by decide +kernel
theorem dX5_take_121 : decode cX5_take 121 = .ok (.iload 4, 2) := by decide +kernel
theorem dX5_take_123 : decode cX5_take 123 = .ok (.iaload, 1) := by decide +kernel
theorem dX5_take_124 : decode cX5_take 124 = .ok (.if_icmp .ne 13, 3) := by decide +kernel
theorem dX5_take_127 : decode cX5_take 127 = .ok (.aload_n 0, 1) := by decide +kernel
theorem dX5_take_128 : decode cX5_take 128 = .ok (.getfield 44, 3) := by decide +kernel
theorem dX5_take_131 : decode cX5_take 131 = .ok (.iload 5, 2) := by decide +kernel
theorem dX5_take_133 : decode cX5_take 133 = .ok (.iaload, 1) := by decide +kernel
theorem dX5_take_134 : decode cX5_take 134 = .ok (.goto 4, 3) := by decide +kernel
theorem dX5_take_137 : decode cX5_take 137 = .ok (.iconst 0, 1) := by decide +kernel
theorem dX5_take_138 : decode cX5_take 138 = .ok (.iadd, 1) := by decide +kernel
theorem dX5_take_139 : decode cX5_take 139 = .ok (.iastore, 1) := by decide +kernel
theorem dX5_take_140 : decode cX5_take 140 = .ok (.aload_n 0, 1) := by decide +kernel
theorem dX5_take_141 : decode cX5_take 141 = .ok (.getfield 38, 3) := by decide +kernel
theorem dX5_take_144 : decode cX5_take 144 = .ok (.iload 4, 2) := by decide +kernel
theorem dX5_take_146 : decode cX5_take 146 = .ok (.aload_n 0, 1) := by decide +kernel
theorem dX5_take_147 : decode cX5_take 147 = .ok (.getfield 41, 3) := by decide +kernel
theorem dX5_take_150 : decode cX5_take 150 = .ok (.iload 4, 2) := by decide +kernel
theorem dX5_take_152 : decode cX5_take 152 = .ok (.iaload, 1) := by decide +kernel
theorem dX5_take_153 : decode cX5_take 153 = .ok (.ifCond .eq 23, 3) := by decide +kernel
theorem dX5_take_156 : decode cX5_take 156 = .ok (.iload 6, 2) := by decide +kernel
theorem dX5_take_158 : decode cX5_take 158 = .ok (.aload_n 0, 1) := by decide +kernel
theorem dX5_take_159 : decode cX5_take 159 = .ok (.getfield 38, 3) := by decide +kernel
theorem dX5_take_162 : decode cX5_take 162 = .ok (.iload 5, 2) := by decide +kernel
theorem dX5_take_164 : decode cX5_take 164 = .ok (.iaload, 1) := by decide +kernel
theorem dX5_take_165 : decode cX5_take 165 = .ok (.iadd, 1) := by decide +kernel
theorem dX5_take_166 : decode cX5_take 166 = .ok (.aload_n 0, 1) := by decide +kernel
theorem dX5_take_167 : decode cX5_take 167 = .ok (.getfield 38, 3) := by decide +kernel
theorem dX5_take_170 : decode cX5_take 170 = .ok (.iload 4, 2) := by decide +kernel
theorem dX5_take_172 : decode cX5_take 172 = .ok (.iaload, 1) := by decide +kernel
theorem dX5_take_173 : decode cX5_take 173 = .ok (.if_icmp .le 16, 3) := by decide +kernel
theorem dX5_take_176 : decode cX5_take 176 = .ok (.iload 6, 2) := by decide +kernel
theorem dX5_take_178 : decode cX5_take 178 = .ok (.aload_n 0, 1) := by decide +kernel
theorem dX5_take_179 : decode cX5_take 179 = .ok (.getfield 38, 3) := by decide +kernel
theorem dX5_take_182 : decode cX5_take 182 = .ok (.iload 5, 2) := by decide +kernel
theorem dX5_take_184 : decode cX5_take 184 = .ok (.iaload, 1) := by decide +kernel
theorem dX5_take_185 : decode cX5_take 185 = .ok (.iadd, 1) := by decide +kernel
theorem dX5_take_186 : decode cX5_take 186 = .ok (.goto 10, 3) := by decide +kernel
theorem dX5_take_189 : decode cX5_take 189 = .ok (.aload_n 0, 1) := by decide +kernel
theorem dX5_take_190 : decode cX5_take 190 = .ok (.getfield 38, 3) := by decide +kernel
theorem dX5_take_193 : decode cX5_take 193 = .ok (.iload 4, 2) := by decide +kernel
theorem dX5_take_195 : decode cX5_take 195 = .ok (.iaload, 1) := by decide +kernel
theorem dX5_take_196 : decode cX5_take 196 = .ok (.iastore, 1) := by decide +kernel
theorem dX5_take_197 : decode cX5_take 197 = .ok (.aload_n 0, 1) := by decide +kernel
theorem dX5_take_198 : decode cX5_take 198 = .ok (.getfield 41, 3) := by decide +kernel
theorem dX5_take_201 : decode cX5_take 201 = .ok (.iload 4, 2) := by decide +kernel
theorem dX5_take_203 : decode cX5_take 203 = .ok (.dup2, 1) := by decide +kernel
theorem dX5_take_204 : decode cX5_take 204 = .ok (.iaload, 1) := by decide +kernel
theorem dX5_take_205 : decode cX5_take 205 = .ok (.aload_n 0, 1) := by decide +kernel
theorem dX5_take_206 : decode cX5_take 206 = .ok (.getfield 41, 3) := by decide +kernel
theorem dX5_take_209 : decode cX5_take 209 = .ok (.iload 5, 2) := by decide +kernel
theorem dX5_take_211 : decode cX5_take 211 = .ok (.iaload, 1) := by decide +kernel
theorem dX5_take_212 : decode cX5_take 212 = .ok (.iadd, 1) := by decide +kernel
theorem dX5_take_213 : decode cX5_take 213 = .ok (.iastore, 1) := by decide +kernel
theorem dX5_take_214 : decode cX5_take 214 = .ok (.return_, 1) := by decide +kernel
theorem dX5_layTable_0 : decode cX5_layTable 0 = .ok (.aload_n 0, 1) := by decide +kernel
theorem dX5_layTable_1 : decode cX5_layTable 1 = .ok (.getfield 75, 3) := by decide +kernel
theorem dX5_layTable_4 : decode cX5_layTable 4 = .ok (.istore_n 1, 1) := by decide +kernel
theorem dX5_layTable_5 : decode cX5_layTable 5 = .ok (.iload_n 1, 1) := by decide +kernel
theorem dX5_layTable_6 : decode cX5_layTable 6 = .ok (.ifCond .lt 140, 3) := by decide +kernel
theorem dX5_layTable_9 : decode cX5_layTable 9 = .ok (.aload_n 0, 1) := by decide +kernel
theorem dX5_layTable_10 : decode cX5_layTable 10 = .ok (.getfield 78, 3) := by decide +kernel
theorem dX5_layTable_13 : decode cX5_layTable 13 = .ok (.istore_n 2, 1) := by decide +kernel
theorem dX5_layTable_14 : decode cX5_layTable 14 = .ok (.iload_n 2, 1) := by decide +kernel
theorem dX5_layTable_15 : decode cX5_layTable 15 = .ok (.ifCond .lt 125, 3) := by decide +kernel
theorem dX5_layTable_18 : decode cX5_layTable 18 = .ok (.iload_n 1, 1) := by decide +kernel
theorem dX5_layTable_19 : decode cX5_layTable 19 = .ok (.aload_n 0, 1) := by decide +kernel
theorem dX5_layTable_20 : decode cX5_layTable 20 = .ok (.getfield 75, 3) := by decide +kernel
theorem dX5_layTable_23 : decode cX5_layTable 23 = .ok (.if_icmp .ne 15, 3) := by decide +kernel
theorem dX5_layTable_26 : decode cX5_layTable 26 = .ok (.iload_n 2, 1) := by decide +kernel
theorem dX5_layTable_27 : decode cX5_layTable 27 = .ok (.aload_n 0, 1) := by decide +kernel
theorem dX5_layTable_28 : decode cX5_layTable 28 = .ok (.getfield 78, 3) := by decide +kernel
theorem dX5_layTable_31 : decode cX5_layTable 31 = .ok (.if_icmp .ne 7, 3) := by decide +kernel
theorem dX5_layTable_34 : decode cX5_layTable 34 = .ok (.iconst 1, 1) := by decide +kernel
theorem dX5_layTable_35 : decode cX5_layTable 35 = .ok (.goto 4, 3) := by decide +kernel
theorem dX5_layTable_38 : decode cX5_layTable 38 = .ok (.iconst 0, 1) := by decide +kernel
theorem dX5_layTable_39 : decode cX5_layTable 39 = .ok (.istore_n 3, 1) := by decide +kernel
theorem dX5_layTable_40 : decode cX5_layTable 40 = .ok (.aload_n 0, 1) := by decide +kernel
theorem dX5_layTable_41 : decode cX5_layTable 41 = .ok (.getfield 35, 3) := by decide +kernel
theorem dX5_layTable_44 : decode cX5_layTable 44 = .ok (.iload_n 1, 1) := by decide +kernel
theorem dX5_layTable_45 : decode cX5_layTable 45 = .ok (.iload_n 2, 1) := by decide +kernel
theorem dX5_layTable_46 : decode cX5_layTable 46 = .ok (.invokestatic 85, 3) := by decide +kernel
theorem dX5_layTable_49 : decode cX5_layTable 49 = .ok (.iconst 0, 1) := by decide +kernel
theorem dX5_layTable_50 : decode cX5_layTable 50 = .ok (.iastore, 1) := by decide +kernel
theorem dX5_layTable_51 : decode cX5_layTable 51 = .ok (.aload_n 0, 1) := by decide +kernel
theorem dX5_layTable_52 : decode cX5_layTable 52 = .ok (.getfield 38, 3) := by decide +kernel
theorem dX5_layTable_55 : decode cX5_layTable 55 = .ok (.iload_n 1, 1) := by decide +kernel
theorem dX5_layTable_56 : decode cX5_layTable 56 = .ok (.iload_n 2, 1) := by decide +kernel
theorem dX5_layTable_57 : decode cX5_layTable 57 = .ok (.invokestatic 85, 3) := by decide +kernel
theorem dX5_layTable_60 : decode cX5_layTable 60 = .ok (.iconst 0, 1) := by decide +kernel
theorem dX5_layTable_61 : decode cX5_layTable 61 = .ok (.iastore, 1) := by decide +kernel
theorem dX5_layTable_62 : decode cX5_layTable 62 = .ok (.aload_n 0, 1) := by decide +kernel
theorem dX5_layTable_63 : decode cX5_layTable 63 = .ok (.getfield 41, 3) := by decide +kernel
theorem dX5_layTable_66 : decode cX5_layTable 66 = .ok (.iload_n 1, 1) := by decide +kernel
theorem dX5_layTable_67 : decode cX5_layTable 67 = .ok (.iload_n 2, 1) := by decide +kernel
theorem dX5_layTable_68 : decode cX5_layTable 68 = .ok (.invokestatic 85, 3) := by decide +kernel
theorem dX5_layTable_71 : decode cX5_layTable 71 = .ok (.iload_n 3, 1) := by decide +kernel
theorem dX5_layTable_72 : decode cX5_layTable 72 = .ok (.ifCond .eq 7, 3) := by decide +kernel
theorem dX5_layTable_75 : decode cX5_layTable 75 = .ok (.iconst 1, 1) := by decide +kernel
theorem dX5_layTable_76 : decode cX5_layTable 76 = .ok (.goto 4, 3) := by decide +kernel
theorem dX5_layTable_79 : decode cX5_layTable 79 = .ok (.iconst 0, 1) := by decide +kernel
theorem dX5_layTable_80 : decode cX5_layTable 80 = .ok (.iastore, 1) := by decide +kernel
theorem dX5_layTable_81 : decode cX5_layTable 81 = .ok (.aload_n 0, 1) := by decide +kernel
theorem dX5_layTable_82 : decode cX5_layTable 82 = .ok (.getfield 44, 3) := by decide +kernel
theorem dX5_layTable_85 : decode cX5_layTable 85 = .ok (.iload_n 1, 1) := by decide +kernel
theorem dX5_layTable_86 : decode cX5_layTable 86 = .ok (.iload_n 2, 1) := by decide +kernel
theorem dX5_layTable_87 : decode cX5_layTable 87 = .ok (.invokestatic 85, 3) := by decide +kernel
theorem dX5_layTable_90 : decode cX5_layTable 90 = .ok (.iload_n 3, 1) := by decide +kernel
theorem dX5_layTable_91 : decode cX5_layTable 91 = .ok (.ifCond .eq 7, 3) := by decide +kernel
theorem dX5_layTable_94 : decode cX5_layTable 94 = .ok (.iconst 1, 1) := by decide +kernel
theorem dX5_layTable_95 : decode cX5_layTable 95 = .ok (.goto 4, 3) := by decide +kernel
theorem dX5_layTable_98 : decode cX5_layTable 98 = .ok (.iconst 0, 1) := by decide +kernel
theorem dX5_layTable_99 : decode cX5_layTable 99 = .ok (.iastore, 1) := by decide +kernel
theorem dX5_layTable_100 : decode cX5_layTable 100 = .ok (.iconst 0, 1) := by decide +kernel
theorem dX5_layTable_101 : decode cX5_layTable 101 = .ok (.istore 4, 2) := by decide +kernel
theorem dX5_layTable_103 : decode cX5_layTable 103 = .ok (.iload 4, 2) := by decide +kernel
theorem dX5_layTable_105 : decode cX5_layTable 105 = .ok (.iconst 3, 1) := by decide +kernel
theorem dX5_layTable_106 : decode cX5_layTable 106 = .ok (.if_icmp .ge 28, 3) := by decide +kernel
theorem dX5_layTable_109 : decode cX5_layTable 109 = .ok (.aload_n 0, 1) := by decide +kernel
theorem dX5_layTable_110 : decode cX5_layTable 110 = .ok (.iload 4, 2) := by decide +kernel
theorem dX5_layTable_112 : decode cX5_layTable 112 = .ok (.iload_n 1, 1) := by decide +kernel
theorem dX5_layTable_113 : decode cX5_layTable 113 = .ok (.iload_n 2, 1) := by decide +kernel
theorem dX5_layTable_114 : decode cX5_layTable 114 = .ok (.invokevirtual 99, 3) := by decide +kernel
theorem dX5_layTable_117 : decode cX5_layTable 117 = .ok (.ifCond .eq 11, 3) := by decide +kernel
theorem dX5_layTable_120 : decode cX5_layTable 120 = .ok (.aload_n 0, 1) := by decide +kernel
theorem dX5_layTable_121 : decode cX5_layTable 121 = .ok (.iload 4, 2) := by decide +kernel
theorem dX5_layTable_123 : decode cX5_layTable 123 = .ok (.iload_n 1, 1) := by decide +kernel
theorem dX5_layTable_124 : decode cX5_layTable 124 = .ok (.iload_n 2, 1) := by decide +kernel
theorem dX5_layTable_125 : decode cX5_layTable 125 = .ok (.invokevirtual 102, 3) := by decide +kernel
theorem dX5_layTable_128 : decode cX5_layTable 128 = .ok (.iinc 4 1, 3) := by decide +kernel
theorem dX5_layTable_131 : decode cX5_layTable 131 = .ok (.goto (-28), 3) := by decide +kernel
theorem dX5_layTable_134 : decode cX5_layTable 134 = .ok (.iinc 2 (-1), 3) := by decide +kernel
theorem dX5_layTable_137 : decode cX5_layTable 137 = .ok (.goto (-123), 3) := by decide +kernel
theorem dX5_layTable_140 : decode cX5_layTable 140 = .ok (.iinc 1 (-1), 3) := by decide +kernel
theorem dX5_layTable_143 : decode cX5_layTable 143 = .ok (.goto (-138), 3) := by decide +kernel
theorem dX5_layTable_146 : decode cX5_layTable 146 = .ok (.return_, 1) := by decide +kernel
theorem dX5_go_0 : decode cX5_go 0 = .ok (.aload_n 0, 1) := by decide +kernel
theorem dX5_go_1 : decode cX5_go 1 = .ok (.iload_n 1, 1) := by decide +kernel
theorem dX5_go_2 : decode cX5_go 2 = .ok (.iload_n 2, 1) := by decide +kernel
theorem dX5_go_3 : decode cX5_go 3 = .ok (.iload_n 3, 1) := by decide +kernel
theorem dX5_go_4 : decode cX5_go 4 = .ok (.invokevirtual 106, 3) := by decide +kernel
theorem dX5_go_7 : decode cX5_go 7 = .ok (.aload_n 0, 1) := by decide +kernel
theorem dX5_go_8 : decode cX5_go 8 = .ok (.invokevirtual 109, 3) := by decide +kernel
theorem dX5_go_11 : decode cX5_go 11 = .ok (.return_, 1) := by decide +kernel
theorem dX5_stepOf_0 : decode cX5_stepOf 0 = .ok (.iload_n 0, 1) := by decide +kernel
theorem dX5_stepOf_1 : decode cX5_stepOf 1 = .ok (.bipush 111, 2) := by decide +kernel
theorem dX5_stepOf_3 : decode cX5_stepOf 3 = .ok (.if_icmp .ne 7, 3) := by decide +kernel
theorem dX5_stepOf_6 : decode cX5_stepOf 6 = .ok (.iconst 0, 1) := by decide +kernel
theorem dX5_stepOf_7 : decode cX5_stepOf 7 = .ok (.goto 25, 3) := by decide +kernel
theorem dX5_stepOf_10 : decode cX5_stepOf 10 = .ok (.iload_n 0, 1) := by decide +kernel
theorem dX5_stepOf_11 : decode cX5_stepOf 11 = .ok (.bipush 104, 2) := by decide +kernel
theorem dX5_stepOf_13 : decode cX5_stepOf 13 = .ok (.if_icmp .ne 7, 3) := by decide +kernel
theorem dX5_stepOf_16 : decode cX5_stepOf 16 = .ok (.iconst 1, 1) := by decide +kernel
theorem dX5_stepOf_17 : decode cX5_stepOf 17 = .ok (.goto 15, 3) := by decide +kernel
theorem dX5_stepOf_20 : decode cX5_stepOf 20 = .ok (.iload_n 0, 1) := by decide +kernel
theorem dX5_stepOf_21 : decode cX5_stepOf 21 = .ok (.bipush 115, 2) := by decide +kernel
theorem dX5_stepOf_23 : decode cX5_stepOf 23 = .ok (.if_icmp .ne 7, 3) := by decide +kernel
theorem dX5_stepOf_26 : decode cX5_stepOf 26 = .ok (.iconst 2, 1) := by decide +kernel
theorem dX5_stepOf_27 : decode cX5_stepOf 27 = .ok (.goto 5, 3) := by decide +kernel
theorem dX5_stepOf_30 : decode cX5_stepOf 30 = .ok (.bipush (-6), 2) := by decide +kernel
theorem dX5_stepOf_32 : decode cX5_stepOf 32 = .ok (.ireturn, 1) := by decide +kernel
theorem dX5_cost_0 : decode cX5_cost 0 = .ok (.iload_n 1, 1) := by decide +kernel
theorem dX5_cost_1 : decode cX5_cost 1 = .ok (.invokestatic 68, 3) := by decide +kernel
theorem dX5_cost_4 : decode cX5_cost 4 = .ok (.ifCond .eq 10, 3) := by decide +kernel
theorem dX5_cost_7 : decode cX5_cost 7 = .ok (.iload_n 2, 1) := by decide +kernel
theorem dX5_cost_8 : decode cX5_cost 8 = .ok (.invokestatic 72, 3) := by decide +kernel
theorem dX5_cost_11 : decode cX5_cost 11 = .ok (.ifCond .ne 5, 3) := by decide +kernel
theorem dX5_cost_14 : decode cX5_cost 14 = .ok (.iconst (-1), 1) := by decide +kernel
theorem dX5_cost_15 : decode cX5_cost 15 = .ok (.ireturn, 1) := by decide +kernel
theorem dX5_cost_16 : decode cX5_cost 16 = .ok (.iconst 0, 1) := by decide +kernel
theorem dX5_cost_17 : decode cX5_cost 17 = .ok (.istore_n 3, 1) := by decide +kernel
theorem dX5_cost_18 : decode cX5_cost 18 = .ok (.iload_n 3, 1) := by decide +kernel
theorem dX5_cost_19 : decode cX5_cost 19 = .ok (.aload_n 0, 1) := by decide +kernel
theorem dX5_cost_20 : decode cX5_cost 20 = .ok (.getfield 54, 3) := by decide +kernel
theorem dX5_cost_23 : decode cX5_cost 23 = .ok (.if_icmp .ge 24, 3) := by decide +kernel
theorem dX5_cost_26 : decode cX5_cost 26 = .ok (.aload_n 0, 1) := by decide +kernel
theorem dX5_cost_27 : decode cX5_cost 27 = .ok (.getfield 20, 3) := by decide +kernel
theorem dX5_cost_30 : decode cX5_cost 30 = .ok (.iload_n 3, 1) := by decide +kernel
theorem dX5_cost_31 : decode cX5_cost 31 = .ok (.iaload, 1) := by decide +kernel
theorem dX5_cost_32 : decode cX5_cost 32 = .ok (.invokestatic 112, 3) := by decide +kernel
theorem dX5_cost_35 : decode cX5_cost 35 = .ok (.ifCond .ge 6, 3) := by decide +kernel
theorem dX5_cost_38 : decode cX5_cost 38 = .ok (.bipush (-7), 2) := by decide +kernel
theorem dX5_cost_40 : decode cX5_cost 40 = .ok (.ireturn, 1) := by decide +kernel
theorem dX5_cost_41 : decode cX5_cost 41 = .ok (.iinc 3 1, 3) := by decide +kernel
theorem dX5_cost_44 : decode cX5_cost 44 = .ok (.goto (-26), 3) := by decide +kernel
theorem dX5_cost_47 : decode cX5_cost 47 = .ok (.aload_n 0, 1) := by decide +kernel
theorem dX5_cost_48 : decode cX5_cost 48 = .ok (.iload_n 1, 1) := by decide +kernel
theorem dX5_cost_49 : decode cX5_cost 49 = .ok (.iload_n 2, 1) := by decide +kernel
theorem dX5_cost_50 : decode cX5_cost 50 = .ok (.iconst 0, 1) := by decide +kernel
theorem dX5_cost_51 : decode cX5_cost 51 = .ok (.invokevirtual 106, 3) := by decide +kernel
theorem dX5_cost_54 : decode cX5_cost 54 = .ok (.iconst 0, 1) := by decide +kernel
theorem dX5_cost_55 : decode cX5_cost 55 = .ok (.istore_n 3, 1) := by decide +kernel
theorem dX5_cost_56 : decode cX5_cost 56 = .ok (.iconst 0, 1) := by decide +kernel
theorem dX5_cost_57 : decode cX5_cost 57 = .ok (.istore 4, 2) := by decide +kernel
theorem dX5_cost_59 : decode cX5_cost 59 = .ok (.iconst 0, 1) := by decide +kernel
theorem dX5_cost_60 : decode cX5_cost 60 = .ok (.istore 5, 2) := by decide +kernel
theorem dX5_cost_62 : decode cX5_cost 62 = .ok (.iconst 0, 1) := by decide +kernel
theorem dX5_cost_63 : decode cX5_cost 63 = .ok (.istore 6, 2) := by decide +kernel
theorem dX5_cost_65 : decode cX5_cost 65 = .ok (.iload 6, 2) := by decide +kernel
theorem dX5_cost_67 : decode cX5_cost 67 = .ok (.aload_n 0, 1) := by decide +kernel
theorem dX5_cost_68 : decode cX5_cost 68 = .ok (.getfield 54, 3) := by decide +kernel
theorem dX5_cost_71 : decode cX5_cost 71 = .ok (.if_icmp .ge 68, 3) := by decide +kernel
theorem dX5_cost_74 : decode cX5_cost 74 = .ok (.aload_n 0, 1) := by decide +kernel
theorem dX5_cost_75 : decode cX5_cost 75 = .ok (.getfield 20, 3) := by decide +kernel
theorem dX5_cost_78 : decode cX5_cost 78 = .ok (.iload 6, 2) := by decide +kernel
theorem dX5_cost_80 : decode cX5_cost 80 = .ok (.iaload, 1) := by decide +kernel
theorem dX5_cost_81 : decode cX5_cost 81 = .ok (.invokestatic 112, 3) := by decide +kernel
theorem dX5_cost_84 : decode cX5_cost 84 = .ok (.istore 7, 2) := by decide +kernel
theorem dX5_cost_86 : decode cX5_cost 86 = .ok (.aload_n 0, 1) := by decide +kernel
theorem dX5_cost_87 : decode cX5_cost 87 = .ok (.iload 7, 2) := by decide +kernel
theorem dX5_cost_89 : decode cX5_cost 89 = .ok (.iload_n 3, 1) := by decide +kernel
theorem dX5_cost_90 : decode cX5_cost 90 = .ok (.iload 4, 2) := by decide +kernel
theorem dX5_cost_92 : decode cX5_cost 92 = .ok (.invokevirtual 99, 3) := by decide +kernel
theorem dX5_cost_95 : decode cX5_cost 95 = .ok (.ifCond .ne 6, 3) := by decide +kernel
theorem dX5_cost_98 : decode cX5_cost 98 = .ok (.bipush (-5), 2) := by decide +kernel
theorem dX5_cost_100 : decode cX5_cost 100 = .ok (.ireturn, 1) := by decide +kernel
theorem dX5_cost_101 : decode cX5_cost 101 = .ok (.iload 5, 2) := by decide +kernel
theorem dX5_cost_103 : decode cX5_cost 103 = .ok (.aload_n 0, 1) := by decide +kernel
theorem dX5_cost_104 : decode cX5_cost 104 = .ok (.iload 7, 2) := by decide +kernel
theorem dX5_cost_106 : decode cX5_cost 106 = .ok (.iload_n 3, 1) := by decide +kernel
theorem dX5_cost_107 : decode cX5_cost 107 = .ok (.iload 4, 2) := by decide +kernel
theorem dX5_cost_109 : decode cX5_cost 109 = .ok (.invokevirtual 95, 3) := by decide +kernel
theorem dX5_cost_112 : decode cX5_cost 112 = .ok (.iadd, 1) := by decide +kernel
theorem dX5_cost_113 : decode cX5_cost 113 = .ok (.istore 5, 2) := by decide +kernel
theorem dX5_cost_115 : decode cX5_cost 115 = .ok (.iload_n 3, 1) := by decide +kernel
theorem dX5_cost_116 : decode cX5_cost 116 = .ok (.iload 7, 2) := by decide +kernel
theorem dX5_cost_118 : decode cX5_cost 118 = .ok (.invokestatic 88, 3) := by decide +kernel
theorem dX5_cost_121 : decode cX5_cost 121 = .ok (.iadd, 1) := by decide +kernel
theorem dX5_cost_122 : decode cX5_cost 122 = .ok (.istore_n 3, 1) := by decide +kernel
theorem dX5_cost_123 : decode cX5_cost 123 = .ok (.iload 4, 2) := by decide +kernel
theorem dX5_cost_125 : decode cX5_cost 125 = .ok (.iload 7, 2) := by decide +kernel
theorem dX5_cost_127 : decode cX5_cost 127 = .ok (.invokestatic 92, 3) := by decide +kernel
theorem dX5_cost_130 : decode cX5_cost 130 = .ok (.iadd, 1) := by decide +kernel
theorem dX5_cost_131 : decode cX5_cost 131 = .ok (.istore 4, 2) := by decide +kernel
theorem dX5_cost_133 : decode cX5_cost 133 = .ok (.iinc 6 1, 3) := by decide +kernel
theorem dX5_cost_136 : decode cX5_cost 136 = .ok (.goto (-71), 3) := by decide +kernel
theorem dX5_cost_139 : decode cX5_cost 139 = .ok (.iload_n 3, 1) := by decide +kernel
theorem dX5_cost_140 : decode cX5_cost 140 = .ok (.aload_n 0, 1) := by decide +kernel
theorem dX5_cost_141 : decode cX5_cost 141 = .ok (.getfield 75, 3) := by decide +kernel
theorem dX5_cost_144 : decode cX5_cost 144 = .ok (.if_icmp .ne 17, 3) := by decide +kernel
theorem dX5_cost_147 : decode cX5_cost 147 = .ok (.iload 4, 2) := by decide +kernel
theorem dX5_cost_149 : decode cX5_cost 149 = .ok (.aload_n 0, 1) := by decide +kernel
theorem dX5_cost_150 : decode cX5_cost 150 = .ok (.getfield 78, 3) := by decide +kernel
theorem dX5_cost_153 : decode cX5_cost 153 = .ok (.if_icmp .ne 8, 3) := by decide +kernel
theorem dX5_cost_156 : decode cX5_cost 156 = .ok (.iload 5, 2) := by decide +kernel
theorem dX5_cost_158 : decode cX5_cost 158 = .ok (.goto 5, 3) := by decide +kernel
theorem dX5_cost_161 : decode cX5_cost 161 = .ok (.bipush (-5), 2) := by decide +kernel
theorem dX5_cost_163 : decode cX5_cost 163 = .ok (.ireturn, 1) := by decide +kernel
theorem dX5_nextStep_0 : decode cX5_nextStep 0 = .ok (.iconst 0, 1) := by decide +kernel
theorem dX5_nextStep_1 : decode cX5_nextStep 1 = .ok (.istore_n 3, 1) := by decide +kernel
theorem dX5_nextStep_2 : decode cX5_nextStep 2 = .ok (.iload_n 3, 1) := by decide +kernel
theorem dX5_nextStep_3 : decode cX5_nextStep 3 = .ok (.iconst 3, 1) := by decide +kernel
theorem dX5_nextStep_4 : decode cX5_nextStep 4 = .ok (.if_icmp .ge 76, 3) := by decide +kernel
theorem dX5_nextStep_7 : decode cX5_nextStep 7 = .ok (.aload_n 0, 1) := by decide +kernel
theorem dX5_nextStep_8 : decode cX5_nextStep 8 = .ok (.iload_n 3, 1) := by decide +kernel
theorem dX5_nextStep_9 : decode cX5_nextStep 9 = .ok (.iload_n 1, 1) := by decide +kernel
theorem dX5_nextStep_10 : decode cX5_nextStep 10 = .ok (.iload_n 2, 1) := by decide +kernel
theorem dX5_nextStep_11 : decode cX5_nextStep 11 = .ok (.invokevirtual 99, 3) := by decide +kernel
theorem dX5_nextStep_14 : decode cX5_nextStep 14 = .ok (.ifCond .eq 60, 3) := by decide +kernel
theorem dX5_nextStep_17 : decode cX5_nextStep 17 = .ok (.iload_n 1, 1) := by decide +kernel
theorem dX5_nextStep_18 : decode cX5_nextStep 18 = .ok (.iload_n 3, 1) := by decide +kernel
theorem dX5_nextStep_19 : decode cX5_nextStep 19 = .ok (.invokestatic 88, 3) := by decide +kernel
theorem dX5_nextStep_22 : decode cX5_nextStep 22 = .ok (.iadd, 1) := by decide +kernel
theorem dX5_nextStep_23 : decode cX5_nextStep 23 = .ok (.iload_n 2, 1) := by decide +kernel
theorem dX5_nextStep_24 : decode cX5_nextStep 24 = .ok (.iload_n 3, 1) := by decide +kernel
theorem dX5_nextStep_25 : decode cX5_nextStep 25 = .ok (.invokestatic 92, 3) := by decide +kernel
theorem dX5_nextStep_28 : decode cX5_nextStep 28 = .ok (.iadd, 1) := by decide +kernel
theorem dX5_nextStep_29 : decode cX5_nextStep 29 = .ok (.invokestatic 85, 3) := by decide +kernel
theorem dX5_nextStep_32 : decode cX5_nextStep 32 = .ok (.istore 4, 2) := by decide +kernel
theorem dX5_nextStep_34 : decode cX5_nextStep 34 = .ok (.aload_n 0, 1) := by decide +kernel
theorem dX5_nextStep_35 : decode cX5_nextStep 35 = .ok (.getfield 41, 3) := by decide +kernel
theorem dX5_nextStep_38 : decode cX5_nextStep 38 = .ok (.iload 4, 2) := by decide +kernel
theorem dX5_nextStep_40 : decode cX5_nextStep 40 = .ok (.iaload, 1) := by decide +kernel
theorem dX5_nextStep_41 : decode cX5_nextStep 41 = .ok (.ifCond .le 33, 3) := by decide +kernel
theorem dX5_nextStep_44 : decode cX5_nextStep 44 = .ok (.aload_n 0, 1) := by decide +kernel
theorem dX5_nextStep_45 : decode cX5_nextStep 45 = .ok (.iload_n 3, 1) := by decide +kernel
theorem dX5_nextStep_46 : decode cX5_nextStep 46 = .ok (.iload_n 1, 1) := by decide +kernel
theorem dX5_nextStep_47 : decode cX5_nextStep 47 = .ok (.iload_n 2, 1) := by decide +kernel
theorem dX5_nextStep_48 : decode cX5_nextStep 48 = .ok (.invokevirtual 95, 3) := by decide +kernel
theorem dX5_nextStep_51 : decode cX5_nextStep 51 = .ok (.aload_n 0, 1) := by decide +kernel
theorem dX5_nextStep_52 : decode cX5_nextStep 52 = .ok (.getfield 35, 3) := by decide +kernel
theorem dX5_nextStep_55 : decode cX5_nextStep 55 = .ok (.iload 4, 2) := by decide +kernel
theorem dX5_nextStep_57 : decode cX5_nextStep 57 = .ok (.iaload, 1) := by decide +kernel
theorem dX5_nextStep_58 : decode cX5_nextStep 58 = .ok (.iadd, 1) := by decide +kernel
theorem dX5_nextStep_59 : decode cX5_nextStep 59 = .ok (.aload_n 0, 1) := by decide +kernel
theorem dX5_nextStep_60 : decode cX5_nextStep 60 = .ok (.getfield 35, 3) := by decide +kernel
theorem dX5_nextStep_63 : decode cX5_nextStep 63 = .ok (.iload_n 1, 1) := by decide +kernel
theorem dX5_nextStep_64 : decode cX5_nextStep 64 = .ok (.iload_n 2, 1) := by decide +kernel
theorem dX5_nextStep_65 : decode cX5_nextStep 65 = .ok (.invokestatic 85, 3) := by decide +kernel
theorem dX5_nextStep_68 : decode cX5_nextStep 68 = .ok (.iaload, 1) := by decide +kernel
theorem dX5_nextStep_69 : decode cX5_nextStep 69 = .ok (.if_icmp .ne 5, 3) := by decide +kernel
theorem dX5_nextStep_72 : decode cX5_nextStep 72 = .ok (.iload_n 3, 1) := by decide +kernel
theorem dX5_nextStep_73 : decode cX5_nextStep 73 = .ok (.ireturn, 1) := by decide +kernel
theorem dX5_nextStep_74 : decode cX5_nextStep 74 = .ok (.iinc 3 1, 3) := by decide +kernel
theorem dX5_nextStep_77 : decode cX5_nextStep 77 = .ok (.goto (-75), 3) := by decide +kernel
theorem dX5_nextStep_80 : decode cX5_nextStep 80 = .ok (.bipush (-6), 2) := by decide +kernel
theorem dX5_nextStep_82 : decode cX5_nextStep 82 = .ok (.ireturn, 1) := by decide +kernel
theorem dX5_laySteps_0 : decode cX5_laySteps 0 = .ok (.iconst 0, 1) := by decide +kernel
theorem dX5_laySteps_1 : decode cX5_laySteps 1 = .ok (.istore_n 1, 1) := by decide +kernel
theorem dX5_laySteps_2 : decode cX5_laySteps 2 = .ok (.iconst 0, 1) := by decide +kernel
theorem dX5_laySteps_3 : decode cX5_laySteps 3 = .ok (.istore_n 2, 1) := by decide +kernel
theorem dX5_laySteps_4 : decode cX5_laySteps 4 = .ok (.aload_n 0, 1) := by decide +kernel
theorem dX5_laySteps_5 : decode cX5_laySteps 5 = .ok (.iconst 0, 1) := by decide +kernel
theorem dX5_laySteps_6 : decode cX5_laySteps 6 = .ok (.putfield 115, 3) := by decide +kernel
theorem dX5_laySteps_9 : decode cX5_laySteps 9 = .ok (.iload_n 1, 1) := by decide +kernel
theorem dX5_laySteps_10 : decode cX5_laySteps 10 = .ok (.aload_n 0, 1) := by decide +kernel
theorem dX5_laySteps_11 : decode cX5_laySteps 11 = .ok (.getfield 75, 3) := by decide +kernel
theorem dX5_laySteps_14 : decode cX5_laySteps 14 = .ok (.if_icmp .lt 11, 3) := by decide +kernel
theorem dX5_laySteps_17 : decode cX5_laySteps 17 = .ok (.iload_n 2, 1) := by decide +kernel
theorem dX5_laySteps_18 : decode cX5_laySteps 18 = .ok (.aload_n 0, 1) := by decide +kernel
theorem dX5_laySteps_19 : decode cX5_laySteps 19 = .ok (.getfield 78, 3) := by decide +kernel
theorem dX5_laySteps_22 : decode cX5_laySteps 22 = .ok (.if_icmp .ge 47, 3) := by decide +kernel
theorem dX5_laySteps_25 : decode cX5_laySteps 25 = .ok (.aload_n 0, 1) := by decide +kernel
theorem dX5_laySteps_26 : decode cX5_laySteps 26 = .ok (.iload_n 1, 1) := by decide +kernel
theorem dX5_laySteps_27 : decode cX5_laySteps 27 = .ok (.iload_n 2, 1) := by decide +kernel
theorem dX5_laySteps_28 : decode cX5_laySteps 28 = .ok (.invokevirtual 118, 3) := by decide +kernel
theorem dX5_laySteps_31 : decode cX5_laySteps 31 = .ok (.istore_n 3, 1) := by decide +kernel
theorem dX5_laySteps_32 : decode cX5_laySteps 32 = .ok (.aload_n 0, 1) := by decide +kernel
theorem dX5_laySteps_33 : decode cX5_laySteps 33 = .ok (.getfield 47, 3) := by decide +kernel
theorem dX5_laySteps_36 : decode cX5_laySteps 36 = .ok (.aload_n 0, 1) := by decide +kernel
theorem dX5_laySteps_37 : decode cX5_laySteps 37 = .ok (.getfield 115, 3) := by decide +kernel
theorem dX5_laySteps_40 : decode cX5_laySteps 40 = .ok (.iload_n 3, 1) := by decide +kernel
theorem dX5_laySteps_41 : decode cX5_laySteps 41 = .ok (.iastore, 1) := by decide +kernel
theorem dX5_laySteps_42 : decode cX5_laySteps 42 = .ok (.aload_n 0, 1) := by decide +kernel
theorem dX5_laySteps_43 : decode cX5_laySteps 43 = .ok (.dup, 1) := by decide +kernel
theorem dX5_laySteps_44 : decode cX5_laySteps 44 = .ok (.getfield 115, 3) := by decide +kernel
theorem dX5_laySteps_47 : decode cX5_laySteps 47 = .ok (.iconst 1, 1) := by decide +kernel
theorem dX5_laySteps_48 : decode cX5_laySteps 48 = .ok (.iadd, 1) := by decide +kernel
theorem dX5_laySteps_49 : decode cX5_laySteps 49 = .ok (.putfield 115, 3) := by decide +kernel
theorem dX5_laySteps_52 : decode cX5_laySteps 52 = .ok (.iload_n 1, 1) := by decide +kernel
theorem dX5_laySteps_53 : decode cX5_laySteps 53 = .ok (.iload_n 3, 1) := by decide +kernel
theorem dX5_laySteps_54 : decode cX5_laySteps 54 = .ok (.invokestatic 88, 3) := by decide +kernel
theorem dX5_laySteps_57 : decode cX5_laySteps 57 = .ok (.iadd, 1) := by decide +kernel
theorem dX5_laySteps_58 : decode cX5_laySteps 58 = .ok (.istore_n 1, 1) := by decide +kernel
theorem dX5_laySteps_59 : decode cX5_laySteps 59 = .ok (.iload_n 2, 1) := by decide +kernel
theorem dX5_laySteps_60 : decode cX5_laySteps 60 = .ok (.iload_n 3, 1) := by decide +kernel
theorem dX5_laySteps_61 : decode cX5_laySteps 61 = .ok (.invokestatic 92, 3) := by decide +kernel
theorem dX5_laySteps_64 : decode cX5_laySteps 64 = .ok (.iadd, 1) := by decide +kernel
theorem dX5_laySteps_65 : decode cX5_laySteps 65 = .ok (.istore_n 2, 1) := by decide +kernel
theorem dX5_laySteps_66 : decode cX5_laySteps 66 = .ok (.goto (-57), 3) := by decide +kernel
theorem dX5_laySteps_69 : decode cX5_laySteps 69 = .ok (.return_, 1) := by decide +kernel
theorem dX5_least_0 : decode cX5_least 0 = .ok (.iload_n 1, 1) := by decide +kernel
theorem dX5_least_1 : decode cX5_least 1 = .ok (.invokestatic 68, 3) := by decide +kernel
theorem dX5_least_4 : decode cX5_least 4 = .ok (.ifCond .eq 10, 3) := by decide +kernel
theorem dX5_least_7 : decode cX5_least 7 = .ok (.iload_n 2, 1) := by decide +kernel
theorem dX5_least_8 : decode cX5_least 8 = .ok (.invokestatic 72, 3) := by decide +kernel
theorem dX5_least_11 : decode cX5_least 11 = .ok (.ifCond .ne 5, 3) := by decide +kernel
theorem dX5_least_14 : decode cX5_least 14 = .ok (.iconst (-1), 1) := by decide +kernel
theorem dX5_least_15 : decode cX5_least 15 = .ok (.ireturn, 1) := by decide +kernel
theorem dX5_least_16 : decode cX5_least 16 = .ok (.iload_n 3, 1) := by decide +kernel
theorem dX5_least_17 : decode cX5_least 17 = .ok (.iconst (-1), 1) := by decide +kernel
theorem dX5_least_18 : decode cX5_least 18 = .ok (.if_icmp .ge 6, 3) := by decide +kernel
theorem dX5_least_21 : decode cX5_least 21 = .ok (.bipush (-2), 2) := by decide +kernel
theorem dX5_least_23 : decode cX5_least 23 = .ok (.ireturn, 1) := by decide +kernel
theorem dX5_least_24 : decode cX5_least 24 = .ok (.aload_n 0, 1) := by decide +kernel
theorem dX5_least_25 : decode cX5_least 25 = .ok (.iload_n 1, 1) := by decide +kernel
theorem dX5_least_26 : decode cX5_least 26 = .ok (.iload_n 2, 1) := by decide +kernel
theorem dX5_least_27 : decode cX5_least 27 = .ok (.iconst 0, 1) := by decide +kernel
theorem dX5_least_28 : decode cX5_least 28 = .ok (.invokevirtual 121, 3) := by decide +kernel
theorem dX5_least_31 : decode cX5_least 31 = .ok (.aload_n 0, 1) := by decide +kernel
theorem dX5_least_32 : decode cX5_least 32 = .ok (.getfield 41, 3) := by decide +kernel
theorem dX5_least_35 : decode cX5_least 35 = .ok (.iconst 0, 1) := by decide +kernel
theorem dX5_least_36 : decode cX5_least 36 = .ok (.iaload, 1) := by decide +kernel
theorem dX5_least_37 : decode cX5_least 37 = .ok (.ifCond .ne 6, 3) := by decide +kernel
theorem dX5_least_40 : decode cX5_least 40 = .ok (.bipush (-6), 2) := by decide +kernel
theorem dX5_least_42 : decode cX5_least 42 = .ok (.ireturn, 1) := by decide +kernel
theorem dX5_least_43 : decode cX5_least 43 = .ok (.iload_n 3, 1) := by decide +kernel
theorem dX5_least_44 : decode cX5_least 44 = .ok (.iconst (-1), 1) := by decide +kernel
theorem dX5_least_45 : decode cX5_least 45 = .ok (.if_icmp .ne 10, 3) := by decide +kernel
theorem dX5_least_48 : decode cX5_least 48 = .ok (.aload_n 0, 1) := by decide +kernel
theorem dX5_least_49 : decode cX5_least 49 = .ok (.getfield 35, 3) := by decide +kernel
theorem dX5_least_52 : decode cX5_least 52 = .ok (.iconst 0, 1) := by decide +kernel
theorem dX5_least_53 : decode cX5_least 53 = .ok (.iaload, 1) := by decide +kernel
theorem dX5_least_54 : decode cX5_least 54 = .ok (.ireturn, 1) := by decide +kernel
theorem dX5_least_55 : decode cX5_least 55 = .ok (.aload_n 0, 1) := by decide +kernel
theorem dX5_least_56 : decode cX5_least 56 = .ok (.invokevirtual 124, 3) := by decide +kernel
theorem dX5_least_59 : decode cX5_least 59 = .ok (.iload_n 3, 1) := by decide +kernel
theorem dX5_least_60 : decode cX5_least 60 = .ok (.aload_n 0, 1) := by decide +kernel
theorem dX5_least_61 : decode cX5_least 61 = .ok (.getfield 115, 3) := by decide +kernel
theorem dX5_least_64 : decode cX5_least 64 = .ok (.if_icmp .ge 12, 3) := by decide +kernel
theorem dX5_least_67 : decode cX5_least 67 = .ok (.aload_n 0, 1) := by decide +kernel
theorem dX5_least_68 : decode cX5_least 68 = .ok (.getfield 47, 3) := by decide +kernel
theorem dX5_least_71 : decode cX5_least 71 = .ok (.iload_n 3, 1) := by decide +kernel
theorem dX5_least_72 : decode cX5_least 72 = .ok (.iaload, 1) := by decide +kernel
theorem dX5_least_73 : decode cX5_least 73 = .ok (.goto 5, 3) := by decide +kernel
theorem dX5_least_76 : decode cX5_least 76 = .ok (.bipush (-6), 2) := by decide +kernel
theorem dX5_least_78 : decode cX5_least 78 = .ok (.ireturn, 1) := by decide +kernel
theorem dX5_ways_0 : decode cX5_ways 0 = .ok (.iload_n 1, 1) := by decide +kernel
theorem dX5_ways_1 : decode cX5_ways 1 = .ok (.invokestatic 68, 3) := by decide +kernel
theorem dX5_ways_4 : decode cX5_ways 4 = .ok (.ifCond .eq 10, 3) := by decide +kernel
theorem dX5_ways_7 : decode cX5_ways 7 = .ok (.iload_n 2, 1) := by decide +kernel
theorem dX5_ways_8 : decode cX5_ways 8 = .ok (.invokestatic 72, 3) := by decide +kernel
theorem dX5_ways_11 : decode cX5_ways 11 = .ok (.ifCond .ne 5, 3) := by decide +kernel
theorem dX5_ways_14 : decode cX5_ways 14 = .ok (.iconst (-1), 1) := by decide +kernel
theorem dX5_ways_15 : decode cX5_ways 15 = .ok (.ireturn, 1) := by decide +kernel
theorem dX5_ways_16 : decode cX5_ways 16 = .ok (.iload_n 3, 1) := by decide +kernel
theorem dX5_ways_17 : decode cX5_ways 17 = .ok (.iconst 0, 1) := by decide +kernel
theorem dX5_ways_18 : decode cX5_ways 18 = .ok (.iconst 2, 1) := by decide +kernel
theorem dX5_ways_19 : decode cX5_ways 19 = .ok (.invokestatic 50, 3) := by decide +kernel
theorem dX5_ways_22 : decode cX5_ways 22 = .ok (.ifCond .ne 6, 3) := by decide +kernel
theorem dX5_ways_25 : decode cX5_ways 25 = .ok (.bipush (-2), 2) := by decide +kernel
theorem dX5_ways_27 : decode cX5_ways 27 = .ok (.ireturn, 1) := by decide +kernel
theorem dX5_ways_28 : decode cX5_ways 28 = .ok (.aload_n 0, 1) := by decide +kernel
theorem dX5_ways_29 : decode cX5_ways 29 = .ok (.iload_n 1, 1) := by decide +kernel
theorem dX5_ways_30 : decode cX5_ways 30 = .ok (.iload_n 2, 1) := by decide +kernel
theorem dX5_ways_31 : decode cX5_ways 31 = .ok (.iconst 0, 1) := by decide +kernel
theorem dX5_ways_32 : decode cX5_ways 32 = .ok (.invokevirtual 121, 3) := by decide +kernel
theorem dX5_ways_35 : decode cX5_ways 35 = .ok (.iload_n 3, 1) := by decide +kernel
theorem dX5_ways_36 : decode cX5_ways 36 = .ok (.ifCond .ne 12, 3) := by decide +kernel
theorem dX5_ways_39 : decode cX5_ways 39 = .ok (.aload_n 0, 1) := by decide +kernel
theorem dX5_ways_40 : decode cX5_ways 40 = .ok (.getfield 41, 3) := by decide +kernel
theorem dX5_ways_43 : decode cX5_ways 43 = .ok (.iconst 0, 1) := by decide +kernel
theorem dX5_ways_44 : decode cX5_ways 44 = .ok (.iaload, 1) := by decide +kernel
theorem dX5_ways_45 : decode cX5_ways 45 = .ok (.goto 37, 3) := by decide +kernel
theorem dX5_ways_48 : decode cX5_ways 48 = .ok (.iload_n 3, 1) := by decide +kernel
theorem dX5_ways_49 : decode cX5_ways 49 = .ok (.iconst 1, 1) := by decide +kernel
theorem dX5_ways_50 : decode cX5_ways 50 = .ok (.if_icmp .ne 12, 3) := by decide +kernel
theorem dX5_ways_53 : decode cX5_ways 53 = .ok (.aload_n 0, 1) := by decide +kernel
theorem dX5_ways_54 : decode cX5_ways 54 = .ok (.getfield 44, 3) := by decide +kernel
theorem dX5_ways_57 : decode cX5_ways 57 = .ok (.iconst 0, 1) := by decide +kernel
theorem dX5_ways_58 : decode cX5_ways 58 = .ok (.iaload, 1) := by decide +kernel
theorem dX5_ways_59 : decode cX5_ways 59 = .ok (.goto 23, 3) := by decide +kernel
theorem dX5_ways_62 : decode cX5_ways 62 = .ok (.aload_n 0, 1) := by decide +kernel
theorem dX5_ways_63 : decode cX5_ways 63 = .ok (.getfield 41, 3) := by decide +kernel
theorem dX5_ways_66 : decode cX5_ways 66 = .ok (.iconst 0, 1) := by decide +kernel
theorem dX5_ways_67 : decode cX5_ways 67 = .ok (.iaload, 1) := by decide +kernel
theorem dX5_ways_68 : decode cX5_ways 68 = .ok (.ifCond .ne 8, 3) := by decide +kernel
theorem dX5_ways_71 : decode cX5_ways 71 = .ok (.bipush (-6), 2) := by decide +kernel
theorem dX5_ways_73 : decode cX5_ways 73 = .ok (.goto 9, 3) := by decide +kernel
theorem dX5_ways_76 : decode cX5_ways 76 = .ok (.aload_n 0, 1) := by decide +kernel
theorem dX5_ways_77 : decode cX5_ways 77 = .ok (.getfield 38, 3) := by decide +kernel
theorem dX5_ways_80 : decode cX5_ways 80 = .ok (.iconst 0, 1) := by decide +kernel
theorem dX5_ways_81 : decode cX5_ways 81 = .ok (.iaload, 1) := by decide +kernel
theorem dX5_ways_82 : decode cX5_ways 82 = .ok (.ireturn, 1) := by decide +kernel
theorem dX5_sung_0 : decode cX5_sung 0 = .ok (.iload_n 1, 1) := by decide +kernel
theorem dX5_sung_1 : decode cX5_sung 1 = .ok (.invokestatic 68, 3) := by decide +kernel
theorem dX5_sung_4 : decode cX5_sung 4 = .ok (.ifCond .eq 10, 3) := by decide +kernel
theorem dX5_sung_7 : decode cX5_sung 7 = .ok (.iload_n 2, 1) := by decide +kernel
theorem dX5_sung_8 : decode cX5_sung 8 = .ok (.invokestatic 72, 3) := by decide +kernel
theorem dX5_sung_11 : decode cX5_sung 11 = .ok (.ifCond .ne 5, 3) := by decide +kernel
theorem dX5_sung_14 : decode cX5_sung 14 = .ok (.iconst (-1), 1) := by decide +kernel
theorem dX5_sung_15 : decode cX5_sung 15 = .ok (.ireturn, 1) := by decide +kernel
theorem dX5_sung_16 : decode cX5_sung 16 = .ok (.iload_n 3, 1) := by decide +kernel
theorem dX5_sung_17 : decode cX5_sung 17 = .ok (.iconst 0, 1) := by decide +kernel
theorem dX5_sung_18 : decode cX5_sung 18 = .ok (.aload_n 0, 1) := by decide +kernel
theorem dX5_sung_19 : decode cX5_sung 19 = .ok (.getfield 7, 3) := by decide +kernel
theorem dX5_sung_22 : decode cX5_sung 22 = .ok (.bipush 57, 2) := by decide +kernel
theorem dX5_sung_24 : decode cX5_sung 24 = .ok (.iload_n 2, 1) := by decide +kernel
theorem dX5_sung_25 : decode cX5_sung 25 = .ok (.iadd, 1) := by decide +kernel
theorem dX5_sung_26 : decode cX5_sung 26 = .ok (.iaload, 1) := by decide +kernel
theorem dX5_sung_27 : decode cX5_sung 27 = .ok (.iconst 1, 1) := by decide +kernel
theorem dX5_sung_28 : decode cX5_sung 28 = .ok (.isub, 1) := by decide +kernel
theorem dX5_sung_29 : decode cX5_sung 29 = .ok (.invokestatic 50, 3) := by decide +kernel
theorem dX5_sung_32 : decode cX5_sung 32 = .ok (.ifCond .eq 13, 3) := by decide +kernel
theorem dX5_sung_35 : decode cX5_sung 35 = .ok (.iload 4, 2) := by decide +kernel
theorem dX5_sung_37 : decode cX5_sung 37 = .ok (.iconst 0, 1) := by decide +kernel
theorem dX5_sung_38 : decode cX5_sung 38 = .ok (.iconst 1, 1) := by decide +kernel
theorem dX5_sung_39 : decode cX5_sung 39 = .ok (.invokestatic 50, 3) := by decide +kernel
theorem dX5_sung_42 : decode cX5_sung 42 = .ok (.ifCond .ne 6, 3) := by decide +kernel
theorem dX5_sung_45 : decode cX5_sung 45 = .ok (.bipush (-2), 2) := by decide +kernel
theorem dX5_sung_47 : decode cX5_sung 47 = .ok (.ireturn, 1) := by decide +kernel
theorem dX5_sung_48 : decode cX5_sung 48 = .ok (.aload_n 0, 1) := by decide +kernel
theorem dX5_sung_49 : decode cX5_sung 49 = .ok (.iload_n 1, 1) := by decide +kernel
theorem dX5_sung_50 : decode cX5_sung 50 = .ok (.iload_n 2, 1) := by decide +kernel
theorem dX5_sung_51 : decode cX5_sung 51 = .ok (.iconst 0, 1) := by decide +kernel
theorem dX5_sung_52 : decode cX5_sung 52 = .ok (.invokevirtual 121, 3) := by decide +kernel
theorem dX5_sung_55 : decode cX5_sung 55 = .ok (.aload_n 0, 1) := by decide +kernel
theorem dX5_sung_56 : decode cX5_sung 56 = .ok (.getfield 41, 3) := by decide +kernel
theorem dX5_sung_59 : decode cX5_sung 59 = .ok (.iconst 0, 1) := by decide +kernel
theorem dX5_sung_60 : decode cX5_sung 60 = .ok (.iaload, 1) := by decide +kernel
theorem dX5_sung_61 : decode cX5_sung 61 = .ok (.ifCond .ne 6, 3) := by decide +kernel
theorem dX5_sung_64 : decode cX5_sung 64 = .ok (.bipush (-6), 2) := by decide +kernel
theorem dX5_sung_66 : decode cX5_sung 66 = .ok (.ireturn, 1) := by decide +kernel
theorem dX5_sung_67 : decode cX5_sung 67 = .ok (.aload_n 0, 1) := by decide +kernel
theorem dX5_sung_68 : decode cX5_sung 68 = .ok (.invokevirtual 124, 3) := by decide +kernel
theorem dX5_sung_71 : decode cX5_sung 71 = .ok (.iconst (-1), 1) := by decide +kernel
theorem dX5_sung_72 : decode cX5_sung 72 = .ok (.istore 5, 2) := by decide +kernel
theorem dX5_sung_74 : decode cX5_sung 74 = .ok (.iconst (-1), 1) := by decide +kernel
theorem dX5_sung_75 : decode cX5_sung 75 = .ok (.istore 6, 2) := by decide +kernel
theorem dX5_sung_77 : decode cX5_sung 77 = .ok (.bipush (-6), 2) := by decide +kernel
theorem dX5_sung_79 : decode cX5_sung 79 = .ok (.istore 7, 2) := by decide +kernel
theorem dX5_sung_81 : decode cX5_sung 81 = .ok (.iconst 0, 1) := by decide +kernel
theorem dX5_sung_82 : decode cX5_sung 82 = .ok (.istore 8, 2) := by decide +kernel
theorem dX5_sung_84 : decode cX5_sung 84 = .ok (.iconst 0, 1) := by decide +kernel
theorem dX5_sung_85 : decode cX5_sung 85 = .ok (.istore 9, 2) := by decide +kernel
theorem dX5_sung_87 : decode cX5_sung 87 = .ok (.iload 9, 2) := by decide +kernel
theorem dX5_sung_89 : decode cX5_sung 89 = .ok (.aload_n 0, 1) := by decide +kernel
theorem dX5_sung_90 : decode cX5_sung 90 = .ok (.getfield 115, 3) := by decide +kernel
theorem dX5_sung_93 : decode cX5_sung 93 = .ok (.if_icmp .ge 62, 3) := by decide +kernel
theorem dX5_sung_96 : decode cX5_sung 96 = .ok (.iload 5, 2) := by decide +kernel
theorem dX5_sung_98 : decode cX5_sung 98 = .ok (.aload_n 0, 1) := by decide +kernel
theorem dX5_sung_99 : decode cX5_sung 99 = .ok (.getfield 47, 3) := by decide +kernel
theorem dX5_sung_102 : decode cX5_sung 102 = .ok (.iload 9, 2) := by decide +kernel
theorem dX5_sung_104 : decode cX5_sung 104 = .ok (.iaload, 1) := by decide +kernel
theorem dX5_sung_105 : decode cX5_sung 105 = .ok (.invokestatic 88, 3) := by decide +kernel
theorem dX5_sung_108 : decode cX5_sung 108 = .ok (.iadd, 1) := by decide +kernel
theorem dX5_sung_109 : decode cX5_sung 109 = .ok (.istore 5, 2) := by decide +kernel
theorem dX5_sung_111 : decode cX5_sung 111 = .ok (.iload 6, 2) := by decide +kernel
theorem dX5_sung_113 : decode cX5_sung 113 = .ok (.aload_n 0, 1) := by decide +kernel
theorem dX5_sung_114 : decode cX5_sung 114 = .ok (.getfield 47, 3) := by decide +kernel
theorem dX5_sung_117 : decode cX5_sung 117 = .ok (.iload 9, 2) := by decide +kernel
theorem dX5_sung_119 : decode cX5_sung 119 = .ok (.iaload, 1) := by decide +kernel
theorem dX5_sung_120 : decode cX5_sung 120 = .ok (.invokestatic 92, 3) := by decide +kernel
theorem dX5_sung_123 : decode cX5_sung 123 = .ok (.iadd, 1) := by decide +kernel
theorem dX5_sung_124 : decode cX5_sung 124 = .ok (.istore 6, 2) := by decide +kernel
theorem dX5_sung_126 : decode cX5_sung 126 = .ok (.iload 6, 2) := by decide +kernel
theorem dX5_sung_128 : decode cX5_sung 128 = .ok (.iload_n 3, 1) := by decide +kernel
theorem dX5_sung_129 : decode cX5_sung 129 = .ok (.if_icmp .ne 20, 3) := by decide +kernel
theorem dX5_sung_132 : decode cX5_sung 132 = .ok (.iload 8, 2) := by decide +kernel
theorem dX5_sung_134 : decode cX5_sung 134 = .ok (.ifCond .ne 8, 3) := by decide +kernel
theorem dX5_sung_137 : decode cX5_sung 137 = .ok (.iload 5, 2) := by decide +kernel
theorem dX5_sung_139 : decode cX5_sung 139 = .ok (.goto 5, 3) := by decide +kernel
theorem dX5_sung_142 : decode cX5_sung 142 = .ok (.iload 7, 2) := by decide +kernel
theorem dX5_sung_144 : decode cX5_sung 144 = .ok (.istore 7, 2) := by decide +kernel
theorem dX5_sung_146 : decode cX5_sung 146 = .ok (.iinc 8 1, 3) := by decide +kernel
theorem dX5_sung_149 : decode cX5_sung 149 = .ok (.iinc 9 1, 3) := by decide +kernel
theorem dX5_sung_152 : decode cX5_sung 152 = .ok (.goto (-65), 3) := by decide +kernel
theorem dX5_sung_155 : decode cX5_sung 155 = .ok (.iload 4, 2) := by decide +kernel
theorem dX5_sung_157 : decode cX5_sung 157 = .ok (.ifCond .ne 8, 3) := by decide +kernel
theorem dX5_sung_160 : decode cX5_sung 160 = .ok (.iload 7, 2) := by decide +kernel
theorem dX5_sung_162 : decode cX5_sung 162 = .ok (.goto 5, 3) := by decide +kernel
theorem dX5_sung_165 : decode cX5_sung 165 = .ok (.iload 8, 2) := by decide +kernel
theorem dX5_sung_167 : decode cX5_sung 167 = .ok (.ireturn, 1) := by decide +kernel
theorem dX5_verseOf_0 : decode cX5_verseOf 0 = .ok (.iconst 0, 1) := by decide +kernel
theorem dX5_verseOf_1 : decode cX5_verseOf 1 = .ok (.istore_n 2, 1) := by decide +kernel
theorem dX5_verseOf_2 : decode cX5_verseOf 2 = .ok (.iconst 0, 1) := by decide +kernel
theorem dX5_verseOf_3 : decode cX5_verseOf 3 = .ok (.istore_n 3, 1) := by decide +kernel
theorem dX5_verseOf_4 : decode cX5_verseOf 4 = .ok (.iconst 0, 1) := by decide +kernel
theorem dX5_verseOf_5 : decode cX5_verseOf 5 = .ok (.istore 4, 2) := by decide +kernel
theorem dX5_verseOf_7 : decode cX5_verseOf 7 = .ok (.iload 4, 2) := by decide +kernel
theorem dX5_verseOf_9 : decode cX5_verseOf 9 = .ok (.iconst 3, 1) := by decide +kernel
theorem dX5_verseOf_10 : decode cX5_verseOf 10 = .ok (.if_icmp .ge 40, 3) := by decide +kernel
theorem dX5_verseOf_13 : decode cX5_verseOf 13 = .ok (.aload_n 0, 1) := by decide +kernel
theorem dX5_verseOf_14 : decode cX5_verseOf 14 = .ok (.getfield 7, 3) := by decide +kernel
theorem dX5_verseOf_17 : decode cX5_verseOf 17 = .ok (.iconst 0, 1) := by decide +kernel
theorem dX5_verseOf_18 : decode cX5_verseOf 18 = .ok (.iload 4, 2) := by decide +kernel
theorem dX5_verseOf_20 : decode cX5_verseOf 20 = .ok (.iadd, 1) := by decide +kernel
theorem dX5_verseOf_21 : decode cX5_verseOf 21 = .ok (.iaload, 1) := by decide +kernel
theorem dX5_verseOf_22 : decode cX5_verseOf 22 = .ok (.ifCond .le 22, 3) := by decide +kernel
theorem dX5_verseOf_25 : decode cX5_verseOf 25 = .ok (.aload_n 0, 1) := by decide +kernel
theorem dX5_verseOf_26 : decode cX5_verseOf 26 = .ok (.iload 4, 2) := by decide +kernel
theorem dX5_verseOf_28 : decode cX5_verseOf 28 = .ok (.iload_n 1, 1) := by decide +kernel
theorem dX5_verseOf_29 : decode cX5_verseOf 29 = .ok (.iconst 0, 1) := by decide +kernel
theorem dX5_verseOf_30 : decode cX5_verseOf 30 = .ok (.invokevirtual 121, 3) := by decide +kernel
theorem dX5_verseOf_33 : decode cX5_verseOf 33 = .ok (.iload_n 2, 1) := by decide +kernel
theorem dX5_verseOf_34 : decode cX5_verseOf 34 = .ok (.aload_n 0, 1) := by decide +kernel
theorem dX5_verseOf_35 : decode cX5_verseOf 35 = .ok (.getfield 35, 3) := by decide +kernel
theorem dX5_verseOf_38 : decode cX5_verseOf 38 = .ok (.iconst 0, 1) := by decide +kernel
theorem dX5_verseOf_39 : decode cX5_verseOf 39 = .ok (.iaload, 1) := by decide +kernel
theorem dX5_verseOf_40 : decode cX5_verseOf 40 = .ok (.iadd, 1) := by decide +kernel
theorem dX5_verseOf_41 : decode cX5_verseOf 41 = .ok (.istore_n 2, 1) := by decide +kernel
theorem dX5_verseOf_42 : decode cX5_verseOf 42 = .ok (.iconst 1, 1) := by decide +kernel
theorem dX5_verseOf_43 : decode cX5_verseOf 43 = .ok (.istore_n 3, 1) := by decide +kernel
theorem dX5_verseOf_44 : decode cX5_verseOf 44 = .ok (.iinc 4 1, 3) := by decide +kernel
theorem dX5_verseOf_47 : decode cX5_verseOf 47 = .ok (.goto (-40), 3) := by decide +kernel
theorem dX5_verseOf_50 : decode cX5_verseOf 50 = .ok (.iload_n 3, 1) := by decide +kernel
theorem dX5_verseOf_51 : decode cX5_verseOf 51 = .ok (.ifCond .eq 19, 3) := by decide +kernel
theorem dX5_verseOf_54 : decode cX5_verseOf 54 = .ok (.aload_n 0, 1) := by decide +kernel
theorem dX5_verseOf_55 : decode cX5_verseOf 55 = .ok (.getfield 7, 3) := by decide +kernel
theorem dX5_verseOf_58 : decode cX5_verseOf 58 = .ok (.bipush 57, 2) := by decide +kernel
theorem dX5_verseOf_60 : decode cX5_verseOf 60 = .ok (.iload_n 1, 1) := by decide +kernel
theorem dX5_verseOf_61 : decode cX5_verseOf 61 = .ok (.iadd, 1) := by decide +kernel
theorem dX5_verseOf_62 : decode cX5_verseOf 62 = .ok (.iaload, 1) := by decide +kernel
theorem dX5_verseOf_63 : decode cX5_verseOf 63 = .ok (.ifCond .le 7, 3) := by decide +kernel
theorem dX5_verseOf_66 : decode cX5_verseOf 66 = .ok (.iload_n 2, 1) := by decide +kernel
theorem dX5_verseOf_67 : decode cX5_verseOf 67 = .ok (.goto 5, 3) := by decide +kernel
theorem dX5_verseOf_70 : decode cX5_verseOf 70 = .ok (.bipush (-6), 2) := by decide +kernel
theorem dX5_verseOf_72 : decode cX5_verseOf 72 = .ok (.ireturn, 1) := by decide +kernel
theorem dX5_verse_0 : decode cX5_verse 0 = .ok (.iload_n 1, 1) := by decide +kernel
theorem dX5_verse_1 : decode cX5_verse 1 = .ok (.invokestatic 72, 3) := by decide +kernel
theorem dX5_verse_4 : decode cX5_verse 4 = .ok (.ifCond .eq 11, 3) := by decide +kernel
theorem dX5_verse_7 : decode cX5_verse 7 = .ok (.aload_n 0, 1) := by decide +kernel
theorem dX5_verse_8 : decode cX5_verse 8 = .ok (.iload_n 1, 1) := by decide +kernel
theorem dX5_verse_9 : decode cX5_verse 9 = .ok (.invokevirtual 127, 3) := by decide +kernel
theorem dX5_verse_12 : decode cX5_verse 12 = .ok (.goto 4, 3) := by decide +kernel
theorem dX5_verse_15 : decode cX5_verse 15 = .ok (.iconst (-1), 1) := by decide +kernel
theorem dX5_verse_16 : decode cX5_verse 16 = .ok (.ireturn, 1) := by decide +kernel
theorem dX5_best_0 : decode cX5_best 0 = .ok (.iload_n 1, 1) := by decide +kernel
theorem dX5_best_1 : decode cX5_best 1 = .ok (.iconst 0, 1) := by decide +kernel
theorem dX5_best_2 : decode cX5_best 2 = .ok (.iconst 1, 1) := by decide +kernel
theorem dX5_best_3 : decode cX5_best 3 = .ok (.invokestatic 50, 3) := by decide +kernel
theorem dX5_best_6 : decode cX5_best 6 = .ok (.ifCond .ne 6, 3) := by decide +kernel
theorem dX5_best_9 : decode cX5_best 9 = .ok (.bipush (-2), 2) := by decide +kernel
theorem dX5_best_11 : decode cX5_best 11 = .ok (.ireturn, 1) := by decide +kernel
theorem dX5_best_12 : decode cX5_best 12 = .ok (.bipush (-6), 2) := by decide +kernel
theorem dX5_best_14 : decode cX5_best 14 = .ok (.istore_n 2, 1) := by decide +kernel
theorem dX5_best_15 : decode cX5_best 15 = .ok (.bipush (-6), 2) := by decide +kernel
theorem dX5_best_17 : decode cX5_best 17 = .ok (.istore_n 3, 1) := by decide +kernel
theorem dX5_best_18 : decode cX5_best 18 = .ok (.iconst 0, 1) := by decide +kernel
theorem dX5_best_19 : decode cX5_best 19 = .ok (.istore 4, 2) := by decide +kernel
theorem dX5_best_21 : decode cX5_best 21 = .ok (.iload 4, 2) := by decide +kernel
theorem dX5_best_23 : decode cX5_best 23 = .ok (.iconst 4, 1) := by decide +kernel
theorem dX5_best_24 : decode cX5_best 24 = .ok (.if_icmp .ge 38, 3) := by decide +kernel
theorem dX5_best_27 : decode cX5_best 27 = .ok (.aload_n 0, 1) := by decide +kernel
theorem dX5_best_28 : decode cX5_best 28 = .ok (.iload 4, 2) := by decide +kernel
theorem dX5_best_30 : decode cX5_best 30 = .ok (.invokevirtual 127, 3) := by decide +kernel
theorem dX5_best_33 : decode cX5_best 33 = .ok (.istore 5, 2) := by decide +kernel
theorem dX5_best_35 : decode cX5_best 35 = .ok (.iload 5, 2) := by decide +kernel
theorem dX5_best_37 : decode cX5_best 37 = .ok (.ifCond .lt 19, 3) := by decide +kernel
theorem dX5_best_40 : decode cX5_best 40 = .ok (.iload_n 2, 1) := by decide +kernel
theorem dX5_best_41 : decode cX5_best 41 = .ok (.ifCond .lt 9, 3) := by decide +kernel
theorem dX5_best_44 : decode cX5_best 44 = .ok (.iload 5, 2) := by decide +kernel
theorem dX5_best_46 : decode cX5_best 46 = .ok (.iload_n 3, 1) := by decide +kernel
theorem dX5_best_47 : decode cX5_best 47 = .ok (.if_icmp .ge 9, 3) := by decide +kernel
theorem dX5_best_50 : decode cX5_best 50 = .ok (.iload 4, 2) := by decide +kernel
theorem dX5_best_52 : decode cX5_best 52 = .ok (.istore_n 2, 1) := by decide +kernel
theorem dX5_best_53 : decode cX5_best 53 = .ok (.iload 5, 2) := by decide +kernel
theorem dX5_best_55 : decode cX5_best 55 = .ok (.istore_n 3, 1) := by decide +kernel
theorem dX5_best_56 : decode cX5_best 56 = .ok (.iinc 4 1, 3) := by decide +kernel
theorem dX5_best_59 : decode cX5_best 59 = .ok (.goto (-38), 3) := by decide +kernel
theorem dX5_best_62 : decode cX5_best 62 = .ok (.iload_n 1, 1) := by decide +kernel
theorem dX5_best_63 : decode cX5_best 63 = .ok (.ifCond .ne 7, 3) := by decide +kernel
theorem dX5_best_66 : decode cX5_best 66 = .ok (.iload_n 2, 1) := by decide +kernel
theorem dX5_best_67 : decode cX5_best 67 = .ok (.goto 4, 3) := by decide +kernel
theorem dX5_best_70 : decode cX5_best 70 = .ok (.iload_n 3, 1) := by decide +kernel
theorem dX5_best_71 : decode cX5_best 71 = .ok (.ireturn, 1) := by decide +kernel
theorem dX5_turned_0 : decode cX5_turned 0 = .ok (.iload_n 1, 1) := by decide +kernel
theorem dX5_turned_1 : decode cX5_turned 1 = .ok (.invokestatic 68, 3) := by decide +kernel
theorem dX5_turned_4 : decode cX5_turned 4 = .ok (.ifCond .eq 10, 3) := by decide +kernel
theorem dX5_turned_7 : decode cX5_turned 7 = .ok (.iload_n 2, 1) := by decide +kernel
theorem dX5_turned_8 : decode cX5_turned 8 = .ok (.invokestatic 72, 3) := by decide +kernel
theorem dX5_turned_11 : decode cX5_turned 11 = .ok (.ifCond .ne 5, 3) := by decide +kernel
theorem dX5_turned_14 : decode cX5_turned 14 = .ok (.iconst (-1), 1) := by decide +kernel
theorem dX5_turned_15 : decode cX5_turned 15 = .ok (.ireturn, 1) := by decide +kernel
theorem dX5_turned_16 : decode cX5_turned 16 = .ok (.iload_n 3, 1) := by decide +kernel
theorem dX5_turned_17 : decode cX5_turned 17 = .ok (.iconst 0, 1) := by decide +kernel
theorem dX5_turned_18 : decode cX5_turned 18 = .ok (.iconst 1, 1) := by decide +kernel
theorem dX5_turned_19 : decode cX5_turned 19 = .ok (.invokestatic 50, 3) := by decide +kernel
theorem dX5_turned_22 : decode cX5_turned 22 = .ok (.ifCond .ne 6, 3) := by decide +kernel
theorem dX5_turned_25 : decode cX5_turned 25 = .ok (.bipush (-2), 2) := by decide +kernel
theorem dX5_turned_27 : decode cX5_turned 27 = .ok (.ireturn, 1) := by decide +kernel
theorem dX5_turned_28 : decode cX5_turned 28 = .ok (.bipush (-6), 2) := by decide +kernel
theorem dX5_turned_30 : decode cX5_turned 30 = .ok (.istore 4, 2) := by decide +kernel
theorem dX5_turned_32 : decode cX5_turned 32 = .ok (.bipush (-6), 2) := by decide +kernel
theorem dX5_turned_34 : decode cX5_turned 34 = .ok (.istore 5, 2) := by decide +kernel
theorem dX5_turned_36 : decode cX5_turned 36 = .ok (.iconst 0, 1) := by decide +kernel
theorem dX5_turned_37 : decode cX5_turned 37 = .ok (.istore 6, 2) := by decide +kernel
theorem dX5_turned_39 : decode cX5_turned 39 = .ok (.iload 6, 2) := by decide +kernel
theorem dX5_turned_41 : decode cX5_turned 41 = .ok (.aload_n 0, 1) := by decide +kernel
theorem dX5_turned_42 : decode cX5_turned 42 = .ok (.getfield 7, 3) := by decide +kernel
theorem dX5_turned_45 : decode cX5_turned 45 = .ok (.bipush 57, 2) := by decide +kernel
theorem dX5_turned_47 : decode cX5_turned 47 = .ok (.iload_n 2, 1) := by decide +kernel
theorem dX5_turned_48 : decode cX5_turned 48 = .ok (.iadd, 1) := by decide +kernel
theorem dX5_turned_49 : decode cX5_turned 49 = .ok (.iaload, 1) := by decide +kernel
theorem dX5_turned_50 : decode cX5_turned 50 = .ok (.if_icmp .ge 54, 3) := by decide +kernel
theorem dX5_turned_53 : decode cX5_turned 53 = .ok (.aload_n 0, 1) := by decide +kernel
theorem dX5_turned_54 : decode cX5_turned 54 = .ok (.iload_n 1, 1) := by decide +kernel
theorem dX5_turned_55 : decode cX5_turned 55 = .ok (.iload_n 2, 1) := by decide +kernel
theorem dX5_turned_56 : decode cX5_turned 56 = .ok (.iload 6, 2) := by decide +kernel
theorem dX5_turned_58 : decode cX5_turned 58 = .ok (.invokevirtual 121, 3) := by decide +kernel
theorem dX5_turned_61 : decode cX5_turned 61 = .ok (.aload_n 0, 1) := by decide +kernel
theorem dX5_turned_62 : decode cX5_turned 62 = .ok (.getfield 41, 3) := by decide +kernel
theorem dX5_turned_65 : decode cX5_turned 65 = .ok (.iconst 0, 1) := by decide +kernel
theorem dX5_turned_66 : decode cX5_turned 66 = .ok (.iaload, 1) := by decide +kernel
theorem dX5_turned_67 : decode cX5_turned 67 = .ok (.ifCond .le 31, 3) := by decide +kernel
theorem dX5_turned_70 : decode cX5_turned 70 = .ok (.iload 4, 2) := by decide +kernel
theorem dX5_turned_72 : decode cX5_turned 72 = .ok (.ifCond .lt 14, 3) := by decide +kernel
theorem dX5_turned_75 : decode cX5_turned 75 = .ok (.aload_n 0, 1) := by decide +kernel
theorem dX5_turned_76 : decode cX5_turned 76 = .ok (.getfield 35, 3) := by decide +kernel
theorem dX5_turned_79 : decode cX5_turned 79 = .ok (.iconst 0, 1) := by decide +kernel
theorem dX5_turned_80 : decode cX5_turned 80 = .ok (.iaload, 1) := by decide +kernel
theorem dX5_turned_81 : decode cX5_turned 81 = .ok (.iload 5, 2) := by decide +kernel
theorem dX5_turned_83 : decode cX5_turned 83 = .ok (.if_icmp .ge 15, 3) := by decide +kernel
theorem dX5_turned_86 : decode cX5_turned 86 = .ok (.iload 6, 2) := by decide +kernel
theorem dX5_turned_88 : decode cX5_turned 88 = .ok (.istore 4, 2) := by decide +kernel
theorem dX5_turned_90 : decode cX5_turned 90 = .ok (.aload_n 0, 1) := by decide +kernel
theorem dX5_turned_91 : decode cX5_turned 91 = .ok (.getfield 35, 3) := by decide +kernel
theorem dX5_turned_94 : decode cX5_turned 94 = .ok (.iconst 0, 1) := by decide +kernel
theorem dX5_turned_95 : decode cX5_turned 95 = .ok (.iaload, 1) := by decide +kernel
theorem dX5_turned_96 : decode cX5_turned 96 = .ok (.istore 5, 2) := by decide +kernel
theorem dX5_turned_98 : decode cX5_turned 98 = .ok (.iinc 6 1, 3) := by decide +kernel
theorem dX5_turned_101 : decode cX5_turned 101 = .ok (.goto (-62), 3) := by decide +kernel
theorem dX5_turned_104 : decode cX5_turned 104 = .ok (.iload_n 3, 1) := by decide +kernel
theorem dX5_turned_105 : decode cX5_turned 105 = .ok (.ifCond .ne 8, 3) := by decide +kernel
theorem dX5_turned_108 : decode cX5_turned 108 = .ok (.iload 4, 2) := by decide +kernel
theorem dX5_turned_110 : decode cX5_turned 110 = .ok (.goto 5, 3) := by decide +kernel
theorem dX5_turned_113 : decode cX5_turned 113 = .ok (.iload 5, 2) := by decide +kernel
theorem dX5_turned_115 : decode cX5_turned 115 = .ok (.ireturn, 1) := by decide +kernel
theorem dX5_anew_0 : decode cX5_anew 0 = .ok (.iload_n 1, 1) := by decide +kernel
theorem dX5_anew_1 : decode cX5_anew 1 = .ok (.invokestatic 68, 3) := by decide +kernel
theorem dX5_anew_4 : decode cX5_anew 4 = .ok (.ifCond .eq 10, 3) := by decide +kernel
theorem dX5_anew_7 : decode cX5_anew 7 = .ok (.iload_n 2, 1) := by decide +kernel
theorem dX5_anew_8 : decode cX5_anew 8 = .ok (.invokestatic 72, 3) := by decide +kernel
theorem dX5_anew_11 : decode cX5_anew 11 = .ok (.ifCond .ne 5, 3) := by decide +kernel
theorem dX5_anew_14 : decode cX5_anew 14 = .ok (.iconst (-1), 1) := by decide +kernel
theorem dX5_anew_15 : decode cX5_anew 15 = .ok (.ireturn, 1) := by decide +kernel
theorem dX5_anew_16 : decode cX5_anew 16 = .ok (.iload_n 3, 1) := by decide +kernel
theorem dX5_anew_17 : decode cX5_anew 17 = .ok (.iconst 0, 1) := by decide +kernel
theorem dX5_anew_18 : decode cX5_anew 18 = .ok (.iconst 2, 1) := by decide +kernel
theorem dX5_anew_19 : decode cX5_anew 19 = .ok (.invokestatic 50, 3) := by decide +kernel
theorem dX5_anew_22 : decode cX5_anew 22 = .ok (.ifCond .ne 6, 3) := by decide +kernel
theorem dX5_anew_25 : decode cX5_anew 25 = .ok (.bipush (-2), 2) := by decide +kernel
theorem dX5_anew_27 : decode cX5_anew 27 = .ok (.ireturn, 1) := by decide +kernel
theorem dX5_anew_28 : decode cX5_anew 28 = .ok (.aload_n 0, 1) := by decide +kernel
theorem dX5_anew_29 : decode cX5_anew 29 = .ok (.iload_n 1, 1) := by decide +kernel
theorem dX5_anew_30 : decode cX5_anew 30 = .ok (.iload_n 2, 1) := by decide +kernel
theorem dX5_anew_31 : decode cX5_anew 31 = .ok (.iconst 0, 1) := by decide +kernel
theorem dX5_anew_32 : decode cX5_anew 32 = .ok (.invokevirtual 121, 3) := by decide +kernel
theorem dX5_anew_35 : decode cX5_anew 35 = .ok (.aload_n 0, 1) := by decide +kernel
theorem dX5_anew_36 : decode cX5_anew 36 = .ok (.getfield 41, 3) := by decide +kernel
theorem dX5_anew_39 : decode cX5_anew 39 = .ok (.iconst 0, 1) := by decide +kernel
theorem dX5_anew_40 : decode cX5_anew 40 = .ok (.iaload, 1) := by decide +kernel
theorem dX5_anew_41 : decode cX5_anew 41 = .ok (.ifCond .ne 6, 3) := by decide +kernel
theorem dX5_anew_44 : decode cX5_anew 44 = .ok (.bipush (-6), 2) := by decide +kernel
theorem dX5_anew_46 : decode cX5_anew 46 = .ok (.ireturn, 1) := by decide +kernel
theorem dX5_anew_47 : decode cX5_anew 47 = .ok (.aload_n 0, 1) := by decide +kernel
theorem dX5_anew_48 : decode cX5_anew 48 = .ok (.getfield 35, 3) := by decide +kernel
theorem dX5_anew_51 : decode cX5_anew 51 = .ok (.iconst 0, 1) := by decide +kernel
theorem dX5_anew_52 : decode cX5_anew 52 = .ok (.iaload, 1) := by decide +kernel
theorem dX5_anew_53 : decode cX5_anew 53 = .ok (.istore 4, 2) := by decide +kernel
theorem dX5_anew_55 : decode cX5_anew 55 = .ok (.bipush (-6), 2) := by decide +kernel
theorem dX5_anew_57 : decode cX5_anew 57 = .ok (.istore 5, 2) := by decide +kernel
theorem dX5_anew_59 : decode cX5_anew 59 = .ok (.bipush (-6), 2) := by decide +kernel
theorem dX5_anew_61 : decode cX5_anew 61 = .ok (.istore 6, 2) := by decide +kernel
theorem dX5_anew_63 : decode cX5_anew 63 = .ok (.iconst 0, 1) := by decide +kernel
theorem dX5_anew_64 : decode cX5_anew 64 = .ok (.istore 7, 2) := by decide +kernel
theorem dX5_anew_66 : decode cX5_anew 66 = .ok (.iload 7, 2) := by decide +kernel
theorem dX5_anew_68 : decode cX5_anew 68 = .ok (.aload_n 0, 1) := by decide +kernel
theorem dX5_anew_69 : decode cX5_anew 69 = .ok (.getfield 75, 3) := by decide +kernel
theorem dX5_anew_72 : decode cX5_anew 72 = .ok (.if_icmp .ge 82, 3) := by decide +kernel
theorem dX5_anew_75 : decode cX5_anew 75 = .ok (.aload_n 0, 1) := by decide +kernel
theorem dX5_anew_76 : decode cX5_anew 76 = .ok (.getfield 23, 3) := by decide +kernel
theorem dX5_anew_79 : decode cX5_anew 79 = .ok (.iload 7, 2) := by decide +kernel
theorem dX5_anew_81 : decode cX5_anew 81 = .ok (.iaload, 1) := by decide +kernel
theorem dX5_anew_82 : decode cX5_anew 82 = .ok (.istore 8, 2) := by decide +kernel
theorem dX5_anew_84 : decode cX5_anew 84 = .ok (.iconst 0, 1) := by decide +kernel
theorem dX5_anew_85 : decode cX5_anew 85 = .ok (.istore 9, 2) := by decide +kernel
theorem dX5_anew_87 : decode cX5_anew 87 = .ok (.iload 9, 2) := by decide +kernel
theorem dX5_anew_89 : decode cX5_anew 89 = .ok (.iconst 3, 1) := by decide +kernel
theorem dX5_anew_90 : decode cX5_anew 90 = .ok (.if_icmp .ge 49, 3) := by decide +kernel
theorem dX5_anew_93 : decode cX5_anew 93 = .ok (.aload_n 0, 1) := by decide +kernel
theorem dX5_anew_94 : decode cX5_anew 94 = .ok (.getfield 23, 3) := by decide +kernel
theorem dX5_anew_97 : decode cX5_anew 97 = .ok (.iload 7, 2) := by decide +kernel
theorem dX5_anew_99 : decode cX5_anew 99 = .ok (.iload 9, 2) := by decide +kernel
theorem dX5_anew_101 : decode cX5_anew 101 = .ok (.iastore, 1) := by decide +kernel
theorem dX5_anew_102 : decode cX5_anew 102 = .ok (.aload_n 0, 1) := by decide +kernel
theorem dX5_anew_103 : decode cX5_anew 103 = .ok (.invokevirtual 109, 3) := by decide +kernel
theorem dX5_anew_106 : decode cX5_anew 106 = .ok (.aload_n 0, 1) := by decide +kernel
theorem dX5_anew_107 : decode cX5_anew 107 = .ok (.getfield 35, 3) := by decide +kernel
theorem dX5_anew_110 : decode cX5_anew 110 = .ok (.iconst 0, 1) := by decide +kernel
theorem dX5_anew_111 : decode cX5_anew 111 = .ok (.iaload, 1) := by decide +kernel
theorem dX5_anew_112 : decode cX5_anew 112 = .ok (.iload 4, 2) := by decide +kernel
theorem dX5_anew_114 : decode cX5_anew 114 = .ok (.if_icmp .ge 19, 3) := by decide +kernel
theorem dX5_anew_117 : decode cX5_anew 117 = .ok (.aload_n 0, 1) := by decide +kernel
theorem dX5_anew_118 : decode cX5_anew 118 = .ok (.getfield 35, 3) := by decide +kernel
theorem dX5_anew_121 : decode cX5_anew 121 = .ok (.iconst 0, 1) := by decide +kernel
theorem dX5_anew_122 : decode cX5_anew 122 = .ok (.iaload, 1) := by decide +kernel
theorem dX5_anew_123 : decode cX5_anew 123 = .ok (.istore 4, 2) := by decide +kernel
theorem dX5_anew_125 : decode cX5_anew 125 = .ok (.iload 7, 2) := by decide +kernel
theorem dX5_anew_127 : decode cX5_anew 127 = .ok (.istore 5, 2) := by decide +kernel
theorem dX5_anew_129 : decode cX5_anew 129 = .ok (.iload 9, 2) := by decide +kernel
theorem dX5_anew_131 : decode cX5_anew 131 = .ok (.istore 6, 2) := by decide +kernel
theorem dX5_anew_133 : decode cX5_anew 133 = .ok (.iinc 9 1, 3) := by decide +kernel
theorem dX5_anew_136 : decode cX5_anew 136 = .ok (.goto (-49), 3) := by decide +kernel
theorem dX5_anew_139 : decode cX5_anew 139 = .ok (.aload_n 0, 1) := by decide +kernel
theorem dX5_anew_140 : decode cX5_anew 140 = .ok (.getfield 23, 3) := by decide +kernel
theorem dX5_anew_143 : decode cX5_anew 143 = .ok (.iload 7, 2) := by decide +kernel
theorem dX5_anew_145 : decode cX5_anew 145 = .ok (.iload 8, 2) := by decide +kernel
theorem dX5_anew_147 : decode cX5_anew 147 = .ok (.iastore, 1) := by decide +kernel
theorem dX5_anew_148 : decode cX5_anew 148 = .ok (.iinc 7 1, 3) := by decide +kernel
theorem dX5_anew_151 : decode cX5_anew 151 = .ok (.goto (-85), 3) := by decide +kernel
theorem dX5_anew_154 : decode cX5_anew 154 = .ok (.iload 5, 2) := by decide +kernel
theorem dX5_anew_156 : decode cX5_anew 156 = .ok (.ifCond .lt 7, 3) := by decide +kernel
theorem dX5_anew_159 : decode cX5_anew 159 = .ok (.iload_n 3, 1) := by decide +kernel
theorem dX5_anew_160 : decode cX5_anew 160 = .ok (.ifCond .ne 8, 3) := by decide +kernel
theorem dX5_anew_163 : decode cX5_anew 163 = .ok (.iload 5, 2) := by decide +kernel
theorem dX5_anew_165 : decode cX5_anew 165 = .ok (.goto 15, 3) := by decide +kernel
theorem dX5_anew_168 : decode cX5_anew 168 = .ok (.iload_n 3, 1) := by decide +kernel
theorem dX5_anew_169 : decode cX5_anew 169 = .ok (.iconst 1, 1) := by decide +kernel
theorem dX5_anew_170 : decode cX5_anew 170 = .ok (.if_icmp .ne 8, 3) := by decide +kernel
theorem dX5_anew_173 : decode cX5_anew 173 = .ok (.iload 6, 2) := by decide +kernel
theorem dX5_anew_175 : decode cX5_anew 175 = .ok (.goto 5, 3) := by decide +kernel
theorem dX5_anew_178 : decode cX5_anew 178 = .ok (.iload 4, 2) := by decide +kernel
theorem dX5_anew_180 : decode cX5_anew 180 = .ok (.ireturn, 1) := by decide +kernel
theorem dX5_image_0 : decode cX5_image 0 = .ok (.iload_n 1, 1) := by decide +kernel
theorem dX5_image_1 : decode cX5_image 1 = .ok (.iconst 0, 1) := by decide +kernel
theorem dX5_image_2 : decode cX5_image 2 = .ok (.iconst 1, 1) := by decide +kernel
theorem dX5_image_3 : decode cX5_image 3 = .ok (.invokestatic 50, 3) := by decide +kernel
theorem dX5_image_6 : decode cX5_image 6 = .ok (.ifCond .ne 6, 3) := by decide +kernel
theorem dX5_image_9 : decode cX5_image 9 = .ok (.bipush (-2), 2) := by decide +kernel
theorem dX5_image_11 : decode cX5_image 11 = .ok (.ireturn, 1) := by decide +kernel
theorem dX5_image_12 : decode cX5_image 12 = .ok (.iconst 0, 1) := by decide +kernel
theorem dX5_image_13 : decode cX5_image 13 = .ok (.istore_n 2, 1) := by decide +kernel
theorem dX5_image_14 : decode cX5_image 14 = .ok (.iload_n 2, 1) := by decide +kernel
theorem dX5_image_15 : decode cX5_image 15 = .ok (.sipush 153, 3) := by decide +kernel
theorem dX5_image_18 : decode cX5_image 18 = .ok (.if_icmp .ge 27, 3) := by decide +kernel
theorem dX5_image_21 : decode cX5_image 21 = .ok (.aload_n 0, 1) := by decide +kernel
theorem dX5_image_22 : decode cX5_image 22 = .ok (.getfield 13, 3) := by decide +kernel
theorem dX5_image_25 : decode cX5_image 25 = .ok (.sipush 153, 3) := by decide +kernel
theorem dX5_image_28 : decode cX5_image 28 = .ok (.iload_n 1, 1) := by decide +kernel
theorem dX5_image_29 : decode cX5_image 29 = .ok (.imul, 1) := by decide +kernel
theorem dX5_image_30 : decode cX5_image 30 = .ok (.iload_n 2, 1) := by decide +kernel
theorem dX5_image_31 : decode cX5_image 31 = .ok (.iadd, 1) := by decide +kernel
theorem dX5_image_32 : decode cX5_image 32 = .ok (.aload_n 0, 1) := by decide +kernel
theorem dX5_image_33 : decode cX5_image 33 = .ok (.getfield 7, 3) := by decide +kernel
theorem dX5_image_36 : decode cX5_image 36 = .ok (.iload_n 2, 1) := by decide +kernel
theorem dX5_image_37 : decode cX5_image 37 = .ok (.iaload, 1) := by decide +kernel
theorem dX5_image_38 : decode cX5_image 38 = .ok (.iastore, 1) := by decide +kernel
theorem dX5_image_39 : decode cX5_image 39 = .ok (.iinc 2 1, 3) := by decide +kernel
theorem dX5_image_42 : decode cX5_image 42 = .ok (.goto (-28), 3) := by decide +kernel
theorem dX5_image_45 : decode cX5_image 45 = .ok (.aload_n 0, 1) := by decide +kernel
theorem dX5_image_46 : decode cX5_image 46 = .ok (.getfield 16, 3) := by decide +kernel
theorem dX5_image_49 : decode cX5_image 49 = .ok (.iload_n 1, 1) := by decide +kernel
theorem dX5_image_50 : decode cX5_image 50 = .ok (.iconst 1, 1) := by decide +kernel
theorem dX5_image_51 : decode cX5_image 51 = .ok (.bastore, 1) := by decide +kernel
theorem dX5_image_52 : decode cX5_image 52 = .ok (.iconst 1, 1) := by decide +kernel
theorem dX5_image_53 : decode cX5_image 53 = .ok (.ireturn, 1) := by decide +kernel
theorem dX5_restore_0 : decode cX5_restore 0 = .ok (.iload_n 1, 1) := by decide +kernel
theorem dX5_restore_1 : decode cX5_restore 1 = .ok (.iconst 0, 1) := by decide +kernel
theorem dX5_restore_2 : decode cX5_restore 2 = .ok (.iconst 1, 1) := by decide +kernel
theorem dX5_restore_3 : decode cX5_restore 3 = .ok (.invokestatic 50, 3) := by decide +kernel
theorem dX5_restore_6 : decode cX5_restore 6 = .ok (.ifCond .ne 6, 3) := by decide +kernel
theorem dX5_restore_9 : decode cX5_restore 9 = .ok (.bipush (-2), 2) := by decide +kernel
theorem dX5_restore_11 : decode cX5_restore 11 = .ok (.ireturn, 1) := by decide +kernel
theorem dX5_restore_12 : decode cX5_restore 12 = .ok (.aload_n 0, 1) := by decide +kernel
theorem dX5_restore_13 : decode cX5_restore 13 = .ok (.getfield 16, 3) := by decide +kernel
theorem dX5_restore_16 : decode cX5_restore 16 = .ok (.iload_n 1, 1) := by decide +kernel
theorem dX5_restore_17 : decode cX5_restore 17 = .ok (.baload, 1) := by decide +kernel
theorem dX5_restore_18 : decode cX5_restore 18 = .ok (.ifCond .ne 6, 3) := by decide +kernel
theorem dX5_restore_21 : decode cX5_restore 21 = .ok (.bipush (-3), 2) := by decide +kernel
theorem dX5_restore_23 : decode cX5_restore 23 = .ok (.ireturn, 1) := by decide +kernel
theorem dX5_restore_24 : decode cX5_restore 24 = .ok (.iconst 0, 1) := by decide +kernel
theorem dX5_restore_25 : decode cX5_restore 25 = .ok (.istore_n 2, 1) := by decide +kernel
theorem dX5_restore_26 : decode cX5_restore 26 = .ok (.iload_n 2, 1) := by decide +kernel
theorem dX5_restore_27 : decode cX5_restore 27 = .ok (.sipush 153, 3) := by decide +kernel
theorem dX5_restore_30 : decode cX5_restore 30 = .ok (.if_icmp .ge 27, 3) := by decide +kernel
theorem dX5_restore_33 : decode cX5_restore 33 = .ok (.aload_n 0, 1) := by decide +kernel
theorem dX5_restore_34 : decode cX5_restore 34 = .ok (.getfield 7, 3) := by decide +kernel
theorem dX5_restore_37 : decode cX5_restore 37 = .ok (.iload_n 2, 1) := by decide +kernel
theorem dX5_restore_38 : decode cX5_restore 38 = .ok (.aload_n 0, 1) := by decide +kernel
theorem dX5_restore_39 : decode cX5_restore 39 = .ok (.getfield 13, 3) := by decide +kernel
theorem dX5_restore_42 : decode cX5_restore 42 = .ok (.sipush 153, 3) := by decide +kernel
theorem dX5_restore_45 : decode cX5_restore 45 = .ok (.iload_n 1, 1) := by decide +kernel
theorem dX5_restore_46 : decode cX5_restore 46 = .ok (.imul, 1) := by decide +kernel
theorem dX5_restore_47 : decode cX5_restore 47 = .ok (.iload_n 2, 1) := by decide +kernel
theorem dX5_restore_48 : decode cX5_restore 48 = .ok (.iadd, 1) := by decide +kernel
theorem dX5_restore_49 : decode cX5_restore 49 = .ok (.iaload, 1) := by decide +kernel
theorem dX5_restore_50 : decode cX5_restore 50 = .ok (.iastore, 1) := by decide +kernel
theorem dX5_restore_51 : decode cX5_restore 51 = .ok (.iinc 2 1, 3) := by decide +kernel
theorem dX5_restore_54 : decode cX5_restore 54 = .ok (.goto (-28), 3) := by decide +kernel
theorem dX5_restore_57 : decode cX5_restore 57 = .ok (.iconst 1, 1) := by decide +kernel
theorem dX5_restore_58 : decode cX5_restore 58 = .ok (.ireturn, 1) := by decide +kernel
theorem dX5_sumOf_0 : decode cX5_sumOf 0 = .ok (.iconst 0, 1) := by decide +kernel
theorem dX5_sumOf_1 : decode cX5_sumOf 1 = .ok (.istore_n 3, 1) := by decide +kernel
theorem dX5_sumOf_2 : decode cX5_sumOf 2 = .ok (.iconst 0, 1) := by decide +kernel
theorem dX5_sumOf_3 : decode cX5_sumOf 3 = .ok (.istore 4, 2) := by decide +kernel
theorem dX5_sumOf_5 : decode cX5_sumOf 5 = .ok (.iload 4, 2) := by decide +kernel
theorem dX5_sumOf_7 : decode cX5_sumOf 7 = .ok (.iload_n 2, 1) := by decide +kernel
theorem dX5_sumOf_8 : decode cX5_sumOf 8 = .ok (.if_icmp .ge 21, 3) := by decide +kernel
theorem dX5_sumOf_11 : decode cX5_sumOf 11 = .ok (.iload_n 3, 1) := by decide +kernel
theorem dX5_sumOf_12 : decode cX5_sumOf 12 = .ok (.aload_n 0, 1) := by decide +kernel
theorem dX5_sumOf_13 : decode cX5_sumOf 13 = .ok (.getfield 7, 3) := by decide +kernel
theorem dX5_sumOf_16 : decode cX5_sumOf 16 = .ok (.iload_n 1, 1) := by decide +kernel
theorem dX5_sumOf_17 : decode cX5_sumOf 17 = .ok (.iload 4, 2) := by decide +kernel
theorem dX5_sumOf_19 : decode cX5_sumOf 19 = .ok (.iadd, 1) := by decide +kernel
theorem dX5_sumOf_20 : decode cX5_sumOf 20 = .ok (.iaload, 1) := by decide +kernel
theorem dX5_sumOf_21 : decode cX5_sumOf 21 = .ok (.iadd, 1) := by decide +kernel
theorem dX5_sumOf_22 : decode cX5_sumOf 22 = .ok (.istore_n 3, 1) := by decide +kernel
theorem dX5_sumOf_23 : decode cX5_sumOf 23 = .ok (.iinc 4 1, 3) := by decide +kernel
theorem dX5_sumOf_26 : decode cX5_sumOf 26 = .ok (.goto (-21), 3) := by decide +kernel
theorem dX5_sumOf_29 : decode cX5_sumOf 29 = .ok (.iload_n 3, 1) := by decide +kernel
theorem dX5_sumOf_30 : decode cX5_sumOf 30 = .ok (.ireturn, 1) := by decide +kernel
theorem dX5_lengths_0 : decode cX5_lengths 0 = .ok (.iconst 0, 1) := by decide +kernel
theorem dX5_lengths_1 : decode cX5_lengths 1 = .ok (.istore_n 1, 1) := by decide +kernel
theorem dX5_lengths_2 : decode cX5_lengths 2 = .ok (.iconst 0, 1) := by decide +kernel
theorem dX5_lengths_3 : decode cX5_lengths 3 = .ok (.istore_n 2, 1) := by decide +kernel
theorem dX5_lengths_4 : decode cX5_lengths 4 = .ok (.iload_n 2, 1) := by decide +kernel
theorem dX5_lengths_5 : decode cX5_lengths 5 = .ok (.iconst 4, 1) := by decide +kernel
theorem dX5_lengths_6 : decode cX5_lengths 6 = .ok (.if_icmp .ge 32, 3) := by decide +kernel
theorem dX5_lengths_9 : decode cX5_lengths 9 = .ok (.iload_n 1, 1) := by decide +kernel
theorem dX5_lengths_10 : decode cX5_lengths 10 = .ok (.aload_n 0, 1) := by decide +kernel
theorem dX5_lengths_11 : decode cX5_lengths 11 = .ok (.bipush 105, 2) := by decide +kernel
theorem dX5_lengths_13 : decode cX5_lengths 13 = .ok (.bipush 11, 2) := by decide +kernel
theorem dX5_lengths_15 : decode cX5_lengths 15 = .ok (.iload_n 2, 1) := by decide +kernel
theorem dX5_lengths_16 : decode cX5_lengths 16 = .ok (.imul, 1) := by decide +kernel
theorem dX5_lengths_17 : decode cX5_lengths 17 = .ok (.iadd, 1) := by decide +kernel
theorem dX5_lengths_18 : decode cX5_lengths 18 = .ok (.aload_n 0, 1) := by decide +kernel
theorem dX5_lengths_19 : decode cX5_lengths 19 = .ok (.getfield 7, 3) := by decide +kernel
theorem dX5_lengths_22 : decode cX5_lengths 22 = .ok (.bipush 57, 2) := by decide +kernel
theorem dX5_lengths_24 : decode cX5_lengths 24 = .ok (.iload_n 2, 1) := by decide +kernel
theorem dX5_lengths_25 : decode cX5_lengths 25 = .ok (.iadd, 1) := by decide +kernel
theorem dX5_lengths_26 : decode cX5_lengths 26 = .ok (.iaload, 1) := by decide +kernel
theorem dX5_lengths_27 : decode cX5_lengths 27 = .ok (.invokevirtual 130, 3) := by decide +kernel
theorem dX5_lengths_30 : decode cX5_lengths 30 = .ok (.iadd, 1) := by decide +kernel
theorem dX5_lengths_31 : decode cX5_lengths 31 = .ok (.istore_n 1, 1) := by decide +kernel
theorem dX5_lengths_32 : decode cX5_lengths 32 = .ok (.iinc 2 1, 3) := by decide +kernel
theorem dX5_lengths_35 : decode cX5_lengths 35 = .ok (.goto (-31), 3) := by decide +kernel
theorem dX5_lengths_38 : decode cX5_lengths 38 = .ok (.iload_n 1, 1) := by decide +kernel
theorem dX5_lengths_39 : decode cX5_lengths 39 = .ok (.ireturn, 1) := by decide +kernel
theorem dX5_count_0 : decode cX5_count 0 = .ok (.iload_n 1, 1) := by decide +kernel
theorem dX5_count_1 : decode cX5_count 1 = .ok (.bipush 10, 2) := by decide +kernel
theorem dX5_count_3 : decode cX5_count 3 = .ok (.bipush 13, 2) := by decide +kernel
theorem dX5_count_5 : decode cX5_count 5 = .ok (.invokestatic 50, 3) := by decide +kernel
theorem dX5_count_8 : decode cX5_count 8 = .ok (.ifCond .eq 17, 3) := by decide +kernel
theorem dX5_count_11 : decode cX5_count 11 = .ok (.aload_n 0, 1) := by decide +kernel
theorem dX5_count_12 : decode cX5_count 12 = .ok (.getfield 7, 3) := by decide +kernel
theorem dX5_count_15 : decode cX5_count 15 = .ok (.sipush 149, 3) := by decide +kernel
theorem dX5_count_18 : decode cX5_count 18 = .ok (.iload_n 1, 1) := by decide +kernel
theorem dX5_count_19 : decode cX5_count 19 = .ok (.iadd, 1) := by decide +kernel
theorem dX5_count_20 : decode cX5_count 20 = .ok (.bipush 10, 2) := by decide +kernel
theorem dX5_count_22 : decode cX5_count 22 = .ok (.isub, 1) := by decide +kernel
theorem dX5_count_23 : decode cX5_count 23 = .ok (.iaload, 1) := by decide +kernel
theorem dX5_count_24 : decode cX5_count 24 = .ok (.ireturn, 1) := by decide +kernel
theorem dX5_count_25 : decode cX5_count 25 = .ok (.iload_n 1, 1) := by decide +kernel
theorem dX5_count_26 : decode cX5_count 26 = .ok (.tableswitch 89 0 4 #[34, 41, 49, 54, 59], 34) := by decide +kernel
theorem dX5_count_60 : decode cX5_count 60 = .ok (.aload_n 0, 1) := by decide +kernel
theorem dX5_count_61 : decode cX5_count 61 = .ok (.iconst 0, 1) := by decide +kernel
theorem dX5_count_62 : decode cX5_count 62 = .ok (.iconst 3, 1) := by decide +kernel
theorem dX5_count_63 : decode cX5_count 63 = .ok (.invokevirtual 130, 3) := by decide +kernel
theorem dX5_count_66 : decode cX5_count 66 = .ok (.ireturn, 1) := by decide +kernel
theorem dX5_count_67 : decode cX5_count 67 = .ok (.aload_n 0, 1) := by decide +kernel
theorem dX5_count_68 : decode cX5_count 68 = .ok (.bipush 57, 2) := by decide +kernel
theorem dX5_count_70 : decode cX5_count 70 = .ok (.iconst 4, 1) := by decide +kernel
theorem dX5_count_71 : decode cX5_count 71 = .ok (.invokevirtual 130, 3) := by decide +kernel
theorem dX5_count_74 : decode cX5_count 74 = .ok (.ireturn, 1) := by decide +kernel
theorem dX5_count_75 : decode cX5_count 75 = .ok (.aload_n 0, 1) := by decide +kernel
theorem dX5_count_76 : decode cX5_count 76 = .ok (.getfield 54, 3) := by decide +kernel
theorem dX5_count_79 : decode cX5_count 79 = .ok (.ireturn, 1) := by decide +kernel
theorem dX5_count_80 : decode cX5_count 80 = .ok (.aload_n 0, 1) := by decide +kernel
theorem dX5_count_81 : decode cX5_count 81 = .ok (.invokevirtual 133, 3) := by decide +kernel
theorem dX5_count_84 : decode cX5_count 84 = .ok (.ireturn, 1) := by decide +kernel
theorem dX5_count_85 : decode cX5_count 85 = .ok (.aload_n 0, 1) := by decide +kernel
theorem dX5_count_86 : decode cX5_count 86 = .ok (.getfield 16, 3) := by decide +kernel
theorem dX5_count_89 : decode cX5_count 89 = .ok (.iconst 0, 1) := by decide +kernel
theorem dX5_count_90 : decode cX5_count 90 = .ok (.baload, 1) := by decide +kernel
theorem dX5_count_91 : decode cX5_count 91 = .ok (.ifCond .eq 7, 3) := by decide +kernel
theorem dX5_count_94 : decode cX5_count 94 = .ok (.iconst 1, 1) := by decide +kernel
theorem dX5_count_95 : decode cX5_count 95 = .ok (.goto 4, 3) := by decide +kernel
theorem dX5_count_98 : decode cX5_count 98 = .ok (.iconst 0, 1) := by decide +kernel
theorem dX5_count_99 : decode cX5_count 99 = .ok (.aload_n 0, 1) := by decide +kernel
theorem dX5_count_100 : decode cX5_count 100 = .ok (.getfield 16, 3) := by decide +kernel
theorem dX5_count_103 : decode cX5_count 103 = .ok (.iconst 1, 1) := by decide +kernel
theorem dX5_count_104 : decode cX5_count 104 = .ok (.baload, 1) := by decide +kernel
theorem dX5_count_105 : decode cX5_count 105 = .ok (.ifCond .eq 7, 3) := by decide +kernel
theorem dX5_count_108 : decode cX5_count 108 = .ok (.iconst 2, 1) := by decide +kernel
theorem dX5_count_109 : decode cX5_count 109 = .ok (.goto 4, 3) := by decide +kernel
theorem dX5_count_112 : decode cX5_count 112 = .ok (.iconst 0, 1) := by decide +kernel
theorem dX5_count_113 : decode cX5_count 113 = .ok (.iadd, 1) := by decide +kernel
theorem dX5_count_114 : decode cX5_count 114 = .ok (.ireturn, 1) := by decide +kernel
theorem dX5_count_115 : decode cX5_count 115 = .ok (.bipush (-2), 2) := by decide +kernel
theorem dX5_count_117 : decode cX5_count 117 = .ok (.ireturn, 1) := by decide +kernel
end
section
/-! The heap as a function of numbers: after the two constructors no cell is made and no reference changes; all that changes are int fields and int arrays. Mem: cell index, slot ↦ int. -/
abbrev Mem : Type := Nat → Nat → Int32
def mrow (σ : Mem) (k : Nat) (g : Nat → Int32) : Mem := fun j => if j = k then g else σ j
def mset (σ : Mem) (k f : Nat) (x : Int32) : Mem := mrow σ k (upd (σ k) f x)
theorem mrow_s {σ : Mem} {k : Nat} {g : Nat → Int32} : mrow σ k g k = g := if_pos rfl
theorem mrow_n {σ : Mem} {k j : Nat} {g : Nat → Int32} (h : j ≠ k) : mrow σ k g j = σ j := if_neg h
theorem mset_s {σ : Mem} {k f : Nat} {x : Int32} : mset σ k f x k = upd (σ k) f x := if_pos rfl
theorem mset_n {σ : Mem} {k f j : Nat} {x : Int32} (h : j ≠ k) : mset σ k f x j = σ j := if_neg h
theorem mset_ss {σ : Mem} {k f : Nat} {x : Int32} : mset σ k f x k f = x := by rw [mset_s]; exact if_pos rfl
theorem mset_sn {σ : Mem} {k f g : Nat} {x : Int32} (h : g ≠ f) : mset σ k f x k g = σ k g := by rw [mset_s]; exact if_neg h
theorem mset_nn {σ : Mem} {k f j g : Nat} {x : Int32} (h : ¬ (j = k ∧ g = f)) : mset σ k f x j g = σ j g := by
  by_cases hj : j = k
  · subst hj
    exact mset_sn (fun e => h ⟨rfl, e⟩)
  · rw [mset_n hj]
theorem mset_if {σ : Mem} {k f j g : Nat} {x : Int32} : mset σ k f x j g = if j = k ∧ g = f then x else σ j g := by
  by_cases h : j = k ∧ g = f
  · rw [if_pos h, h.1, h.2]; exact mset_ss
  · rw [if_neg h]; exact mset_nn h
abbrev GG : Type := va_G × (Nat → Nat) × (Nat → Prop) × (ClassId × ClassId × ClassId × ClassId × ClassId) × (Nat × Nat)
def gD (G : GG) : va_G := G.1
def gad (G : GG) : Nat → Nat := G.2.1
def gA (G : GG) : Nat → Prop := G.2.2.1
def gI (G : GG) : ClassId := G.2.2.2.1.1
def gZ (G : GG) : ClassId := G.2.2.2.1.2.1
def gR (G : GG) : ClassId := G.2.2.2.1.2.2.1
def gB (G : GG) : ClassId := G.2.2.2.1.2.2.2.1
def gQ (G : GG) : ClassId := G.2.2.2.1.2.2.2.2
def gs (G : GG) : Nat := G.2.2.2.2.1
def gn (G : GG) : Nat := G.2.2.2.2.2
/-- rows: 7 b + l (line l of book b), 7 b + 3 + t (tune t), 21 the loom's words, 22 its melody -/
def roomN (r : Nat) : Nat := if r = 22 then 11 else if r % 7 < 3 then 9 else 11
def mlen (k : Nat) : Nat := if k = 135 then 153 else if k = 136 then 306 else if k = 138 then 22 else if k < 141 then 9 else if k < 143 then 11 else if k < 147 then 120 else 20
abbrev rfs (f : Nat → Nat) : (Nat → Int32) ⊕ (Nat → Int64) ⊕ (Nat → UInt32) ⊕ (Nat → UInt64) ⊕ (Nat → Option Nat) := .inr (.inr (.inr (.inr (fun j => some (f j)))))
/-- the cells by index: 0..68 rows (object, weights, spans), 69..80 books (object, lines, tunes, rules), 81 the class's object, 82 its images, 83 pad, 84 signs, 85 loom, 86 its rules, 87 steps, 88 firstOn, 89 howManyOn, 90..93 tables, 94..133 their rows, 134 the model, 135.. its arrays -/
def shp (G : GG) (k : Nat) (m : Nat → Int32) : va_E :=
  if k < 69 then
    (if k % 3 = 0 then .inr (3, [.int (nI (roomN (k / 3))), .ref (gad G (k + 1)), .ref (gad G (k + 2)), .int (m 3)])
     else .inl (gI G, roomN (k / 3), .inl m))
  else if k < 81 then
    (if (k - 69) % 4 = 0 then .inr (0, [.ref (gad G (k + 1)), .ref (gad G (k + 2)), .ref (gad G (k + 3))])
     else if (k - 69) % 4 = 1 then .inl (gR G, 3, rfs (fun j => gad G (3 * (7 * ((k - 69) / 4) + j))))
     else if (k - 69) % 4 = 2 then .inl (gR G, 4, rfs (fun j => gad G (3 * (7 * ((k - 69) / 4) + (3 + j)))))
     else .inl (gI G, 4, .inl m))
  else if k < 90 then
    (if k = 81 then .inr (4, [.ref (gad G 83), .ref (gad G 69), .ref (gad G 82), .ref (gad G 85), .int (m 4)])
     else if k = 82 then .inl (gB G, 2, rfs (fun j => gad G (69 + 4 * (1 + j))))
     else if k = 83 then .inr (2, [.ref (gad G 84), .int (m 1)])
     else if k = 85 then .inr (1, [.ref (gad G 63), .ref (gad G 66), .ref (gad G 86), .ref (gad G 90), .ref (gad G 91), .ref (gad G 92), .ref (gad G 93), .ref (gad G 87), .int (m 8), .ref (gad G 88), .ref (gad G 89)])
     else .inl (gI G, (if k = 84 then 22 else if k = 86 then 4 else if k = 87 then 20 else 11), .inl m))
  else if k < 94 then .inl (gQ G, 10, rfs (fun j => gad G (94 + 10 * (k - 90) + j)))
  else if k < 134 then .inl (gI G, 12, .inl m)
  else if k = 134 then .inr (5, [.ref (gad G 135), .ref (gad G 136), .ref (gad G 137), .ref (gad G 138), .int (m 4), .ref (gad G 139), .ref (gad G 140), .ref (gad G 141), .ref (gad G 142), .int (m 9), .int (m 10), .ref (gad G 143), .ref (gad G 144), .ref (gad G 145), .ref (gad G 146), .ref (gad G 147), .int (m 16)])
  else if k = 137 then .inl (gZ G, 2, .inl m)
  else .inl (gI G, mlen k, .inl m)
-- shapes where they are read
theorem sh_row (G : GG) {r : Nat} (h : r < 23) (m : Nat → Int32) : shp G (3 * r) m = .inr (3, [.int (nI (roomN r)), .ref (gad G (3 * r + 1)), .ref (gad G (3 * r + 2)), .int (m 3)]) := by
  unfold shp
  rw [if_pos (by omega), if_pos (by omega), show 3 * r / 3 = r by omega]
theorem sh_rw (G : GG) {r : Nat} (h : r < 23) (m : Nat → Int32) : shp G (3 * r + 1) m = .inl (gI G, roomN r, .inl m) := by
  unfold shp
  rw [if_pos (by omega), if_neg (by omega), show (3 * r + 1) / 3 = r by omega]
theorem sh_rs (G : GG) {r : Nat} (h : r < 23) (m : Nat → Int32) : shp G (3 * r + 2) m = .inl (gI G, roomN r, .inl m) := by
  unfold shp
  rw [if_pos (by omega), if_neg (by omega), show (3 * r + 2) / 3 = r by omega]
theorem sh_book (G : GG) {b : Nat} (h : b < 3) (m : Nat → Int32) : shp G (69 + 4 * b) m = .inr (0, [.ref (gad G (69 + 4 * b + 1)), .ref (gad G (69 + 4 * b + 2)), .ref (gad G (69 + 4 * b + 3))]) := by
  unfold shp
  rw [if_neg (by omega), if_pos (by omega), if_pos (by omega)]
theorem sh_bl (G : GG) {b : Nat} (h : b < 3) (m : Nat → Int32) : shp G (69 + 4 * b + 1) m = .inl (gR G, 3, rfs (fun j => gad G (3 * (7 * b + j)))) := by
  unfold shp
  rw [if_neg (by omega), if_pos (by omega), if_neg (by omega), if_pos (by omega), show (69 + 4 * b + 1 - 69) / 4 = b by omega]
theorem sh_bt (G : GG) {b : Nat} (h : b < 3) (m : Nat → Int32) : shp G (69 + 4 * b + 2) m = .inl (gR G, 4, rfs (fun j => gad G (3 * (7 * b + (3 + j))))) := by
  unfold shp
  rw [if_neg (by omega), if_pos (by omega), if_neg (by omega), if_neg (by omega), if_pos (by omega), show (69 + 4 * b + 2 - 69) / 4 = b by omega]
theorem sh_br (G : GG) {b : Nat} (h : b < 3) (m : Nat → Int32) : shp G (69 + 4 * b + 3) m = .inl (gI G, 4, .inl m) := by
  unfold shp
  rw [if_neg (by omega), if_pos (by omega), if_neg (by omega), if_neg (by omega), if_neg (by omega)]
theorem sh_63 (G : GG) (m : Nat → Int32) : shp G 63 m = .inr (3, [.int (nI 9), .ref (gad G 64), .ref (gad G 65), .int (m 3)]) := rfl
theorem sh_64 (G : GG) (m : Nat → Int32) : shp G 64 m = .inl (gI G, 9, .inl m) := rfl
theorem sh_65 (G : GG) (m : Nat → Int32) : shp G 65 m = .inl (gI G, 9, .inl m) := rfl
theorem sh_66 (G : GG) (m : Nat → Int32) : shp G 66 m = .inr (3, [.int (nI 11), .ref (gad G 67), .ref (gad G 68), .int (m 3)]) := rfl
theorem sh_67 (G : GG) (m : Nat → Int32) : shp G 67 m = .inl (gI G, 11, .inl m) := rfl
theorem sh_68 (G : GG) (m : Nat → Int32) : shp G 68 m = .inl (gI G, 11, .inl m) := rfl
theorem sh_69 (G : GG) (m : Nat → Int32) : shp G 69 m = .inr (0, [.ref (gad G 70), .ref (gad G 71), .ref (gad G 72)]) := rfl
theorem sh_70 (G : GG) (m : Nat → Int32) : shp G 70 m = .inl (gR G, 3, rfs (fun j => gad G (3 * (7 * 0 + j)))) := rfl
theorem sh_71 (G : GG) (m : Nat → Int32) : shp G 71 m = .inl (gR G, 4, rfs (fun j => gad G (3 * (7 * 0 + (3 + j))))) := rfl
theorem sh_72 (G : GG) (m : Nat → Int32) : shp G 72 m = .inl (gI G, 4, .inl m) := rfl
theorem sh_90 (G : GG) (m : Nat → Int32) : shp G 90 m = .inl (gQ G, 10, rfs (fun j => gad G (94 + 10 * 0 + j))) := rfl
theorem sh_91 (G : GG) (m : Nat → Int32) : shp G 91 m = .inl (gQ G, 10, rfs (fun j => gad G (94 + 10 * 1 + j))) := rfl
theorem sh_92 (G : GG) (m : Nat → Int32) : shp G 92 m = .inl (gQ G, 10, rfs (fun j => gad G (94 + 10 * 2 + j))) := rfl
theorem sh_93 (G : GG) (m : Nat → Int32) : shp G 93 m = .inl (gQ G, 10, rfs (fun j => gad G (94 + 10 * 3 + j))) := rfl
theorem sh_81 (G : GG) (m : Nat → Int32) : shp G 81 m = .inr (4, [.ref (gad G 83), .ref (gad G 69), .ref (gad G 82), .ref (gad G 85), .int (m 4)]) := rfl
theorem sh_82 (G : GG) (m : Nat → Int32) : shp G 82 m = .inl (gB G, 2, rfs (fun j => gad G (69 + 4 * (1 + j)))) := rfl
theorem sh_83 (G : GG) (m : Nat → Int32) : shp G 83 m = .inr (2, [.ref (gad G 84), .int (m 1)]) := rfl
theorem sh_84 (G : GG) (m : Nat → Int32) : shp G 84 m = .inl (gI G, 22, .inl m) := rfl
theorem sh_85 (G : GG) (m : Nat → Int32) : shp G 85 m = .inr (1, [.ref (gad G 63), .ref (gad G 66), .ref (gad G 86), .ref (gad G 90), .ref (gad G 91), .ref (gad G 92), .ref (gad G 93), .ref (gad G 87), .int (m 8), .ref (gad G 88), .ref (gad G 89)]) := rfl
theorem sh_86 (G : GG) (m : Nat → Int32) : shp G 86 m = .inl (gI G, 4, .inl m) := rfl
theorem sh_87 (G : GG) (m : Nat → Int32) : shp G 87 m = .inl (gI G, 20, .inl m) := rfl
theorem sh_88 (G : GG) (m : Nat → Int32) : shp G 88 m = .inl (gI G, 11, .inl m) := rfl
theorem sh_89 (G : GG) (m : Nat → Int32) : shp G 89 m = .inl (gI G, 11, .inl m) := rfl
theorem sh_tab (G : GG) {q : Nat} (h : q < 4) (m : Nat → Int32) : shp G (90 + q) m = .inl (gQ G, 10, rfs (fun j => gad G (94 + 10 * q + j))) := by
  unfold shp
  rw [if_neg (by omega), if_neg (by omega), if_neg (by omega), if_pos (by omega), show 90 + q - 90 = q by omega]
theorem sh_in (G : GG) {q i : Nat} (h : q < 4) (hi : i < 10) (m : Nat → Int32) : shp G (94 + 10 * q + i) m = .inl (gI G, 12, .inl m) := by
  unfold shp
  rw [if_neg (by omega), if_neg (by omega), if_neg (by omega), if_neg (by omega), if_pos (by omega)]
theorem sh_134 (G : GG) (m : Nat → Int32) : shp G 134 m = .inr (5, [.ref (gad G 135), .ref (gad G 136), .ref (gad G 137), .ref (gad G 138), .int (m 4), .ref (gad G 139), .ref (gad G 140), .ref (gad G 141), .ref (gad G 142), .int (m 9), .int (m 10), .ref (gad G 143), .ref (gad G 144), .ref (gad G 145), .ref (gad G 146), .ref (gad G 147), .int (m 16)]) := rfl
theorem sh_135 (G : GG) (m : Nat → Int32) : shp G 135 m = .inl (gI G, 153, .inl m) := rfl
theorem sh_136 (G : GG) (m : Nat → Int32) : shp G 136 m = .inl (gI G, 306, .inl m) := rfl
theorem sh_137 (G : GG) (m : Nat → Int32) : shp G 137 m = .inl (gZ G, 2, .inl m) := rfl
theorem sh_138 (G : GG) (m : Nat → Int32) : shp G 138 m = .inl (gI G, 22, .inl m) := rfl
theorem sh_139 (G : GG) (m : Nat → Int32) : shp G 139 m = .inl (gI G, 9, .inl m) := rfl
theorem sh_140 (G : GG) (m : Nat → Int32) : shp G 140 m = .inl (gI G, 9, .inl m) := rfl
theorem sh_141 (G : GG) (m : Nat → Int32) : shp G 141 m = .inl (gI G, 11, .inl m) := rfl
theorem sh_142 (G : GG) (m : Nat → Int32) : shp G 142 m = .inl (gI G, 11, .inl m) := rfl
theorem sh_143 (G : GG) (m : Nat → Int32) : shp G 143 m = .inl (gI G, 120, .inl m) := rfl
theorem sh_144 (G : GG) (m : Nat → Int32) : shp G 144 m = .inl (gI G, 120, .inl m) := rfl
theorem sh_145 (G : GG) (m : Nat → Int32) : shp G 145 m = .inl (gI G, 120, .inl m) := rfl
theorem sh_146 (G : GG) (m : Nat → Int32) : shp G 146 m = .inl (gI G, 120, .inl m) := rfl
theorem sh_147 (G : GG) (m : Nat → Int32) : shp G 147 m = .inl (gI G, 20, .inl m) := rfl
-- the world
def GOK (G : GG) : Prop := (∀ i j, i < 148 → j < 148 → gad G i = gad G j → i = j) ∧ ∀ k, k < 148 → gA G (gad G k)
abbrev gtys (G : GG) : List (ClassId × FieldType) := [(gI G, .int), (gZ G, .boolean), (gR G, .object RX3), (gB G, .object RX0), (gQ G, .array .int)]
def sOn : Nat → Value := fun k => if k = 1 then .int 0 else .int 1
def nOn : Nat → Value := fun k => if k = 2 then .int 0 else .int 1
abbrev nw1 : Cond := .methodLinkNest RX2 19 yX4_isWithin RX4
abbrev nw2 : Cond := .methodLinkNest RX1 148 yX4_isCheaper RX4
abbrev nw3 : Cond := .methodLinkNest RX1 84 yX4_isWithin RX4
abbrev nw4 : Cond := .fieldLinkNest RX1 105 RX4 "SYLLABLES_ON" "[I" RX4
abbrev nw5 : Cond := .fieldLinkNest RX1 108 RX4 "NOTES_ON" "[I" RX4
def KS (G : GG) (U : State) : Prop := va_K (gD G) classes (gtys G) U ∧ (va_Z RX4 "SYLLABLES_ON" "[I" (.ref (gs G)) (gA G) U U.heap ∧ va_T .int (gs G) 3 sOn (gA G) U U.heap) ∧ (va_Z RX4 "NOTES_ON" "[I" (.ref (gn G)) (gA G) U U.heap ∧ va_T .int (gn G) 3 nOn (gA G) U U.heap) ∧ va_Nw nw1 U ∧ va_Nw nw2 U ∧ va_Nw nw3 U ∧ va_Nw nw4 U ∧ va_Nw nw5 U
def MP (G : GG) (σ : Mem) (H : Heap) : Prop := ∀ k, k < 148 → va_at (gD G) classes (gad G k, shp G k (σ k)) H
def WD (G : GG) (σ : Mem) (U : State) : Prop := GOK G ∧ KS G U ∧ MP G σ U.heap
def HH (G : GG) (s : State) (σ : Mem) (H : Heap) (locs : List Loc) : Prop := MP G σ H ∧ va_S (gA G) s.heap H locs
theorem KS.to {G : GG} {s U : State} {H : Heap} {locs : List Loc} (h : KS G s) (hS : va_S (gA G) s.heap H locs) (hU : U.heap = H) (hW : s.WarmedH U.vm) : KS G U := by
  obtain ⟨h1, ⟨h2, h3⟩, ⟨h4, h5⟩, h6, h7, h8, h9, h10⟩ := h
  have hq : ∀ a : Nat, a < s.heap.size → ¬ gA G a → U.heap[a]? = s.heap[a]? := fun a x y => by rw [hU]; exact hS.2.1 a x y
  exact ⟨va_K.moved hW.alike h1, ⟨va_Z.moved hW.alike (h2.kept hq), va_T.moved hW.alike (h3.kept hq)⟩, ⟨va_Z.moved hW.alike (h4.kept hq), va_T.moved hW.alike (h5.kept hq)⟩, va_Nw.warmM hW h6, va_Nw.warmM hW h7, va_Nw.warmM hW h8, va_Nw.warmF hW h9, va_Nw.warmF hW h10⟩
theorem KS.calling {G : GG} {U : State} (h : KS G U) (g : JFrame) (mk : MethodId) (a : Array Value) : KS G (U.calling g mk a) := by
  obtain ⟨h1, ⟨h2, h3⟩, ⟨h4, h5⟩, h6, h7, h8, h9, h10⟩ := h
  exact ⟨va_K.moved (u := U) (U := U.calling g mk a) (Vm.Alike.refl U.vm) h1, ⟨va_Z.moved (u := U) (U := U.calling g mk a) (Vm.Alike.refl U.vm) h2, va_T.moved (u := U) (U := U.calling g mk a) (Vm.Alike.refl U.vm) h3⟩, ⟨va_Z.moved (u := U) (U := U.calling g mk a) (Vm.Alike.refl U.vm) h4, va_T.moved (u := U) (U := U.calling g mk a) (Vm.Alike.refl U.vm) h5⟩, va_Nw.same rfl rfl h6, va_Nw.same rfl rfl h7, va_Nw.same rfl rfl h8, va_Nw.same rfl rfl h9, va_Nw.same rfl rfl h10⟩
theorem wd_blind (G : GG) (σ : Mem) (As : List Value) : FrameBlind (va_Pc As (WD G σ)) := fun a U g mk q => by
  obtain ⟨q0, q1, q2, q3⟩ := q
  exact ⟨q0, q1, q2.calling g mk a, q3⟩
def wl (G : GG) (σ : Mem) : va_W := (List.range 148).map (fun k => (gad G k, shp G k (σ k)))
theorem wl_at {G : GG} {σ : Mem} {k : Nat} {e : va_E} (hk : k < 148) (h : shp G k (σ k) = e) : (wl G σ)[k]? = some (gad G k, e) := by
  unfold wl
  rw [List.getElem?_map, List.getElem?_range hk, ← h]
  rfl
theorem wl_of {G : GG} {σ : Mem} {k : Nat} {q : Nat × va_E} (h : (wl G σ)[k]? = some q) : k < 148 ∧ q = (gad G k, shp G k (σ k)) := by
  have hk : k < 148 := by
    have := (List.getElem?_eq_some_iff.mp h).1
    simpa [wl] using this
  rw [wl_at hk rfl] at h
  exact ⟨hk, (Option.some.inj h).symm⟩
theorem wl_P {G : GG} {σ : Mem} {H : Heap} (h : MP G σ H) : va_P (gD G) classes (wl G σ) H := fun k q hq => by
  obtain ⟨hk, rfl⟩ := wl_of hq
  exact h k hk
theorem wl_P' {G : GG} {σ : Mem} {H : Heap} (h : va_P (gD G) classes (wl G σ) H) : MP G σ H := fun k hk => h k _ (wl_at hk rfl)
theorem wl_D {G : GG} {σ : Mem} (h : GOK G) : va_D (gA G) (wl G σ) := ⟨fun i j p q hi hj hpq => by
  obtain ⟨h1, rfl⟩ := wl_of hi
  obtain ⟨h2, rfl⟩ := wl_of hj
  exact h.1 i j h1 h2 hpq, fun k q hq => by
  obtain ⟨h1, rfl⟩ := wl_of hq
  exact h.2 k h1⟩
theorem wl_set {G : GG} {σ τ : Mem} {k : Nat} {e : va_E} (h1 : ∀ j, j ≠ k → τ j = σ j) (h2 : shp G k (τ k) = e) : (wl G σ).set k (gad G k, e) = wl G τ := by
  apply List.ext_getElem?
  intro j
  by_cases hk : j = k
  · subst hk
    by_cases hj : j < 148
    · rw [List.getElem?_set_self (by simpa [wl] using hj), wl_at hj h2]
    · rw [List.getElem?_eq_none (by simp [wl]; omega), List.getElem?_eq_none (by simp [wl]; omega)]
  · rw [List.getElem?_set_ne (Ne.symm hk)]
    unfold wl
    rw [List.getElem?_map, List.getElem?_map]
    cases hr : (List.range 148)[j]? with
    | none => rfl
    | some x =>
      have hx : x = j := by
        have := List.getElem?_eq_some_iff.mp hr
        obtain ⟨a, b⟩ := this
        rw [List.getElem_range] at b
        exact b.symm
      subst hx
      show some (gad G x, shp G x (σ x)) = some (gad G x, shp G x (τ x))
      rw [h1 x hk]
-- contracts
def Ci (l : Launch) (G : GG) (y : MethodName) (b : ByteArray) (nl : Nat) (ret : Option FieldType) (fr lo : Nat) (As : List Value) (σ : Mem) (Q : Int32 → Mem → Prop) : Prop :=
  Met l y (.code y b nl ret :: TBG) { frames := fr, cells := 0, slots := 0, locals := lo } (va_Pc As (WD G σ)) (va_Qi (S := Mem) Q (fun τ t => MP G τ t.heap) (gA G)) 0 0 (gA G)
def Cv (l : Launch) (G : GG) (y : MethodName) (b : ByteArray) (nl : Nat) (fr lo : Nat) (As : List Value) (σ : Mem) (Q : Mem → Prop) : Prop :=
  Met l y (.code y b nl none :: TBG) { frames := fr, cells := 0, slots := 0, locals := lo } (va_Pc As (WD G σ)) (va_Qv (S := Mem) Q (fun τ t => MP G τ t.heap) (gA G)) 0 0 (gA G)
def FX (G : GG) (p : Program) (s : State) (m : MethodId) (args : Array Value) (meth : Method) (c : Code) (b : ByteArray) (nl : Nat) (ret : Option FieldType) (own : String) : Prop :=
  CallFix p m c b nl s args TBG own ∧ meth.sig.returnType = ret ∧ meth.locks = false ∧ GOK G ∧ KS G s
abbrev WI (l : Launch) (G : GG) (p : Program) (e : Env) (s : State) (m : MethodId) (args : Array Value) (below : List Frame) (meth : Method) (c : Code) (fr lo : Nat) (Q : Int32 → Mem → Prop) (H : Heap) (locs : List Loc) (g : JFrame) : Prop :=
  W p l e { frames := fr, cells := 0, slots := 0, locals := lo } s m args below meth c H locs 0 0 (MQ below (va_Qi (S := Mem) Q (fun τ t => MP G τ t.heap) (gA G)) args s 0 0 (gA G)) g
abbrev WV (l : Launch) (G : GG) (p : Program) (e : Env) (s : State) (m : MethodId) (args : Array Value) (below : List Frame) (meth : Method) (c : Code) (fr lo : Nat) (Q : Mem → Prop) (H : Heap) (locs : List Loc) (g : JFrame) : Prop :=
  W p l e { frames := fr, cells := 0, slots := 0, locals := lo } s m args below meth c H locs 0 0 (MQ below (va_Qv (S := Mem) Q (fun τ t => MP G τ t.heap) (gA G)) args s 0 0 (gA G)) g
theorem Ci.of {l : Launch} {G : GG} {y : MethodName} {b : ByteArray} {nl : Nat} {ret : Option FieldType} {fr lo : Nat} {As : List Value} {σ : Mem} {Q : Int32 → Mem → Prop} {own : String} (hy : plainName y.cls = true) (ho : y.cls = own) (hn : (lg_sl As).length ≤ nl)
    (body : ∀ (p : Program) (e : Env) (s : State) (m : MethodId) (args : Array Value) (below : List Frame) (meth : Method) (c : Code) (ls : Array Slot) (H : Heap) (locs : List Loc), FX G p s m args meth c b nl ret own → lv_has ls nl (lv_args 0 As) → HH G s σ H locs → WI l G p e s m args below meth c fr lo Q H locs (F0 m 0 ls [])) : Ci l G y b nl ret fr lo As σ Q := by
  refine Met.ofW (cc := b) (maxL := nl) (ret := ret) hy rfl ?_
  intro p e s m args below meth c s₁ B hml hv
  obtain ⟨rfl, hG, hK, hP⟩ := hv
  have hts := atoms_spec (ws := .code y b nl ret :: TBG) B.pre
  have hown : s.vm.findClass y.cls = some m.cls := findClass_of_methodNamed B.named
  rw [ho] at hown
  have hl := lv_entry As (n := nl) hn
  rw [lg_entry_eq]
  exact body p e s m _ below meth c _ s.heap [] ⟨⟨B.exec, B.bytes, hml, hown, fun w h => hts w (List.mem_cons_of_mem _ h)⟩, B.returns, B.notSynchronized, hG, hK⟩ hl ⟨hP, va_S.rf⟩
theorem Cv.of {l : Launch} {G : GG} {y : MethodName} {b : ByteArray} {nl : Nat} {fr lo : Nat} {As : List Value} {σ : Mem} {Q : Mem → Prop} {own : String} (hy : plainName y.cls = true) (ho : y.cls = own) (hn : (lg_sl As).length ≤ nl)
    (body : ∀ (p : Program) (e : Env) (s : State) (m : MethodId) (args : Array Value) (below : List Frame) (meth : Method) (c : Code) (ls : Array Slot) (H : Heap) (locs : List Loc), FX G p s m args meth c b nl none own → lv_has ls nl (lv_args 0 As) → HH G s σ H locs → WV l G p e s m args below meth c fr lo Q H locs (F0 m 0 ls [])) : Cv l G y b nl fr lo As σ Q := by
  refine Met.ofW (cc := b) (maxL := nl) (ret := none) hy rfl ?_
  intro p e s m args below meth c s₁ B hml hv
  obtain ⟨rfl, hG, hK, hP⟩ := hv
  have hts := atoms_spec (ws := .code y b nl none :: TBG) B.pre
  have hown : s.vm.findClass y.cls = some m.cls := findClass_of_methodNamed B.named
  rw [ho] at hown
  have hl := lv_entry As (n := nl) hn
  rw [lg_entry_eq]
  exact body p e s m _ below meth c _ s.heap [] ⟨⟨B.exec, B.bytes, hml, hown, fun w h => hts w (List.mem_cons_of_mem _ h)⟩, B.returns, B.notSynchronized, hG, hK⟩ hl ⟨hP, va_S.rf⟩
theorem FX.x {G : GG} {p : Program} {s : State} {m : MethodId} {args : Array Value} {meth : Method} {c : Code} {b : ByteArray} {nl : Nat} {ret : Option FieldType} {own : String} (X : FX G p s m args meth c b nl ret own) : p.tables.exec = Jvm.exec := X.1.1
theorem FX.b {G : GG} {p : Program} {s : State} {m : MethodId} {args : Array Value} {meth : Method} {c : Code} {b : ByteArray} {nl : Nat} {ret : Option FieldType} {own : String} (X : FX G p s m args meth c b nl ret own) : c.code = b := X.1.2.1
section BASE
variable {p : Program} {l : Launch} {e : Env} {R : Room} {s : State} {m : MethodId} {args : Array Value} {below : List Frame} {meth : Method} {c : Code} {H : Heap} {locs : List Loc} {cells slots : Nat} {Q : State → Prop} {b : ByteArray} {nl : Nat} {ret : Option FieldType} {own : String} {G : GG} {σ : Mem} {pc : Nat} {ls : Array Slot} {rest : List Value}
theorem f_iret {fr lo : Nat} {Q : Int32 → Mem → Prop} {v : Int32} (X : FX G p s m args meth c b nl (some .int) own) (hh : HH G s σ H locs) (hq : Q v σ) (d : decode b pc = .ok (.ireturn, 1)) : WI l G p e s m args below meth c fr lo Q H locs (F0 m pc ls [.int v]) :=
  W.iret X.1.1 X.1.2.1 X.2.1 (fun t ht _ => ⟨⟨v, σ, rfl, hq, by show MP G σ t.heap; rw [ht]; exact hh.1⟩, hh.2.F ht⟩) hh.2.2.2 d X.2.2.1
theorem f_zret {fr lo : Nat} {Q : Int32 → Mem → Prop} {v : Int32} (X : FX G p s m args meth c b nl (some .boolean) own) (hh : HH G s σ H locs) (hz : narrow .boolean (.int v) = .int v) (hq : Q v σ) (d : decode b pc = .ok (.ireturn, 1)) : WI l G p e s m args below meth c fr lo Q H locs (F0 m pc ls [.int v]) :=
  W.zret X.1.1 X.1.2.1 X.2.1 hz (fun t ht _ => ⟨⟨v, σ, rfl, hq, by show MP G σ t.heap; rw [ht]; exact hh.1⟩, hh.2.F ht⟩) hh.2.2.2 d X.2.2.1
theorem f_vret {fr lo : Nat} {Q : Mem → Prop} (X : FX G p s m args meth c b nl none own) (hh : HH G s σ H locs) (hq : Q σ) (d : decode b pc = .ok (.return_, 1)) : WV l G p e s m args below meth c fr lo Q H locs (F0 m pc ls []) :=
  W.vret X.1.1 X.1.2.1 X.2.1 (fun t ht _ => ⟨⟨σ, rfl, hq, by show MP G σ t.heap; rw [ht]; exact hh.1⟩, hh.2.F ht⟩) hh.2.2.2 d X.2.2.1
theorem f_get (X : FX G p s m args meth c b nl ret own) (hh : HH G s σ H locs) {k ci N idx : Nat} {C : String} {T : u_T} {fs : List Value} (hs : shp G k (σ k) = .inr (ci, fs)) (hk : k < 148) (hc : classes[ci]? = some (C, T, N)) (hin : ∀ w ∈ u_ws C T N, w ∈ TBG) (f : Nat) (hf : f < N) (hl : Cond.fieldLink own idx (T f).1 (T f).2.1 (T f).2.2.1 ∈ TBG) {v : Value} (hv : fs[f]? = some v) (d : decode b pc = .ok (.getfield idx, 3))
    (kk : W p l e R s m args below meth c H locs cells slots Q (F0 m (pc + 3) ls (v :: rest))) : W p l e R s m args below meth c H locs cells slots Q (F0 m pc ls (.ref (gad G k) :: rest)) :=
  va_get (D := gD G) (tys := gtys G) (Ts := TBG) X.1.1 X.1.2.1 X.1.2.2.2.2 hin X.1.2.2.2.1 X.2.2.2.2.1 (wl_P hh.1) k (wl_at hk hs) hc f hf (X.1.2.2.2.2 _ hl) (fun _ h => h) hv d kk
theorem f_put (X : FX G p s m args meth c b nl ret own) (hh : HH G s σ H locs) {k ci N idx : Nat} {C : String} {T : u_T} {fs : List Value} {x : Int32} (hs : shp G k (σ k) = .inr (ci, fs)) (hk : k < 148) (hc : classes[ci]? = some (C, T, N)) (hin : ∀ w ∈ u_ws C T N, w ∈ TBG) (f : Nat) (hs2 : shp G k (upd (σ k) f x) = .inr (ci, fs.set f (.int x))) (ty0 : Nat → FieldType) (hty : ∀ k, k < N → parseFieldDescriptor (T k).2.2.1 = some (ty0 k)) (hnm : ∀ a, a < N → ∀ b, b < N → a ≠ b → (T a).2.1 ≠ (T b).2.1) (hf : f < N) (hl : Cond.fieldLink own idx (T f).1 (T f).2.1 (T f).2.2.1 ∈ TBG) (hfin : (T f).2.2.2 = false) (hd : parseFieldDescriptor (T f).2.2.1 = some .int) (hlen : f < fs.length) (d : decode b pc = .ok (.putfield idx, 3))
    (kk : ∀ (H1 : Heap) (locs1 : List Loc), HH G s (mset σ k f x) H1 locs1 → W p l e R s m args below meth c H1 locs1 cells slots Q (F0 m (pc + 3) ls rest)) : W p l e R s m args below meth c H locs cells slots Q (F0 m pc ls (.int x :: .ref (gad G k) :: rest)) := by
  have hset := wl_set (G := G) (σ := σ) (τ := mset σ k f x) (k := k) (e := .inr (ci, fs.set f (.int x))) (fun j hj => mset_n hj) (by rw [mset_s]; exact hs2)
  refine va_put (D := gD G) (tys := gtys G) (Ts := TBG) (ty := .int) X.1.1 X.1.2.1 X.1.2.2.2.2 hin ty0 hty hnm X.1.2.2.2.1 X.2.2.2.2.1 (wl_P hh.1) (wl_D X.2.2.2.1) hh.2 k (wl_at hk hs) hc f hf (X.1.2.2.2.2 _ hl) (fun _ h => h) hfin hd rfl rfl hlen d (fun H1 locs1 hP hD hS => ?_)
  rw [hset] at hP
  exact kk H1 locs1 ⟨wl_P' hP, hS⟩
theorem f_iald (X : FX G p s m args meth c b nl ret own) (hh : HH G s σ H locs) {k n j : Nat} {x : Int32} (hs : shp G k (σ k) = .inl (gI G, n, .inl (σ k))) (hk : k < 148) (hx : x = nI j) (hj : j < n) (hn : n < 2 ^ 31) (d : decode b pc = .ok (.iaload, 1))
    (kk : W p l e R s m args below meth c H locs cells slots Q (F0 m (pc + 1) ls (.int (σ k j) :: rest))) : W p l e R s m args below meth c H locs cells slots Q (F0 m pc ls (.int x :: .ref (gad G k) :: rest)) := by
  subst hx
  refine va_iald (D := gD G) (tys := gtys G) X.1.1 X.1.2.1 X.2.2.2.2.1 (wl_P hh.1) k 0 (wl_at hk hs) rfl (vp_in_nI hj hn) d ?_
  rw [nI_clamp (Nat.lt_trans hj hn)]
  exact kk
theorem f_iast (X : FX G p s m args meth c b nl ret own) (hh : HH G s σ H locs) {k n j : Nat} {x v : Int32} (hs : ∀ g, shp G k g = .inl (gI G, n, .inl g)) (hk : k < 148) (hx : x = nI j) (hj : j < n) (hn : n < 2 ^ 31) (d : decode b pc = .ok (.iastore, 1))
    (kk : ∀ (H1 : Heap) (locs1 : List Loc), HH G s (mset σ k j v) H1 locs1 → W p l e R s m args below meth c H1 locs1 cells slots Q (F0 m (pc + 1) ls rest)) : W p l e R s m args below meth c H locs cells slots Q (F0 m pc ls (.int v :: .int x :: .ref (gad G k) :: rest)) := by
  subst hx
  have hset := wl_set (G := G) (σ := σ) (τ := mset σ k j v) (k := k) (e := .inl (gI G, n, .inl (upd (σ k) j v))) (fun j hj => mset_n hj) (by rw [mset_s]; exact hs _)
  refine va_iast (D := gD G) (tys := gtys G) X.1.1 X.1.2.1 X.2.2.2.2.1 (wl_P hh.1) (wl_D X.2.2.2.1) hh.2 k 0 (wl_at hk (hs _)) rfl (vp_in_nI hj hn) d (fun H1 locs1 hP hD hS => ?_)
  rw [nI_clamp (Nat.lt_trans hj hn), hset] at hP
  exact kk H1 locs1 ⟨wl_P' hP, hS⟩
theorem f_zald (X : FX G p s m args meth c b nl ret own) (hh : HH G s σ H locs) {j : Nat} {x : Int32} (hx : x = nI j) (hj : j < 2) (d : decode b pc = .ok (.baload, 1))
    (kk : W p l e R s m args below meth c H locs cells slots Q (F0 m (pc + 1) ls (.int (σ 137 j) :: rest))) : W p l e R s m args below meth c H locs cells slots Q (F0 m pc ls (.int x :: .ref (gad G 137) :: rest)) := by
  subst hx
  refine va_zald (D := gD G) (tys := gtys G) X.1.1 X.1.2.1 X.2.2.2.2.1 (wl_P hh.1) 137 1 (wl_at (by decide) (sh_137 G _)) rfl (vp_in_nI hj (by decide)) d ?_
  rw [nI_clamp (Nat.lt_trans hj (by decide))]
  exact kk
theorem f_zast (X : FX G p s m args meth c b nl ret own) (hh : HH G s σ H locs) {j : Nat} {x v : Int32} (hx : x = nI j) (hj : j < 2) (hz : vp_nar .boolean v = v) (d : decode b pc = .ok (.bastore, 1))
    (kk : ∀ (H1 : Heap) (locs1 : List Loc), HH G s (mset σ 137 j v) H1 locs1 → W p l e R s m args below meth c H1 locs1 cells slots Q (F0 m (pc + 1) ls rest)) : W p l e R s m args below meth c H locs cells slots Q (F0 m pc ls (.int v :: .int x :: .ref (gad G 137) :: rest)) := by
  subst hx
  have hset := wl_set (G := G) (σ := σ) (τ := mset σ 137 j v) (k := 137) (e := .inl (gZ G, 2, .inl (upd (σ 137) j v))) (fun j hj => mset_n hj) (by rw [mset_s]; exact sh_137 G _)
  refine va_zast (D := gD G) (tys := gtys G) X.1.1 X.1.2.1 X.2.2.2.2.1 (wl_P hh.1) (wl_D X.2.2.2.1) hh.2 137 1 (wl_at (by decide) (sh_137 G _)) rfl (vp_in_nI hj (by decide)) d (fun H1 locs1 hP hD hS => ?_)
  rw [nI_clamp (Nat.lt_trans hj (by decide)), hz, hset] at hP
  exact kk H1 locs1 ⟨wl_P' hP, hS⟩
theorem f_aald (X : FX G p s m args meth c b nl ret own) (hh : HH G s σ H locs) {k n j : Nat} {x : Int32} {cA : ClassId} {ty : FieldType} {f : Nat → Nat} (t0 : Nat) (hs : shp G k (σ k) = .inl (cA, n, rfs f)) (ht : (gtys G)[t0]? = some (cA, ty)) (hty : ty.isReference = true) (hk : k < 148) (hx : x = nI j) (hj : j < n) (hn : n < 2 ^ 31) (d : decode b pc = .ok (.aaload, 1))
    (kk : W p l e R s m args below meth c H locs cells slots Q (F0 m (pc + 1) ls (.ref (f j) :: rest))) : W p l e R s m args below meth c H locs cells slots Q (F0 m pc ls (.int x :: .ref (gad G k) :: rest)) := by
  subst hx
  have hc : (nI j).toNatClampNeg = j := nI_clamp (Nat.lt_trans hj hn)
  have hat := wl_P hh.1 k _ (wl_at hk hs)
  refine W.aald (v := .ref (f j)) (ty := ty) X.1.1 X.1.2.1 hat ((X.2.2.2.2.1.2 t0 _ ht).1 n (fun j => va_rf (some (f j)))) hty (fun q => by cases q) (by show ¬ (nI j < 0 ∨ (arrV _ _ _).slots.size ≤ _); rw [arrV_size]; exact vp_in_nI hj hn) (by show (arrV _ _ _).slots[_]? = _; rw [hc, arrV_read _ _ hj]; rfl) rfl rfl d kk
theorem f_get1 (X : FX G p s m args meth c b nl ret RX1) (hh : HH G s σ H locs) (d : decode b pc = .ok (.getstatic 105, 3))
    (kk : W p l e R s m args below meth c H locs cells slots Q (F0 m (pc + 3) ls (.ref (gs G) :: rest))) : W p l e R s m args below meth c H locs cells slots Q (F0 m pc ls rest) :=
  va_getsN X.1.1 X.1.2.1 X.2.2.2.2.2.1.1 hh.2 X.1.2.2.2.1 (va_Nw.use rfl X.2.2.2.2.2.2.2.2.2.2.1) (fun _ h => h) d kk
theorem f_get2 (X : FX G p s m args meth c b nl ret RX1) (hh : HH G s σ H locs) (d : decode b pc = .ok (.getstatic 108, 3))
    (kk : W p l e R s m args below meth c H locs cells slots Q (F0 m (pc + 3) ls (.ref (gn G) :: rest))) : W p l e R s m args below meth c H locs cells slots Q (F0 m pc ls rest) :=
  va_getsN X.1.1 X.1.2.1 X.2.2.2.2.2.2.1.1 hh.2 X.1.2.2.2.1 (va_Nw.use rfl X.2.2.2.2.2.2.2.2.2.2.2) (fun _ h => h) d kk
theorem f_ti1 (X : FX G p s m args meth c b nl ret own) (hh : HH G s σ H locs) {j : Nat} {x : Int32} (hx : x = nI j) (hj : j < 3) {v : Value} (hv : sOn j = v) (d : decode b pc = .ok (.iaload, 1))
    (kk : W p l e R s m args below meth c H locs cells slots Q (F0 m (pc + 1) ls (v :: rest))) : W p l e R s m args below meth c H locs cells slots Q (F0 m pc ls (.int x :: .ref (gs G) :: rest)) := by
  subst hx
  exact va_ti X.1.1 X.1.2.1 X.2.2.2.2.2.1.2 hh.2 (vp_in_nI hj (by decide)) (by rw [nI_clamp (Nat.lt_trans hj (by decide))]; exact hv) d kk
theorem f_ti2 (X : FX G p s m args meth c b nl ret own) (hh : HH G s σ H locs) {j : Nat} {x : Int32} (hx : x = nI j) (hj : j < 3) {v : Value} (hv : nOn j = v) (d : decode b pc = .ok (.iaload, 1))
    (kk : W p l e R s m args below meth c H locs cells slots Q (F0 m (pc + 1) ls (v :: rest))) : W p l e R s m args below meth c H locs cells slots Q (F0 m pc ls (.int x :: .ref (gn G) :: rest)) := by
  subst hx
  exact va_ti X.1.1 X.1.2.1 X.2.2.2.2.2.2.1.2 hh.2 (vp_in_nI hj (by decide)) (by rw [nI_clamp (Nat.lt_trans hj (by decide))]; exact hv) d kk
theorem f_cb {y : MethodName} {b2 : ByteArray} {nl2 n idx fr2 lo2 : Nat} {ret2 : Option FieldType} (X : FX G p s m args meth c b nl ret own) (hF : MF y b2 nl2 ret2 n) (hl : Cond.methodLink own idx y ∈ TBG) (hR : fr2 + 1 ≤ R.frames ∧ 8 + (nl2 + 11) + lo2 ≤ R.locals) : CallB R s args own idx y b2 nl2 ret2 (.code y b2 nl2 ret2 :: TBG) { frames := fr2, cells := 0, slots := 0, locals := lo2 } 0 0 n :=
  callB_of n X.1.2.2.2.2 (tb_gi hF.1) rfl rfl rfl (X.1.2.2.2.2 _ hF.2.1) (X.1.2.2.2.2 _ hl) hF.2.2 hR
theorem f_pre (X : FX G p s m args meth c b nl ret own) (hh : HH G s σ H locs) (As : List Value) : ∀ U : State, U.heap = H → s.WarmedH U.vm → va_Pc As (WD G σ) As.toArray U := fun U hU hW => ⟨rfl, X.2.2.2.1, X.2.2.2.2.to hh.2 hU hW, by rw [hU]; exact hh.1⟩
theorem f_recv (X : FX G p s m args meth c b nl ret own) (hh : HH G s σ H locs) {k ci N : Nat} {C : String} {T : u_T} {fs : List Value} (hs : shp G k (σ k) = .inr (ci, fs)) (hk : k < 148) (hc : classes[ci]? = some (C, T, N)) : ∃ cell : Cell, H[gad G k]? = some cell ∧ cell.vm.isStatics = false ∧ s.vm.findClass C = some cell.cls :=
  va_recv (q := (C, T, N)) X.2.2.2.2.1 (wl_P hh.1) hc (wl_at hk hs)
theorem f_calli (X : FX G p s m args meth c b nl ret own) (hh : HH G s σ H locs) {y : MethodName} {b2 : ByteArray} {nl2 n idx fr2 lo2 k ci N : Nat} {ret2 : Option FieldType} {T : u_T} {fs As st : List Value} {Q2 : Int32 → Mem → Prop} (hM : Ci l G y b2 nl2 ret2 fr2 lo2 (.ref (gad G k) :: As) σ Q2) (hF : MF y b2 nl2 ret2 n) (hi : Cond.instanceMethod y ∈ TBG) (hse : Cond.selects y.cls y y ∈ TBG) (hl : Cond.methodLink own idx y ∈ TBG) (hs : shp G k (σ k) = .inr (ci, fs)) (hk : k < 148) (hc : classes[ci]? = some (y.cls, T, N)) (hn : As.length = n) (hls : ls.size = nl) (rest : List Value) (hst : st = As.reverse ++ .ref (gad G k) :: rest) (hcat : (rest.map fun v => v.category).sum ≤ 8) (hR : fr2 + 1 ≤ R.frames ∧ 8 + (nl2 + 11) + lo2 ≤ R.locals) (hz : cells ≤ R.cells ∧ slots ≤ R.slots) (d : decode b pc = .ok (.invokevirtual idx, 3))
    (kk : ∀ (r : Int32) (τ : Mem) (H1 : Heap) (locs1 : List Loc), Q2 r τ → HH G s τ H1 locs1 → W p l e R s m args below meth c H1 locs1 cells slots Q (F0 m (pc + 3) ls (.int r :: rest))) : W p l e R s m args below meth c H locs cells slots Q (F0 m pc ls st) := by
  subst hst
  exact va_calli (va_runV (As := As) (rest := rest) X.1 hM ⟨f_cb X hF hl hR, X.1.2.2.2.2 _ hi, X.1.2.2.2.2 _ hse⟩ ⟨wd_blind G σ _, f_recv X hh hs hk hc, f_pre X hh _⟩ rfl hn hls rfl (lv_room hcat) d hz) hh.2 (fun _ _ h => h) (fun _ h => h) (fun r u t H1 locs1 ht hvm hq hB hz1 hk1 hS1 => kk r u H1 locs1 hq ⟨by rw [← ht]; exact hB, hS1⟩)
theorem f_callv (X : FX G p s m args meth c b nl ret own) (hh : HH G s σ H locs) {y : MethodName} {b2 : ByteArray} {nl2 n idx fr2 lo2 k ci N : Nat} {T : u_T} {fs As st : List Value} {Q2 : Mem → Prop} (hM : Cv l G y b2 nl2 fr2 lo2 (.ref (gad G k) :: As) σ Q2) (hF : MF y b2 nl2 none n) (hi : Cond.instanceMethod y ∈ TBG) (hse : Cond.selects y.cls y y ∈ TBG) (hl : Cond.methodLink own idx y ∈ TBG) (hs : shp G k (σ k) = .inr (ci, fs)) (hk : k < 148) (hc : classes[ci]? = some (y.cls, T, N)) (hn : As.length = n) (hls : ls.size = nl) (rest : List Value) (hst : st = As.reverse ++ .ref (gad G k) :: rest) (hcat : (rest.map fun v => v.category).sum ≤ 8) (hR : fr2 + 1 ≤ R.frames ∧ 8 + (nl2 + 11) + lo2 ≤ R.locals) (hz : cells ≤ R.cells ∧ slots ≤ R.slots) (d : decode b pc = .ok (.invokevirtual idx, 3))
    (kk : ∀ (τ : Mem) (H1 : Heap) (locs1 : List Loc), Q2 τ → HH G s τ H1 locs1 → W p l e R s m args below meth c H1 locs1 cells slots Q (F0 m (pc + 3) ls rest)) : W p l e R s m args below meth c H locs cells slots Q (F0 m pc ls st) := by
  subst hst
  exact va_callv (va_runV (As := As) (rest := rest) X.1 hM ⟨f_cb X hF hl hR, X.1.2.2.2.2 _ hi, X.1.2.2.2.2 _ hse⟩ ⟨wd_blind G σ _, f_recv X hh hs hk hc, f_pre X hh _⟩ rfl hn hls rfl (lv_room hcat) d hz) hh.2 (fun _ _ h => h) (fun _ h => h) (fun u t H1 locs1 ht hvm hq hB hz1 hk1 hS1 => kk u H1 locs1 hq ⟨by rw [← ht]; exact hB, hS1⟩)
theorem f_scalli (X : FX G p s m args meth c b nl ret own) (hh : HH G s σ H locs) {y : MethodName} {b2 : ByteArray} {nl2 n idx fr2 lo2 : Nat} {ret2 : Option FieldType} {As st : List Value} {Q2 : Int32 → Mem → Prop} (hM : Ci l G y b2 nl2 ret2 fr2 lo2 As σ Q2) (hF : MF y b2 nl2 ret2 n) (hi : Cond.static y ∈ TBG) (hl : Cond.methodLink own idx y ∈ TBG) (hn : As.length = n) (hls : ls.size = nl) (rest : List Value) (hst : st = As.reverse ++ rest) (hcat : (rest.map fun v => v.category).sum ≤ 8) (hR : fr2 + 1 ≤ R.frames ∧ 8 + (nl2 + 11) + lo2 ≤ R.locals) (hz : cells ≤ R.cells ∧ slots ≤ R.slots) (d : decode b pc = .ok (.invokestatic idx, 3))
    (kk : ∀ (r : Int32) (τ : Mem) (H1 : Heap) (locs1 : List Loc), Q2 r τ → HH G s τ H1 locs1 → W p l e R s m args below meth c H1 locs1 cells slots Q (F0 m (pc + 3) ls (.int r :: rest))) : W p l e R s m args below meth c H locs cells slots Q (F0 m pc ls st) := by
  subst hst
  exact va_calli (va_runS (As := As) (rest := rest) X.1 hM ⟨f_cb X hF hl hR, X.1.2.2.2.2 _ hi⟩ ⟨wd_blind G σ _, f_pre X hh _⟩ rfl hn hls rfl (lv_room hcat) d hz) hh.2 (fun _ _ h => h) (fun _ h => h) (fun r u t H1 locs1 ht hvm hq hB hz1 hk1 hS1 => kk r u H1 locs1 hq ⟨by rw [← ht]; exact hB, hS1⟩)
/-- a static call of a nest mate's private method: its link stands in KS -/
theorem f_ncalli (X : FX G p s m args meth c b nl ret own) (hh : HH G s σ H locs) {y : MethodName} {b2 : ByteArray} {nl2 n idx fr2 lo2 : Nat} {host : String} {ret2 : Option FieldType} {As st : List Value} {Q2 : Int32 → Mem → Prop} (hM : Ci l G y b2 nl2 ret2 fr2 lo2 As σ Q2) (hF : MF y b2 nl2 ret2 n) (hi : Cond.static y ∈ TBG) (hl : va_Nw (.methodLinkNest own idx y host) s) (hn : As.length = n) (hls : ls.size = nl) (rest : List Value) (hst : st = As.reverse ++ rest) (hcat : (rest.map fun v => v.category).sum ≤ 8) (hR : fr2 + 1 ≤ R.frames ∧ 8 + (nl2 + 11) + lo2 ≤ R.locals) (hz : cells ≤ R.cells ∧ slots ≤ R.slots) (d : decode b pc = .ok (.invokestatic idx, 3))
    (kk : ∀ (r : Int32) (τ : Mem) (H1 : Heap) (locs1 : List Loc), Q2 r τ → HH G s τ H1 locs1 → W p l e R s m args below meth c H1 locs1 cells slots Q (F0 m (pc + 3) ls (.int r :: rest))) : W p l e R s m args below meth c H locs cells slots Q (F0 m pc ls st) := by
  subst hst
  exact va_calli (va_runSN (As := As) (rest := rest) X.1 hM ⟨va_cnB n X.1.2.2.2.2 (tb_gi hF.1) rfl rfl rfl hl (X.1.2.2.2.2 _ hF.2.1) hF.2.2 hR, X.1.2.2.2.2 _ hi, trivial⟩ ⟨wd_blind G σ _, f_pre X hh _⟩ rfl hn hls rfl (lv_room hcat) d hz) hh.2 (fun _ _ h => h) (fun _ h => h) (fun r u t H1 locs1 ht hvm hq hB hz1 hk1 hS1 => kk r u H1 locs1 hq ⟨by rw [← ht]; exact hB, hS1⟩)
theorem f_geti (X : FX G p s m args meth c b nl ret own) (hh : HH G s σ H locs) {k ci N idx : Nat} {C : String} {T : u_T} {fs : List Value} {x : Int32} (hs : shp G k (σ k) = .inr (ci, fs)) (hk : k < 148) (hc : classes[ci]? = some (C, T, N)) (hin : ∀ w ∈ u_ws C T N, w ∈ TBG) (f : Nat) (hf : f < N) (hl : Cond.fieldLink own idx (T f).1 (T f).2.1 (T f).2.2.1 ∈ TBG) (hv : fs[f]? = some (.int (σ k f))) (hx : σ k f = x) (d : decode b pc = .ok (.getfield idx, 3))
    (kk : W p l e R s m args below meth c H locs cells slots Q (F0 m (pc + 3) ls (.int x :: rest))) : W p l e R s m args below meth c H locs cells slots Q (F0 m pc ls (.ref (gad G k) :: rest)) := by
  rw [hx] at hv
  exact f_get X hh hs hk hc hin f hf hl hv d kk
theorem f_ialdx (X : FX G p s m args meth c b nl ret own) (hh : HH G s σ H locs) {k n j : Nat} {x y : Int32} (hs : shp G k (σ k) = .inl (gI G, n, .inl (σ k))) (hk : k < 148) (hx : x = nI j) (hj : j < n) (hn : n < 2 ^ 31) (hy : σ k j = y) (d : decode b pc = .ok (.iaload, 1))
    (kk : W p l e R s m args below meth c H locs cells slots Q (F0 m (pc + 1) ls (.int y :: rest))) : W p l e R s m args below meth c H locs cells slots Q (F0 m pc ls (.int x :: .ref (gad G k) :: rest)) := by
  rw [← hy] at kk
  exact f_iald X hh hs hk hx hj hn d kk
theorem f_iadd (X : FX G p s m args meth c b nl ret own) {x y z : Int32} (hz : x + y = z) (d : decode b pc = .ok (.iadd, 1))
    (kk : W p l e R s m args below meth c H locs cells slots Q (F0 m (pc + 1) ls (.int z :: rest))) : W p l e R s m args below meth c H locs cells slots Q (F0 m pc ls (.int y :: .int x :: rest)) := by
  subst hz
  exact lv_iadd X.1.1 X.1.2.1 d kk
theorem f_isub (X : FX G p s m args meth c b nl ret own) {x y z : Int32} (hz : x - y = z) (d : decode b pc = .ok (.isub, 1))
    (kk : W p l e R s m args below meth c H locs cells slots Q (F0 m (pc + 1) ls (.int z :: rest))) : W p l e R s m args below meth c H locs cells slots Q (F0 m pc ls (.int y :: .int x :: rest)) := by
  subst hz
  exact lv_isub X.1.1 X.1.2.1 d kk
theorem f_imul (X : FX G p s m args meth c b nl ret own) {x y z : Int32} (hz : x * y = z) (d : decode b pc = .ok (.imul, 1))
    (kk : W p l e R s m args below meth c H locs cells slots Q (F0 m (pc + 1) ls (.int z :: rest))) : W p l e R s m args below meth c H locs cells slots Q (F0 m pc ls (.int y :: .int x :: rest)) := by
  subst hz
  exact lv_imul X.1.1 X.1.2.1 d kk
theorem f_mmax (X : FX G p s m args meth c b nl ret own) {idx : Nat} {x y z : Int32} (hz : (if x < y then y else x) = z) (hl : Cond.methodLink own idx Lib.Math.max.name ∈ TBG) (hls : ls.size = nl) (hR : 1 ≤ R.frames) (hlo : (rest.map fun v => v.category).sum + 13 ≤ R.locals) (hc : cells ≤ R.cells ∧ slots ≤ R.slots) (h1 : Cond.static Lib.Math.max.name ∈ TBG) (h2 : Cond.initialized "java/lang/Math" ∈ TBG) (h3 : Cond.code Lib.Math.max.name Lib.Math.max.code 2 (some .int) ∈ TBG) (d : decode b pc = .ok (.invokestatic idx, 3))
    (kk : W p l e R s m args below meth c H locs cells slots Q (F0 m (pc + 3) ls (.int z :: rest))) : W p l e R s m args below meth c H locs cells slots Q (F0 m pc ls (.int y :: .int x :: rest)) := by
  subst hz
  exact va_mmax X.1.1 X.1.2.1 (X.1.2.2.1.trans hls.symm) X.1.2.2.2.1 (X.1.2.2.2.2 _ hl) (X.1.2.2.2.2 _ h1) (X.1.2.2.2.2 _ h2) (X.1.2.2.2.2 _ h3) hR hlo hc.1 hc.2 d kk
theorem f_mmin (X : FX G p s m args meth c b nl ret own) {idx : Nat} {x y z : Int32} (hz : (if y < x then y else x) = z) (hl : Cond.methodLink own idx Lib.Math.min.name ∈ TBG) (hls : ls.size = nl) (hR : 1 ≤ R.frames) (hlo : (rest.map fun v => v.category).sum + 13 ≤ R.locals) (hc : cells ≤ R.cells ∧ slots ≤ R.slots) (h1 : Cond.static Lib.Math.min.name ∈ TBG) (h2 : Cond.initialized "java/lang/Math" ∈ TBG) (h3 : Cond.code Lib.Math.min.name Lib.Math.min.code 2 (some .int) ∈ TBG) (d : decode b pc = .ok (.invokestatic idx, 3))
    (kk : W p l e R s m args below meth c H locs cells slots Q (F0 m (pc + 3) ls (.int z :: rest))) : W p l e R s m args below meth c H locs cells slots Q (F0 m pc ls (.int y :: .int x :: rest)) := by
  subst hz
  exact va_mmin X.1.1 X.1.2.1 (X.1.2.2.1.trans hls.symm) X.1.2.2.2.1 (X.1.2.2.2.2 _ hl) (X.1.2.2.2.2 _ h1) (X.1.2.2.2.2 _ h2) (X.1.2.2.2.2 _ h3) hR hlo hc.1 hc.2 d kk
theorem f_mabs (X : FX G p s m args meth c b nl ret own) {idx : Nat} {x z : Int32} (hz : (if 0 ≤ x then x else 0 - x) = z) (hl : Cond.methodLink own idx Lib.Math.abs.name ∈ TBG) (hls : ls.size = nl) (hR : 1 ≤ R.frames) (hlo : (rest.map fun v => v.category).sum + 13 ≤ R.locals) (hc : cells ≤ R.cells ∧ slots ≤ R.slots) (h1 : Cond.static Lib.Math.abs.name ∈ TBG) (h2 : Cond.initialized "java/lang/Math" ∈ TBG) (h3 : Cond.code Lib.Math.abs.name Lib.Math.abs.code 1 (some .int) ∈ TBG) (d : decode b pc = .ok (.invokestatic idx, 3))
    (kk : W p l e R s m args below meth c H locs cells slots Q (F0 m (pc + 3) ls (.int z :: rest))) : W p l e R s m args below meth c H locs cells slots Q (F0 m pc ls (.int x :: rest)) := by
  subst hz
  exact va_mabs X.1.1 X.1.2.1 (X.1.2.2.1.trans hls.symm) X.1.2.2.2.1 (X.1.2.2.2.2 _ hl) (X.1.2.2.2.2 _ h1) (X.1.2.2.2.2 _ h2) (X.1.2.2.2.2 _ h3) hR hlo hc.1 hc.2 d kk
theorem f_copy (X : FX G p s m args meth c b nl ret own) (hh : HH G s σ H locs) {k0 k1 n0 n1 a0 a1 n idx : Nat} {x0 x1 xn : Int32} (hs0 : shp G k0 (σ k0) = .inl (gI G, n0, .inl (σ k0))) (hs1 : ∀ g, shp G k1 g = .inl (gI G, n1, .inl g)) (hk0 : k0 < 148) (hk1 : k1 < 148) (h0 : x0 = nI a0) (h1 : x1 = nI a1) (hn : xn = nI n) (b0 : a0 + n ≤ n0) (b1 : a1 + n ≤ n1) (c0 : n0 < 2 ^ 31) (c1 : n1 < 2 ^ 31) (hl : Cond.methodLink own idx arraycopyName ∈ TBG) (hls : ls.size = nl) (hR : 1 ≤ R.frames) (hlo : (rest.map fun v => v.category).sum + (nativeFrameWords "java/lang/System" "arraycopy" 5 + 11) ≤ R.locals) (q1 : Cond.native arraycopyName ∈ TBG) (q2 : Cond.static arraycopyName ∈ TBG) (q3 : Cond.initialized "java/lang/System" ∈ TBG) (d : decode b pc = .ok (.invokestatic idx, 3))
    (kk : ∀ (H1 : Heap) (locs1 : List Loc), HH G s (mrow σ k1 (va_cpy (σ k0) (σ k1) a0 a1 n)) H1 locs1 → W p l e R s m args below meth c H1 locs1 cells slots Q (F0 m (pc + 3) ls rest)) : W p l e R s m args below meth c H locs cells slots Q (F0 m pc ls (.int xn :: .int x1 :: .ref (gad G k1) :: .int x0 :: .ref (gad G k0) :: rest)) := by
  subst h0; subst h1; subst hn
  have e0 : (nI a0).toNatClampNeg = a0 := nI_clamp (by omega)
  have e1 : (nI a1).toNatClampNeg = a1 := nI_clamp (by omega)
  have en : (nI n).toNatClampNeg = n := nI_clamp (by omega)
  have hset := wl_set (G := G) (σ := σ) (τ := mrow σ k1 (va_cpy (σ k0) (σ k1) a0 a1 n)) (k := k1) (e := .inl (gI G, n1, .inl (va_cpy (σ k0) (σ k1) a0 a1 n))) (fun j hj => mrow_n hj) (by rw [mrow_s]; exact hs1 _)
  refine va_copyi (D := gD G) (tys := gtys G) (ty := .int) X.1.1 X.1.2.1 (X.1.2.2.1.trans hls.symm) X.1.2.2.2.1 (X.1.2.2.2.2 _ hl) (X.1.2.2.2.2 _ q1) (X.1.2.2.2.2 _ q2) (X.1.2.2.2.2 _ q3) X.2.2.2.2.1 (wl_P hh.1) (wl_D X.2.2.2.1) hh.2 k0 k1 0 0 (wl_at hk0 hs0) (wl_at hk1 (hs1 _)) rfl rfl rfl (nI_pos (by omega)) (nI_pos (by omega)) (nI_pos (by omega)) (by rw [e0, en]; exact b0) (by rw [e1, en]; exact b1) (fun _ _ => rfl) hR hlo d (fun H1 locs1 hP hD hS => ?_)
  rw [e0, e1, en, hset] at hP
  exact kk H1 locs1 ⟨wl_P' hP, hS⟩
theorem f_irem (X : FX G p s m args meth c b nl ret own) {x y z : Int32} (hy : ¬ y = 0) (hz : x - x / y * y = z) (d : decode b pc = .ok (.irem, 1))
    (kk : W p l e R s m args below meth c H locs cells slots Q (F0 m (pc + 1) ls (.int z :: rest))) : W p l e R s m args below meth c H locs cells slots Q (F0 m pc ls (.int y :: .int x :: rest)) := by
  subst hz
  exact lv_irem X.1.1 X.1.2.1 d hy kk
theorem f_idiv (X : FX G p s m args meth c b nl ret own) {x y z : Int32} (hy : ¬ y = 0) (hz : x / y = z) (d : decode b pc = .ok (.idiv, 1))
    (kk : W p l e R s m args below meth c H locs cells slots Q (F0 m (pc + 1) ls (.int z :: rest))) : W p l e R s m args below meth c H locs cells slots Q (F0 m pc ls (.int y :: .int x :: rest)) := by
  subst hz
  exact lv_idiv X.1.1 X.1.2.1 d hy kk
end BASE
end
section
/-! rows: n places, weights w, spans z -/
def RW (σ : Mem) (r n : Nat) (w z : Nat → Nat) : Prop := σ (3 * r) 3 = nI n ∧ n ≤ roomN r ∧ (∀ i, i < n → σ (3 * r + 1) i = nI (w i)) ∧ ∀ i, i < n → σ (3 * r + 2) i = nI (z i)
/-- nothing but row r changes -/
def Frr (r : Nat) (σ τ : Mem) : Prop := ∀ k, k / 3 ≠ r → τ k = σ k
theorem room_le (r : Nat) : roomN r ≤ 11 := by unfold roomN; split <;> (try split) <;> decide
theorem room_ge (r : Nat) : 9 ≤ roomN r := by unfold roomN; split <;> (try split) <;> decide
theorem Frr.rf {r : Nat} {σ : Mem} : Frr r σ σ := fun _ _ => rfl
theorem Frr.tr {r : Nat} {σ τ υ : Mem} (h : Frr r σ τ) (g : Frr r τ υ) : Frr r σ υ := fun k hk => (g k hk).trans (h k hk)
theorem RW.keep {σ τ : Mem} {r q n : Nat} {w z : Nat → Nat} (h : RW σ r n w z) (f : Frr q σ τ) (hq : r ≠ q) : RW τ r n w z := by
  obtain ⟨h1, h2, h3, h4⟩ := h
  refine ⟨?_, h2, fun i hi => ?_, fun i hi => ?_⟩
  · rw [f _ (by omega)]; exact h1
  · rw [f _ (by omega)]; exact h3 i hi
  · rw [f _ (by omega)]; exact h4 i hi
theorem RW.ext {σ : Mem} {r n : Nat} {w z w2 z2 : Nat → Nat} (h : RW σ r n w z) (hw : ∀ i, i < n → w2 i = w i) (hz : ∀ i, i < n → z2 i = z i) : RW σ r n w2 z2 := ⟨h.1, h.2.1, fun i hi => by rw [hw i hi]; exact h.2.2.1 i hi, fun i hi => by rw [hz i hi]; exact h.2.2.2 i hi⟩
theorem rw_clear {σ : Mem} {r : Nat} : RW (mset σ (3 * r) 3 (nI 0)) r 0 (fun _ => 0) (fun _ => 0) ∧ Frr r σ (mset σ (3 * r) 3 (nI 0)) := by
  refine ⟨⟨mset_ss, Nat.zero_le _, fun i hi => absurd hi (Nat.not_lt_zero _), fun i hi => absurd hi (Nat.not_lt_zero _)⟩, fun k hk => mset_n (fun e => hk (by omega))⟩
theorem rw_add {σ : Mem} {r n a b : Nat} {w z : Nat → Nat} (h : RW σ r n w z) (hn : n < roomN r) : RW (mset (mset (mset σ (3 * r + 1) n (nI a)) (3 * r + 2) n (nI b)) (3 * r) 3 (nI (n + 1))) r (n + 1) (fun i => if i = n then a else w i) (fun i => if i = n then b else z i) ∧ Frr r σ (mset (mset (mset σ (3 * r + 1) n (nI a)) (3 * r + 2) n (nI b)) (3 * r) 3 (nI (n + 1))) := by
  obtain ⟨h1, h2, h3, h4⟩ := h
  refine ⟨⟨mset_ss, hn, fun i hi => ?_, fun i hi => ?_⟩, fun k hk => ?_⟩
  · rw [mset_n (by omega), mset_n (by omega)]
    by_cases e : i = n
    · subst e; rw [mset_ss]; simp
    · rw [mset_sn e, h3 i (by omega)]; simp [e]
  · rw [mset_n (by omega)]
    by_cases e : i = n
    · subst e; rw [mset_ss]; simp
    · rw [mset_sn e, mset_n (by omega), h4 i (by omega)]; simp [e]
  · rw [mset_n (by omega), mset_n (by omega), mset_n (by omega)]
theorem rw_len {σ : Mem} {r n : Nat} {w z : Nat → Nat} (h : RW σ r (n + 1) w z) : RW (mset σ (3 * r + 2) n (nI 1)) r (n + 1) w (fun i => if i = n then 1 else z i) ∧ Frr r σ (mset σ (3 * r + 2) n (nI 1)) := by
  obtain ⟨h1, h2, h3, h4⟩ := h
  refine ⟨⟨?_, h2, fun i hi => ?_, fun i hi => ?_⟩, fun k hk => mset_n (by omega)⟩
  · rw [mset_n (by omega)]; exact h1
  · rw [mset_n (by omega)]; exact h3 i hi
  · by_cases e : i = n
    · subst e; rw [mset_ss]; simp
    · rw [mset_sn e, h4 i hi]; simp [e]
def sumN (f : Nat → Nat) : Nat → Nat
  | 0 => 0
  | k + 1 => sumN f k + f k

set_option maxHeartbeats 4000000 in
set_option maxRecDepth 100000 in
theorem c_clear (l : Launch) (G : GG) {σ : Mem} {r : Nat} (hr : r < 23) : Cv l G yX3_clear cX3_clear 1 0 0 [.ref (gad G (3 * r))] σ (fun τ => τ = mset σ (3 * r) 3 (nI 0)) := by
  refine Cv.of (own := RX3) (by decide) rfl (Nat.le_of_ble_eq_true rfl) (fun p e s m args below meth c ls H locs X hl hh => ?_)
  have hl : lv_has ls 1 [(0, .ref (gad G (3 * r)))] := hl
  refine lv_aload_n X.x X.b dX3_clear_0 rfl (lv_at hl 0 rfl) ?_
  refine lv_iconst (v := nI 0) X.x X.b dX3_clear_1 (by decide) ?_
  refine f_put X hh (x := nI 0) (sh_row G (r := r) (by omega) _) (by omega) rfl in_X3 3 (sh_row G (r := r) (by omega) _) tyX3 tyX3_ok nmX3 (by decide) kf_X3_7 rfl (by decide +kernel) (Nat.le_of_ble_eq_true rfl) dX3_clear_2 (fun H locs hh => ?_)
  exact f_vret X hh rfl dX3_clear_5
set_option maxHeartbeats 4000000 in
set_option maxRecDepth 100000 in
theorem c_add (l : Launch) (G : GG) {σ : Mem} {r n a b : Nat} {w z : Nat → Nat} (hr : r < 23) (hw : RW σ r n w z) (hn : n < roomN r) : Cv l G yX3_add cX3_add 3 0 0 [.ref (gad G (3 * r)), .int (nI a), .int (nI b)] σ (fun τ => RW τ r (n + 1) (fun i => if i = n then a else w i) (fun i => if i = n then b else z i) ∧ Frr r σ τ) := by
  refine Cv.of (own := RX3) (by decide) rfl (Nat.le_of_ble_eq_true rfl) (fun p e s m args below meth c ls H locs X hl hh => ?_)
  have hroom := room_le r
  have hl : lv_has ls 3 [(0, .ref (gad G (3 * r))), (1, .int (nI a)), (2, .int (nI b))] := hl
  refine lv_aload_n X.x X.b dX3_add_0 rfl (lv_at hl 0 rfl) ?_
  refine f_geti X hh (x := nI n) (sh_row G (r := r) (by omega) _) (by omega) rfl in_X3 3 (by decide) kf_X3_7 rfl hw.1 dX3_add_1 ?_
  refine lv_aload_n X.x X.b dX3_add_4 rfl (lv_at hl 0 rfl) ?_
  refine f_get X hh (v := .int (nI (roomN r))) (sh_row G (r := r) (by omega) _) (by omega) rfl in_X3 0 (by decide) kf_X3_19 rfl dX3_add_5 ?_
  refine lv_icmp_ge (tgt := 41) X.x X.b dX3_add_8 (by decide) (fun h9 => absurd h9 (nI_ge hn (by omega))) (fun _ => ?_)
  refine lv_aload_n X.x X.b dX3_add_11 rfl (lv_at hl 0 rfl) ?_
  refine f_get X hh (v := .ref (gad G (3 * r + 1))) (sh_row G (r := r) (by omega) _) (by omega) rfl in_X3 1 (by decide) kf_X3_22 rfl dX3_add_12 ?_
  refine lv_aload_n X.x X.b dX3_add_15 rfl (lv_at hl 0 rfl) ?_
  refine f_geti X hh (x := nI n) (sh_row G (r := r) (by omega) _) (by omega) rfl in_X3 3 (by decide) kf_X3_7 rfl hw.1 dX3_add_16 ?_
  refine lv_iload_n X.x X.b dX3_add_19 rfl (lv_at hl 1 rfl) ?_
  refine f_iast X hh (j := n) (fun g9 => sh_rw G (r := r) (by omega) g9) (by omega) rfl (by omega) (by unfold roomN; split <;> (try split) <;> decide) dX3_add_20 (fun H locs hh => ?_)
  refine lv_aload_n X.x X.b dX3_add_21 rfl (lv_at hl 0 rfl) ?_
  refine f_get X hh (v := .ref (gad G (3 * r + 2))) (sh_row G (r := r) (by omega) _) (by omega) rfl in_X3 2 (by decide) kf_X3_26 rfl dX3_add_22 ?_
  refine lv_aload_n X.x X.b dX3_add_25 rfl (lv_at hl 0 rfl) ?_
  refine f_geti X hh (x := nI n) (sh_row G (r := r) (by omega) _) (by omega) rfl in_X3 3 (by decide) kf_X3_7 rfl (by rw [mset_n (show 3 * r ≠ 3 * r + 1 by omega)]; exact hw.1) dX3_add_26 ?_
  refine lv_iload_n X.x X.b dX3_add_29 rfl (lv_at hl 2 rfl) ?_
  refine f_iast X hh (j := n) (fun g9 => sh_rs G (r := r) (by omega) g9) (by omega) rfl (by omega) (by unfold roomN; split <;> (try split) <;> decide) dX3_add_30 (fun H locs hh => ?_)
  refine lv_aload_n X.x X.b dX3_add_31 rfl (lv_at hl 0 rfl) ?_
  refine lv_dup X.x X.b dX3_add_32 rfl ?_
  refine f_geti X hh (x := nI n) (sh_row G (r := r) (by omega) _) (by omega) rfl in_X3 3 (by decide) kf_X3_7 rfl (by rw [mset_n (show 3 * r ≠ 3 * r + 2 by omega), mset_n (show 3 * r ≠ 3 * r + 1 by omega)]; exact hw.1) dX3_add_33 ?_
  refine lv_iconst (v := nI 1) X.x X.b dX3_add_36 (by decide) ?_
  refine f_iadd X (z := nI (n + 1)) (nI_add n 1) dX3_add_37 ?_
  refine f_put X hh (x := nI (n + 1)) (sh_row G (r := r) (by omega) _) (by omega) rfl in_X3 3 (sh_row G (r := r) (by omega) _) tyX3 tyX3_ok nmX3 (by decide) kf_X3_7 rfl (by decide +kernel) (Nat.le_of_ble_eq_true rfl) dX3_add_38 (fun H locs hh => ?_)
  exact f_vret X hh (rw_add hw hn) dX3_add_41
set_option maxHeartbeats 4000000 in
set_option maxRecDepth 100000 in
theorem c_lengthenLast (l : Launch) (G : GG) {σ : Mem} {r n : Nat} {w z : Nat → Nat} (hr : r < 23) (hw : RW σ r (n + 1) w z) : Cv l G yX3_lengthenLast cX3_lengthenLast 1 0 0 [.ref (gad G (3 * r))] σ (fun τ => RW τ r (n + 1) w (fun i => if i = n then 1 else z i) ∧ Frr r σ τ) := by
  refine Cv.of (own := RX3) (by decide) rfl (Nat.le_of_ble_eq_true rfl) (fun p e s m args below meth c ls H locs X hl hh => ?_)
  have hroom := room_le r
  have hn := hw.2.1
  have hl : lv_has ls 1 [(0, .ref (gad G (3 * r)))] := hl
  refine lv_aload_n X.x X.b dX3_lengthenLast_0 rfl (lv_at hl 0 rfl) ?_
  refine f_geti X hh (x := nI (n + 1)) (sh_row G (r := r) (by omega) _) (by omega) rfl in_X3 3 (by decide) kf_X3_7 rfl hw.1 dX3_lengthenLast_1 ?_
  refine lv_if_le (tgt := 19) X.x X.b dX3_lengthenLast_4 (by decide) (fun h9 => absurd h9 (nI_nle (Nat.succ_pos n) (by omega))) (fun _ => ?_)
  refine lv_aload_n X.x X.b dX3_lengthenLast_7 rfl (lv_at hl 0 rfl) ?_
  refine f_get X hh (v := .ref (gad G (3 * r + 2))) (sh_row G (r := r) (by omega) _) (by omega) rfl in_X3 2 (by decide) kf_X3_26 rfl dX3_lengthenLast_8 ?_
  refine lv_aload_n X.x X.b dX3_lengthenLast_11 rfl (lv_at hl 0 rfl) ?_
  refine f_geti X hh (x := nI (n + 1)) (sh_row G (r := r) (by omega) _) (by omega) rfl in_X3 3 (by decide) kf_X3_7 rfl hw.1 dX3_lengthenLast_12 ?_
  refine lv_iconst (v := nI 1) X.x X.b dX3_lengthenLast_15 (by decide) ?_
  refine f_isub X (z := nI n) (nI_pred n) dX3_lengthenLast_16 ?_
  refine lv_iconst (v := nI 1) X.x X.b dX3_lengthenLast_17 (by decide) ?_
  refine f_iast X hh (j := n) (fun g9 => sh_rs G (r := r) (by omega) g9) (by omega) rfl (by omega) (by unfold roomN; split <;> (try split) <;> decide) dX3_lengthenLast_18 (fun H locs hh => ?_)
  exact f_vret X hh (rw_len hw) dX3_lengthenLast_19
set_option maxHeartbeats 4000000 in
set_option maxRecDepth 100000 in
theorem c_addPlaces (l : Launch) (G : GG) {σ : Mem} {r q n n2 a b : Nat} {w z w2 z2 : Nat → Nat} (hr : r < 23) (hq : q < 23) (hqr : q ≠ r) (hw : RW σ r n w z) (hw2 : RW σ q n2 w2 z2) (hab : a ≤ b) (hb : b ≤ n2) (hroom : n + (b - a) ≤ roomN r) : Cv l G yX3_addPlaces cX3_addPlaces 6 1 22 [.ref (gad G (3 * r)), .ref (gad G (3 * q)), .int (nI a), .int (nI b)] σ (fun τ => RW τ r (n + (b - a)) (fun i => if i < n then w i else w2 (a + (i - n))) (fun i => if i < n then z i else z2 (a + (i - n))) ∧ Frr r σ τ) := by
  refine Cv.of (own := RX3) (by decide) rfl (Nat.le_of_ble_eq_true rfl) (fun p e s m args below meth c ls H locs X hl hh => ?_)
  have hR := room_le r
  have hR2 := room_le q
  have hn2 := hw2.2.1
  have lp : ∀ (k i : Nat), b - i = k → a ≤ i → i ≤ b → ∀ (υ : Mem), RW υ r (n + (i - a)) (fun j => if j < n then w j else w2 (a + (j - n))) (fun j => if j < n then z j else z2 (a + (j - n))) → Frr r σ υ → ∀ (ls : Array Slot) (H : Heap) (locs : List Loc), lv_has ls 6 [(5, .int (nI i)), (4, .int (nI b)), (0, .ref (gad G (3 * r))), (1, .ref (gad G (3 * q))), (2, .int (nI a)), (3, .int (nI b))] → HH G s υ H locs → WV l G p e s m args below meth c 1 22 (fun τ => RW τ r (n + (b - a)) (fun i => if i < n then w i else w2 (a + (i - n))) (fun i => if i < n then z i else z2 (a + (i - n))) ∧ Frr r σ τ) H locs (F0 m 17 ls []) := by
    intro k
    induction k using Nat.strongRecOn with
    | ind k ih =>
      intro i hk ha hi υ hv hf ls H locs hl hh
      have hv2 := hw2.keep hf hqr
      refine lv_iload X.x X.b dX3_addPlaces_17 (lv_at hl 0 rfl) ?_
      refine lv_iload X.x X.b dX3_addPlaces_19 (lv_at hl 1 rfl) ?_
      refine lv_icmp_ge (tgt := 48) X.x X.b dX3_addPlaces_21 (by decide) (fun c_1 => ?_) (fun c_1 => ?_)
      · have c_1 : b ≤ i := (nI_leI (a := b) (b := i) (by omega) (by omega)).mp c_1
        exact f_vret X hh (by obtain rfl : i = b := (by omega); exact ⟨hv, hf⟩) dX3_addPlaces_48
      · have c_1 : ¬ b ≤ i := fun q9 => c_1 ((nI_leI (a := b) (b := i) (by omega) (by omega)).mpr q9)
        refine lv_aload_n X.x X.b dX3_addPlaces_24 rfl (lv_at hl 2 rfl) ?_
        refine lv_aload_n X.x X.b dX3_addPlaces_25 rfl (lv_at hl 3 rfl) ?_
        refine f_get X hh (v := .ref (gad G (3 * q + 1))) (sh_row G (r := q) (by omega) _) (by omega) rfl in_X3 1 (by decide) kf_X3_22 rfl dX3_addPlaces_26 ?_
        refine lv_iload X.x X.b dX3_addPlaces_29 (lv_at hl 0 rfl) ?_
        refine f_ialdx X hh (j := i) (y := nI (w2 i)) (sh_rw G (r := q) (by omega) _) (by omega) rfl (by omega) (by unfold roomN; split <;> (try split) <;> decide) (hv2.2.2.1 _ (by omega)) dX3_addPlaces_31 ?_
        refine lv_aload_n X.x X.b dX3_addPlaces_32 rfl (lv_at hl 3 rfl) ?_
        refine f_get X hh (v := .ref (gad G (3 * q + 2))) (sh_row G (r := q) (by omega) _) (by omega) rfl in_X3 2 (by decide) kf_X3_26 rfl dX3_addPlaces_33 ?_
        refine lv_iload X.x X.b dX3_addPlaces_36 (lv_at hl 0 rfl) ?_
        refine f_ialdx X hh (j := i) (y := nI (z2 i)) (sh_rs G (r := q) (by omega) _) (by omega) rfl (by omega) (by unfold roomN; split <;> (try split) <;> decide) (hv2.2.2.2 _ (by omega)) dX3_addPlaces_38 ?_
        refine f_callv X hh (c_add l G (a := w2 i) (b := z2 i) hr hv (by omega)) mf_yX3_add ki_yX3_add kl_yX3_add km_X3_32 (sh_row G (r := r) (by omega) _) (by omega) rfl rfl hl.1 [] rfl (Nat.le_of_ble_eq_true rfl) ⟨by decide, by decide⟩ ⟨Nat.zero_le _, Nat.zero_le _⟩ dX3_addPlaces_39 (fun τ H locs hq hh => ?_)
        obtain ⟨hv3, hf3⟩ := hq
        refine lv_iinc (v := nI (i + 1)) (lv' := [(5, .int (nI (i + 1))), (4, .int (nI b)), (0, .ref (gad G (3 * r))), (1, .ref (gad G (3 * q))), (2, .int (nI a)), (3, .int (nI b))]) X.x X.b dX3_addPlaces_42 hl (k := 0) rfl (nI_1 i) (by decide) rfl (fun ls hl => ?_)
        refine lv_goto (tgt := 17) X.x X.b dX3_addPlaces_45 (by decide) ?_
        refine ih (b - (i + 1)) (by omega) (i + 1) rfl (by omega) (by omega) _ ?_ (hf.tr hf3) ls H locs (lv_sub hl [0, 1, 2, 3, 4, 5] rfl) hh
        rw [show n + (i + 1 - a) = n + (i - a) + 1 by omega]
        refine hv3.ext (fun j hj => ?_) (fun j hj => ?_)
        · by_cases e9 : j = n + (i - a)
          · subst e9; rw [if_neg (by omega), if_pos rfl, show a + (n + (i - a) - n) = i by omega]
          · simp [e9]
        · by_cases e9 : j = n + (i - a)
          · subst e9; rw [if_neg (by omega), if_pos rfl, show a + (n + (i - a) - n) = i by omega]
          · simp [e9]
  have hl : lv_has ls 6 [(0, .ref (gad G (3 * r))), (1, .ref (gad G (3 * q))), (2, .int (nI a)), (3, .int (nI b))] := hl
  refine lv_iload_n X.x X.b dX3_addPlaces_0 rfl (lv_at hl 3 rfl) ?_
  refine lv_aload_n X.x X.b dX3_addPlaces_1 rfl (lv_at hl 1 rfl) ?_
  refine f_geti X hh (x := nI n2) (sh_row G (r := q) (by omega) _) (by omega) rfl in_X3 3 (by decide) kf_X3_7 rfl hw2.1 dX3_addPlaces_2 ?_
  refine f_mmin X (z := nI b) (if_neg (nI_nlt hb (by omega))) km_X3_29 hl.1 (by decide) (Nat.le_of_ble_eq_true rfl) ⟨Nat.zero_le _, Nat.zero_le _⟩ ks_yJ9_min_7cf53 kn_J9 kc_yJ9_min_7cf53 dX3_addPlaces_5 ?_
  refine lv_istore (lv' := [(4, .int (nI b)), (0, .ref (gad G (3 * r))), (1, .ref (gad G (3 * q))), (2, .int (nI a)), (3, .int (nI b))]) X.x X.b dX3_addPlaces_8 hl (by decide) rfl (fun ls hl => ?_)
  refine lv_iload_n X.x X.b dX3_addPlaces_10 rfl (lv_at hl 3 rfl) ?_
  refine lv_iconst (v := nI 0) X.x X.b dX3_addPlaces_11 (by decide) ?_
  refine f_mmax X (z := nI a) (if_neg (nI_nlt (Nat.zero_le a) (by omega))) km_X3_13 hl.1 (by decide) (Nat.le_of_ble_eq_true rfl) ⟨Nat.zero_le _, Nat.zero_le _⟩ ks_yJ9_max_7cf53 kn_J9 kc_yJ9_max_7cf53 dX3_addPlaces_12 ?_
  refine lv_istore (lv' := [(5, .int (nI a)), (4, .int (nI b)), (0, .ref (gad G (3 * r))), (1, .ref (gad G (3 * q))), (2, .int (nI a)), (3, .int (nI b))]) X.x X.b dX3_addPlaces_15 hl (by decide) rfl (fun ls hl => ?_)
  refine lp (b - a) a rfl (Nat.le_refl a) hab _ ?_ Frr.rf ls H locs (lv_sub hl [0, 1, 2, 3, 4, 5] rfl) hh
  rw [show n + (a - a) = n by omega]
  exact hw.ext (fun j hj => if_pos hj) (fun j hj => if_pos hj)
set_option maxHeartbeats 4000000 in
set_option maxRecDepth 100000 in
theorem c_copyFrom (l : Launch) (G : GG) {σ : Mem} {r q n2 : Nat} {w2 z2 : Nat → Nat} (hr : r < 23) (hq : q < 23) (hqr : q ≠ r) (hw2 : RW σ q n2 w2 z2) (hroom : n2 ≤ roomN r) : Cv l G yX3_copyFrom cX3_copyFrom 2 2 47 [.ref (gad G (3 * r)), .ref (gad G (3 * q))] σ (fun τ => RW τ r n2 w2 z2 ∧ Frr r σ τ) := by
  refine Cv.of (own := RX3) (by decide) rfl (Nat.le_of_ble_eq_true rfl) (fun p e s m args below meth c ls H locs X hl hh => ?_)
  have hl : lv_has ls 2 [(0, .ref (gad G (3 * r))), (1, .ref (gad G (3 * q)))] := hl
  refine lv_aload_n X.x X.b dX3_copyFrom_0 rfl (lv_at hl 0 rfl) ?_
  refine f_callv X hh (c_clear l G hr) mf_yX3_clear ki_yX3_clear kl_yX3_clear km_X3_36 (sh_row G (r := r) (by omega) _) (by omega) rfl rfl hl.1 [] rfl (Nat.le_of_ble_eq_true rfl) ⟨by decide, by decide⟩ ⟨Nat.zero_le _, Nat.zero_le _⟩ dX3_copyFrom_1 (fun τ H locs hq hh => ?_)
  subst hq
  have hf0 := (rw_clear (σ := σ) (r := r)).2
  have hv0 := (rw_clear (σ := σ) (r := r)).1
  have hv2 := hw2.keep hf0 hqr
  refine lv_aload_n X.x X.b dX3_copyFrom_4 rfl (lv_at hl 0 rfl) ?_
  refine lv_aload_n X.x X.b dX3_copyFrom_5 rfl (lv_at hl 1 rfl) ?_
  refine lv_iconst (v := nI 0) X.x X.b dX3_copyFrom_6 (by decide) ?_
  refine lv_aload_n X.x X.b dX3_copyFrom_7 rfl (lv_at hl 1 rfl) ?_
  refine f_geti X hh (x := nI n2) (sh_row G (r := q) (by omega) _) (by omega) rfl in_X3 3 (by decide) kf_X3_7 rfl hv2.1 dX3_copyFrom_8 ?_
  refine f_callv X hh (c_addPlaces l G (a := 0) (b := n2) hr hq hqr hv0 hv2 (Nat.zero_le _) (Nat.le_refl _) (by omega)) mf_yX3_addPlaces ki_yX3_addPlaces kl_yX3_addPlaces km_X3_39 (sh_row G (r := r) (by omega) _) (by omega) rfl rfl hl.1 [] rfl (Nat.le_of_ble_eq_true rfl) ⟨by decide, by decide⟩ ⟨Nat.zero_le _, Nat.zero_le _⟩ dX3_copyFrom_11 (fun τ H locs hq hh => ?_)
  obtain ⟨hv3, hf3⟩ := hq
  exact f_vret X hh ⟨(by rw [show 0 + (n2 - 0) = n2 by omega] at hv3; exact hv3.ext (fun j hj => by simp) (fun j hj => by simp)), hf0.tr hf3⟩ dX3_copyFrom_14
set_option maxHeartbeats 4000000 in
set_option maxRecDepth 100000 in
theorem c_spansInAll (l : Launch) (G : GG) {σ : Mem} {q n : Nat} {w z : Nat → Nat} (hq : q < 23) (hw : RW σ q n w z) : Ci l G yX3_spansInAll cX3_spansInAll 3 (some .int) 0 0 [.ref (gad G (3 * q))] σ (fun r τ => r = nI (sumN z n) ∧ τ = σ) := by
  refine Ci.of (own := RX3) (by decide) rfl (Nat.le_of_ble_eq_true rfl) (fun p e s m args below meth c ls H locs X hl hh => ?_)
  have hR := room_le q
  have hn := hw.2.1
  have lp : ∀ (k i : Nat), n - i = k → i ≤ n → ∀ (ls : Array Slot) (H : Heap) (locs : List Loc), lv_has ls 3 [(2, .int (nI i)), (1, .int (nI (sumN z i))), (0, .ref (gad G (3 * q)))] → HH G s σ H locs → WI l G p e s m args below meth c 0 0 (fun r τ => r = nI (sumN z n) ∧ τ = σ) H locs (F0 m 4 ls []) := by
    intro k
    induction k using Nat.strongRecOn with
    | ind k ih =>
      intro i hk hi ls H locs hl hh
      refine lv_iload_n X.x X.b dX3_spansInAll_4 rfl (lv_at hl 0 rfl) ?_
      refine lv_aload_n X.x X.b dX3_spansInAll_5 rfl (lv_at hl 2 rfl) ?_
      refine f_geti X hh (x := nI n) (sh_row G (r := q) (by omega) _) (by omega) rfl in_X3 3 (by decide) kf_X3_7 rfl hw.1 dX3_spansInAll_6 ?_
      refine lv_icmp_ge (tgt := 27) X.x X.b dX3_spansInAll_9 (by decide) (fun c_1 => ?_) (fun c_1 => ?_)
      · have c_1 : n ≤ i := (nI_leI (a := n) (b := i) (by omega) (by omega)).mp c_1
        refine lv_iload_n X.x X.b dX3_spansInAll_27 rfl (lv_at hl 1 rfl) ?_
        exact f_iret X hh ⟨by rw [show n = i by omega], rfl⟩ dX3_spansInAll_28
      · have c_1 : ¬ n ≤ i := fun q9 => c_1 ((nI_leI (a := n) (b := i) (by omega) (by omega)).mpr q9)
        refine lv_iload_n X.x X.b dX3_spansInAll_12 rfl (lv_at hl 1 rfl) ?_
        refine lv_aload_n X.x X.b dX3_spansInAll_13 rfl (lv_at hl 2 rfl) ?_
        refine f_get X hh (v := .ref (gad G (3 * q + 2))) (sh_row G (r := q) (by omega) _) (by omega) rfl in_X3 2 (by decide) kf_X3_26 rfl dX3_spansInAll_14 ?_
        refine lv_iload_n X.x X.b dX3_spansInAll_17 rfl (lv_at hl 0 rfl) ?_
        refine f_ialdx X hh (j := i) (y := nI (z i)) (sh_rs G (r := q) (by omega) _) (by omega) rfl (by omega) (by unfold roomN; split <;> (try split) <;> decide) (hw.2.2.2 _ (by omega)) dX3_spansInAll_18 ?_
        refine f_iadd X (z := nI (sumN z i + z i)) (nI_add (sumN z i) (z i)) dX3_spansInAll_19 ?_
        refine lv_istore_n (lv' := [(1, .int (nI (sumN z i + z i))), (2, .int (nI i)), (0, .ref (gad G (3 * q)))]) X.x X.b dX3_spansInAll_20 rfl hl (by decide) rfl (fun ls hl => ?_)
        refine lv_iinc (v := nI (i + 1)) (lv' := [(2, .int (nI (i + 1))), (1, .int (nI (sumN z i + z i))), (0, .ref (gad G (3 * q)))]) X.x X.b dX3_spansInAll_21 hl (k := 1) rfl (nI_1 i) (by decide) rfl (fun ls hl => ?_)
        refine lv_goto (tgt := 4) X.x X.b dX3_spansInAll_24 (by decide) ?_
        exact ih (n - (i + 1)) (by omega) (i + 1) rfl (by omega) ls H locs (lv_sub hl [0, 1, 2] rfl) hh
  have hl : lv_has ls 3 [(0, .ref (gad G (3 * q)))] := hl
  refine lv_iconst (v := nI 0) X.x X.b dX3_spansInAll_0 (by decide) ?_
  refine lv_istore_n (lv' := [(1, .int (nI 0)), (0, .ref (gad G (3 * q)))]) X.x X.b dX3_spansInAll_1 rfl hl (by decide) rfl (fun ls hl => ?_)
  refine lv_iconst (v := nI 0) X.x X.b dX3_spansInAll_2 (by decide) ?_
  refine lv_istore_n (lv' := [(2, .int (nI 0)), (1, .int (nI 0)), (0, .ref (gad G (3 * q)))]) X.x X.b dX3_spansInAll_3 rfl hl (by decide) rfl (fun ls hl => ?_)
  exact lp n 0 rfl (Nat.zero_le n) ls H locs hl hh
end
section
/-! books: rows q < 7 (lines 0..2, tunes 3..6), rules -/
def BK (σ : Mem) (b : Nat) (N : Nat → Nat) (W Z : Nat → Nat → Nat) (U : Nat → Nat) : Prop := (∀ q, q < 7 → RW σ (7 * b + q) (N q) (W q) (Z q)) ∧ ∀ k, k < 4 → σ (69 + 4 * b + 3) k = nI (U k)
def Frb (b : Nat) (σ τ : Mem) : Prop := ∀ k, k / 21 ≠ b → k ≠ 69 + 4 * b + 3 → τ k = σ k
theorem room_bk {b q : Nat} (hb : b < 3) (hq : q < 7) : roomN (7 * b + q) = if q < 3 then 9 else 11 := by
  unfold roomN
  rw [if_neg (by omega), show (7 * b + q) % 7 = q by omega]
theorem room_bb {b a q : Nat} (hb : b < 3) (ha : a < 3) (hq : q < 7) : roomN (7 * b + q) = roomN (7 * a + q) := by rw [room_bk hb hq, room_bk ha hq]
theorem BK.row {σ : Mem} {b : Nat} {N : Nat → Nat} {W Z : Nat → Nat → Nat} {U : Nat → Nat} (h : BK σ b N W Z U) {q : Nat} (hq : q < 7) : RW σ (7 * b + q) (N q) (W q) (Z q) := h.1 q hq
theorem Frb.rf {b : Nat} {σ : Mem} : Frb b σ σ := fun _ _ _ => rfl
theorem Frb.tr {b : Nat} {σ τ υ : Mem} (h : Frb b σ τ) (g : Frb b τ υ) : Frb b σ υ := fun k a c => (g k a c).trans (h k a c)
theorem Frr.b {b q : Nat} {σ τ : Mem} (hb : b < 3) (hq : q < 7) (h : Frr (7 * b + q) σ τ) : Frb b σ τ := fun k a _ => h k (by omega)
theorem BK.keep {σ τ : Mem} {a b : Nat} {N : Nat → Nat} {W Z : Nat → Nat → Nat} {U : Nat → Nat} (h : BK σ a N W Z U) (f : Frb b σ τ) (ha : a < 3) (hb : b < 3) (hab : a ≠ b) : BK τ a N W Z U := by
  refine ⟨fun q hq => ?_, fun k hk => ?_⟩
  · obtain ⟨h1, h2, h3, h4⟩ := h.1 q hq
    refine ⟨?_, h2, fun i hi => ?_, fun i hi => ?_⟩
    · rw [f _ (by omega) (by omega)]; exact h1
    · rw [f _ (by omega) (by omega)]; exact h3 i hi
    · rw [f _ (by omega) (by omega)]; exact h4 i hi
  · rw [f _ (by omega) (by omega)]; exact h.2 k hk

set_option maxHeartbeats 4000000 in
set_option maxRecDepth 100000 in
theorem c_bookCopy (l : Launch) (G : GG) {σ : Mem} {a b : Nat} {N : Nat → Nat} {W Z : Nat → Nat → Nat} {U : Nat → Nat} (ha : a < 3) (hb : b < 3) (hab : a ≠ b) (hw : BK σ a N W Z U) : Cv l G yX0_copyFrom cX0_copyFrom 3 3 68 [.ref (gad G (69 + 4 * b)), .ref (gad G (69 + 4 * a))] σ (fun τ => BK τ b N W Z U ∧ Frb b σ τ) := by
  refine Cv.of (own := RX0) (by decide) rfl (Nat.le_of_ble_eq_true rfl) (fun p e s m args below meth c ls H locs X hl hh => ?_)
  have lp2 : ∀ (k i : Nat), 4 - i = k → i ≤ 4 → ∀ (υ : Mem), (∀ q, q < 3 + i → RW υ (7 * b + q) (N q) (W q) (Z q)) → Frb b σ υ → ∀ (ls : Array Slot) (H : Heap) (locs : List Loc), lv_has ls 3 [(2, .int (nI i)), (0, .ref (gad G (69 + 4 * b))), (1, .ref (gad G (69 + 4 * a)))] → HH G s υ H locs → WV l G p e s m args below meth c 3 68 (fun τ => BK τ b N W Z U ∧ Frb b σ τ) H locs (F0 m 30 ls []) := by
    intro km
    induction km using Nat.strongRecOn with
    | ind km ih =>
      intro i hk hi υ hv hf ls H locs hl hh
      refine lv_iload_n X.x X.b dX0_copyFrom_30 rfl (lv_at hl 0 rfl) ?_
      refine lv_iconst (v := nI 4) X.x X.b dX0_copyFrom_31 (by decide) ?_
      refine lv_icmp_ge (tgt := 56) X.x X.b dX0_copyFrom_32 (by decide) (fun c_1 => ?_) (fun c_1 => ?_)
      · have c_1 : 4 ≤ i := (nI_leI (a := 4) (b := i) (by omega) (by omega)).mp c_1
        refine lv_aload_n X.x X.b dX0_copyFrom_56 rfl (lv_at hl 2 rfl) ?_
        refine f_get X hh (v := .ref (gad G (69 + 4 * a + 3))) (sh_book G (b := a) (by omega) _) (by omega) rfl in_X0 2 (by decide) kf_X0_20 rfl dX0_copyFrom_57 ?_
        refine lv_iconst (v := nI 0) X.x X.b dX0_copyFrom_60 (by decide) ?_
        refine lv_aload_n X.x X.b dX0_copyFrom_61 rfl (lv_at hl 1 rfl) ?_
        refine f_get X hh (v := .ref (gad G (69 + 4 * b + 3))) (sh_book G (b := b) (by omega) _) (by omega) rfl in_X0 2 (by decide) kf_X0_20 rfl dX0_copyFrom_62 ?_
        refine lv_iconst (v := nI 0) X.x X.b dX0_copyFrom_65 (by decide) ?_
        refine lv_iconst (v := nI 4) X.x X.b dX0_copyFrom_66 (by decide) ?_
        refine f_copy X hh (a0 := 0) (a1 := 0) (n := 4) (sh_br G (b := a) ha _) (fun g9 => sh_br G (b := b) hb g9) (by omega) (by omega) rfl rfl rfl (by decide) (by decide) (by decide) (by decide) km_X0_31 hl.1 (by decide) (Nat.le_of_ble_eq_true rfl) kx_arraycopyName ks_arraycopyName kn_J10 dX0_copyFrom_67 (fun H locs hh => ?_)
        refine f_vret X hh ?_ dX0_copyFrom_70
        refine ⟨⟨fun q hq => ?_, fun k9 hk => ?_⟩, fun k9 h1 h2 => ?_⟩
        · obtain ⟨g1, g2, g3, g4⟩ := hv q (by omega)
          refine ⟨?_, g2, fun j hj => ?_, fun j hj => ?_⟩
          · rw [mrow_n (by omega)]; exact g1
          · rw [mrow_n (by omega)]; exact g3 j hj
          · rw [mrow_n (by omega)]; exact g4 j hj
        · rw [mrow_s, pk_cpy_in (by omega) (by omega), hf _ (by omega) (by omega), show 0 + (k9 - 0) = k9 by omega]; exact hw.2 k9 hk
        · rw [mrow_n h2]; exact hf k9 h1 h2
      · have c_1 : ¬ 4 ≤ i := fun q9 => c_1 ((nI_leI (a := 4) (b := i) (by omega) (by omega)).mpr q9)
        refine lv_aload_n X.x X.b dX0_copyFrom_35 rfl (lv_at hl 1 rfl) ?_
        refine f_get X hh (v := .ref (gad G (69 + 4 * b + 2))) (sh_book G (b := b) (by omega) _) (by omega) rfl in_X0 1 (by decide) kf_X0_17 rfl dX0_copyFrom_36 ?_
        refine lv_iload_n X.x X.b dX0_copyFrom_39 rfl (lv_at hl 0 rfl) ?_
        refine f_aald X hh (j := i) 2 (sh_bt G (b := b) (by omega) _) rfl rfl (by omega) rfl (by omega) (by decide) dX0_copyFrom_40 ?_
        refine lv_aload_n X.x X.b dX0_copyFrom_41 rfl (lv_at hl 2 rfl) ?_
        refine f_get X hh (v := .ref (gad G (69 + 4 * a + 2))) (sh_book G (b := a) (by omega) _) (by omega) rfl in_X0 1 (by decide) kf_X0_17 rfl dX0_copyFrom_42 ?_
        refine lv_iload_n X.x X.b dX0_copyFrom_45 rfl (lv_at hl 0 rfl) ?_
        refine f_aald X hh (j := i) 2 (sh_bt G (b := a) (by omega) _) rfl rfl (by omega) rfl (by omega) (by decide) dX0_copyFrom_46 ?_
        have hs9 := (hw.keep hf ha hb hab).row (q := (3 + i)) (by omega)
        refine f_callv X hh (c_copyFrom l G (r := 7 * b + (3 + i)) (q := 7 * a + (3 + i)) (by omega) (by omega) (by omega) hs9 (by rw [room_bb (a := a) hb ha (by omega)]; exact hs9.2.1)) mf_yX3_copyFrom ki_yX3_copyFrom kl_yX3_copyFrom km_X0_27 (sh_row G (r := 7 * b + (3 + i)) (by omega) _) (by omega) rfl rfl hl.1 [] rfl (Nat.le_of_ble_eq_true rfl) ⟨by decide, by decide⟩ ⟨Nat.zero_le _, Nat.zero_le _⟩ dX0_copyFrom_47 (fun τ H locs hq hh => ?_)
        obtain ⟨hv3, hf3⟩ := hq
        refine lv_iinc (v := nI (i + 1)) (lv' := [(2, .int (nI (i + 1))), (0, .ref (gad G (69 + 4 * b))), (1, .ref (gad G (69 + 4 * a)))]) X.x X.b dX0_copyFrom_50 hl (k := 0) rfl (nI_1 i) (by decide) rfl (fun ls hl => ?_)
        refine lv_goto (tgt := 30) X.x X.b dX0_copyFrom_53 (by decide) ?_
        refine ih (4 - (i + 1)) (by omega) (i + 1) rfl (by omega) _ (fun q hq => ?_) (hf.tr (hf3.b hb (by omega))) ls H locs (lv_sub hl [0, 1, 2] rfl) hh
        by_cases e9 : q = 3 + i
        · rw [e9]; exact hv3
        · exact (hv q (by omega)).keep hf3 (by omega)
  have lp1 : ∀ (k i : Nat), 3 - i = k → i ≤ 3 → ∀ (υ : Mem), (∀ q, q < i → RW υ (7 * b + q) (N q) (W q) (Z q)) → Frb b σ υ → ∀ (ls : Array Slot) (H : Heap) (locs : List Loc), lv_has ls 3 [(2, .int (nI i)), (0, .ref (gad G (69 + 4 * b))), (1, .ref (gad G (69 + 4 * a)))] → HH G s υ H locs → WV l G p e s m args below meth c 3 68 (fun τ => BK τ b N W Z U ∧ Frb b σ τ) H locs (F0 m 2 ls []) := by
    intro km
    induction km using Nat.strongRecOn with
    | ind km ih =>
      intro i hk hi υ hv hf ls H locs hl hh
      refine lv_iload_n X.x X.b dX0_copyFrom_2 rfl (lv_at hl 0 rfl) ?_
      refine lv_iconst (v := nI 3) X.x X.b dX0_copyFrom_3 (by decide) ?_
      refine lv_icmp_ge (tgt := 28) X.x X.b dX0_copyFrom_4 (by decide) (fun c_2 => ?_) (fun c_2 => ?_)
      · have c_2 : 3 ≤ i := (nI_leI (a := 3) (b := i) (by omega) (by omega)).mp c_2
        refine lv_iconst (v := nI 0) X.x X.b dX0_copyFrom_28 (by decide) ?_
        refine lv_istore_n (lv' := [(2, .int (nI 0)), (0, .ref (gad G (69 + 4 * b))), (1, .ref (gad G (69 + 4 * a)))]) X.x X.b dX0_copyFrom_29 rfl hl (by decide) rfl (fun ls hl => ?_)
        exact lp2 4 0 rfl (by omega) υ (fun q hq => hv q (by omega)) hf ls H locs (lv_sub hl [0, 1, 2] rfl) hh
      · have c_2 : ¬ 3 ≤ i := fun q9 => c_2 ((nI_leI (a := 3) (b := i) (by omega) (by omega)).mpr q9)
        refine lv_aload_n X.x X.b dX0_copyFrom_7 rfl (lv_at hl 1 rfl) ?_
        refine f_get X hh (v := .ref (gad G (69 + 4 * b + 1))) (sh_book G (b := b) (by omega) _) (by omega) rfl in_X0 0 (by decide) kf_X0_11 rfl dX0_copyFrom_8 ?_
        refine lv_iload_n X.x X.b dX0_copyFrom_11 rfl (lv_at hl 0 rfl) ?_
        refine f_aald X hh (j := i) 2 (sh_bl G (b := b) (by omega) _) rfl rfl (by omega) rfl (by omega) (by decide) dX0_copyFrom_12 ?_
        refine lv_aload_n X.x X.b dX0_copyFrom_13 rfl (lv_at hl 2 rfl) ?_
        refine f_get X hh (v := .ref (gad G (69 + 4 * a + 1))) (sh_book G (b := a) (by omega) _) (by omega) rfl in_X0 0 (by decide) kf_X0_11 rfl dX0_copyFrom_14 ?_
        refine lv_iload_n X.x X.b dX0_copyFrom_17 rfl (lv_at hl 0 rfl) ?_
        refine f_aald X hh (j := i) 2 (sh_bl G (b := a) (by omega) _) rfl rfl (by omega) rfl (by omega) (by decide) dX0_copyFrom_18 ?_
        have hs9 := (hw.keep hf ha hb hab).row (q := i) (by omega)
        refine f_callv X hh (c_copyFrom l G (r := 7 * b + i) (q := 7 * a + i) (by omega) (by omega) (by omega) hs9 (by rw [room_bb (a := a) hb ha (by omega)]; exact hs9.2.1)) mf_yX3_copyFrom ki_yX3_copyFrom kl_yX3_copyFrom km_X0_27 (sh_row G (r := 7 * b + i) (by omega) _) (by omega) rfl rfl hl.1 [] rfl (Nat.le_of_ble_eq_true rfl) ⟨by decide, by decide⟩ ⟨Nat.zero_le _, Nat.zero_le _⟩ dX0_copyFrom_19 (fun τ H locs hq hh => ?_)
        obtain ⟨hv3, hf3⟩ := hq
        refine lv_iinc (v := nI (i + 1)) (lv' := [(2, .int (nI (i + 1))), (0, .ref (gad G (69 + 4 * b))), (1, .ref (gad G (69 + 4 * a)))]) X.x X.b dX0_copyFrom_22 hl (k := 0) rfl (nI_1 i) (by decide) rfl (fun ls hl => ?_)
        refine lv_goto (tgt := 2) X.x X.b dX0_copyFrom_25 (by decide) ?_
        refine ih (3 - (i + 1)) (by omega) (i + 1) rfl (by omega) _ (fun q hq => ?_) (hf.tr (hf3.b hb (by omega))) ls H locs (lv_sub hl [0, 1, 2] rfl) hh
        by_cases e9 : q = i
        · rw [e9]; exact hv3
        · exact (hv q (by omega)).keep hf3 (by omega)
  have hl : lv_has ls 3 [(0, .ref (gad G (69 + 4 * b))), (1, .ref (gad G (69 + 4 * a)))] := hl
  refine lv_iconst (v := nI 0) X.x X.b dX0_copyFrom_0 (by decide) ?_
  refine lv_istore_n (lv' := [(2, .int (nI 0)), (0, .ref (gad G (69 + 4 * b))), (1, .ref (gad G (69 + 4 * a)))]) X.x X.b dX0_copyFrom_1 rfl hl (by decide) rfl (fun ls hl => ?_)
  exact lp1 3 0 rfl (by omega) σ (fun q hq => absurd hq (Nat.not_lt_zero _)) Frb.rf ls H locs (lv_sub hl [0, 1, 2] rfl) hh
set_option maxHeartbeats 4000000 in
set_option maxRecDepth 100000 in
theorem c_syllablesInAll (l : Launch) (G : GG) {σ : Mem} {b : Nat} {N : Nat → Nat} {W Z : Nat → Nat → Nat} {U : Nat → Nat} (hb : b < 3) (hw : BK σ b N W Z U) : Ci l G yX0_syllablesInAll cX0_syllablesInAll 3 (some .int) 0 0 [.ref (gad G (69 + 4 * b))] σ (fun r τ => r = nI (sumN (fun j => N j) 3) ∧ τ = σ) := by
  refine Ci.of (own := RX0) (by decide) rfl (Nat.le_of_ble_eq_true rfl) (fun p e s m args below meth c ls H locs X hl hh => ?_)
  have lp : ∀ (k i : Nat), 3 - i = k → i ≤ 3 → ∀ (ls : Array Slot) (H : Heap) (locs : List Loc), lv_has ls 3 [(2, .int (nI i)), (1, .int (nI (sumN (fun j => N j) i))), (0, .ref (gad G (69 + 4 * b)))] → HH G s σ H locs → WI l G p e s m args below meth c 0 0 (fun r τ => r = nI (sumN (fun j => N j) 3) ∧ τ = σ) H locs (F0 m 4 ls []) := by
    intro km
    induction km using Nat.strongRecOn with
    | ind km ih =>
      intro i hk hi ls H locs hl hh
      refine lv_iload_n X.x X.b dX0_syllablesInAll_4 rfl (lv_at hl 0 rfl) ?_
      refine lv_iconst (v := nI 3) X.x X.b dX0_syllablesInAll_5 (by decide) ?_
      refine lv_icmp_ge (tgt := 27) X.x X.b dX0_syllablesInAll_6 (by decide) (fun c_1 => ?_) (fun c_1 => ?_)
      · have c_1 : 3 ≤ i := (nI_leI (a := 3) (b := i) (by omega) (by omega)).mp c_1
        refine lv_iload_n X.x X.b dX0_syllablesInAll_27 rfl (lv_at hl 1 rfl) ?_
        exact f_iret X hh ⟨by rw [show 3 = i by omega], rfl⟩ dX0_syllablesInAll_28
      · have c_1 : ¬ 3 ≤ i := fun q9 => c_1 ((nI_leI (a := 3) (b := i) (by omega) (by omega)).mpr q9)
        refine lv_iload_n X.x X.b dX0_syllablesInAll_9 rfl (lv_at hl 1 rfl) ?_
        refine lv_aload_n X.x X.b dX0_syllablesInAll_10 rfl (lv_at hl 2 rfl) ?_
        refine f_get X hh (v := .ref (gad G (69 + 4 * b + 1))) (sh_book G (b := b) (by omega) _) (by omega) rfl in_X0 0 (by decide) kf_X0_11 rfl dX0_syllablesInAll_11 ?_
        refine lv_iload_n X.x X.b dX0_syllablesInAll_14 rfl (lv_at hl 0 rfl) ?_
        refine f_aald X hh (j := i) 2 (sh_bl G (b := b) (by omega) _) rfl rfl (by omega) rfl (by omega) (by decide) dX0_syllablesInAll_15 ?_
        refine f_geti X hh (x := nI (N i)) (sh_row G (r := 7 * b + i) (by omega) _) (by omega) rfl in_X3 3 (by decide) kf_X0_37 rfl (hw.row (q := i) (by omega)).1 dX0_syllablesInAll_16 ?_
        refine f_iadd X (z := nI (sumN (fun j => N j) i + N i)) (nI_add (sumN (fun j => N j) i) (N i)) dX0_syllablesInAll_19 ?_
        refine lv_istore_n (lv' := [(1, .int (nI (sumN (fun j => N j) i + N i))), (2, .int (nI i)), (0, .ref (gad G (69 + 4 * b)))]) X.x X.b dX0_syllablesInAll_20 rfl hl (by decide) rfl (fun ls hl => ?_)
        refine lv_iinc (v := nI (i + 1)) (lv' := [(2, .int (nI (i + 1))), (1, .int (nI (sumN (fun j => N j) i + N i))), (0, .ref (gad G (69 + 4 * b)))]) X.x X.b dX0_syllablesInAll_21 hl (k := 1) rfl (nI_1 i) (by decide) rfl (fun ls hl => ?_)
        refine lv_goto (tgt := 4) X.x X.b dX0_syllablesInAll_24 (by decide) ?_
        exact ih (3 - (i + 1)) (by omega) (i + 1) rfl (by omega) ls H locs (lv_sub hl [0, 1, 2] rfl) hh
  have hl : lv_has ls 3 [(0, .ref (gad G (69 + 4 * b)))] := hl
  refine lv_iconst (v := nI 0) X.x X.b dX0_syllablesInAll_0 (by decide) ?_
  refine lv_istore_n (lv' := [(1, .int (nI 0)), (0, .ref (gad G (69 + 4 * b)))]) X.x X.b dX0_syllablesInAll_1 rfl hl (by decide) rfl (fun ls hl => ?_)
  refine lv_iconst (v := nI 0) X.x X.b dX0_syllablesInAll_2 (by decide) ?_
  refine lv_istore_n (lv' := [(2, .int (nI 0)), (1, .int (nI 0)), (0, .ref (gad G (69 + 4 * b)))]) X.x X.b dX0_syllablesInAll_3 rfl hl (by decide) rfl (fun ls hl => ?_)
  exact lp 3 0 rfl (by omega) ls H locs (lv_sub hl [0, 1, 2] rfl) hh
set_option maxHeartbeats 4000000 in
set_option maxRecDepth 100000 in
theorem c_notesInAll (l : Launch) (G : GG) {σ : Mem} {b : Nat} {N : Nat → Nat} {W Z : Nat → Nat → Nat} {U : Nat → Nat} (hb : b < 3) (hw : BK σ b N W Z U) : Ci l G yX0_notesInAll cX0_notesInAll 3 (some .int) 0 0 [.ref (gad G (69 + 4 * b))] σ (fun r τ => r = nI (sumN (fun j => N (3 + j)) 4) ∧ τ = σ) := by
  refine Ci.of (own := RX0) (by decide) rfl (Nat.le_of_ble_eq_true rfl) (fun p e s m args below meth c ls H locs X hl hh => ?_)
  have lp : ∀ (k i : Nat), 4 - i = k → i ≤ 4 → ∀ (ls : Array Slot) (H : Heap) (locs : List Loc), lv_has ls 3 [(2, .int (nI i)), (1, .int (nI (sumN (fun j => N (3 + j)) i))), (0, .ref (gad G (69 + 4 * b)))] → HH G s σ H locs → WI l G p e s m args below meth c 0 0 (fun r τ => r = nI (sumN (fun j => N (3 + j)) 4) ∧ τ = σ) H locs (F0 m 4 ls []) := by
    intro km
    induction km using Nat.strongRecOn with
    | ind km ih =>
      intro i hk hi ls H locs hl hh
      refine lv_iload_n X.x X.b dX0_notesInAll_4 rfl (lv_at hl 0 rfl) ?_
      refine lv_iconst (v := nI 4) X.x X.b dX0_notesInAll_5 (by decide) ?_
      refine lv_icmp_ge (tgt := 27) X.x X.b dX0_notesInAll_6 (by decide) (fun c_1 => ?_) (fun c_1 => ?_)
      · have c_1 : 4 ≤ i := (nI_leI (a := 4) (b := i) (by omega) (by omega)).mp c_1
        refine lv_iload_n X.x X.b dX0_notesInAll_27 rfl (lv_at hl 1 rfl) ?_
        exact f_iret X hh ⟨by rw [show 4 = i by omega], rfl⟩ dX0_notesInAll_28
      · have c_1 : ¬ 4 ≤ i := fun q9 => c_1 ((nI_leI (a := 4) (b := i) (by omega) (by omega)).mpr q9)
        refine lv_iload_n X.x X.b dX0_notesInAll_9 rfl (lv_at hl 1 rfl) ?_
        refine lv_aload_n X.x X.b dX0_notesInAll_10 rfl (lv_at hl 2 rfl) ?_
        refine f_get X hh (v := .ref (gad G (69 + 4 * b + 2))) (sh_book G (b := b) (by omega) _) (by omega) rfl in_X0 1 (by decide) kf_X0_17 rfl dX0_notesInAll_11 ?_
        refine lv_iload_n X.x X.b dX0_notesInAll_14 rfl (lv_at hl 0 rfl) ?_
        refine f_aald X hh (j := i) 2 (sh_bt G (b := b) (by omega) _) rfl rfl (by omega) rfl (by omega) (by decide) dX0_notesInAll_15 ?_
        refine f_geti X hh (x := nI (N (3 + i))) (sh_row G (r := 7 * b + (3 + i)) (by omega) _) (by omega) rfl in_X3 3 (by decide) kf_X0_37 rfl (hw.row (q := 3 + i) (by omega)).1 dX0_notesInAll_16 ?_
        refine f_iadd X (z := nI (sumN (fun j => N (3 + j)) i + N (3 + i))) (nI_add (sumN (fun j => N (3 + j)) i) (N (3 + i))) dX0_notesInAll_19 ?_
        refine lv_istore_n (lv' := [(1, .int (nI (sumN (fun j => N (3 + j)) i + N (3 + i)))), (2, .int (nI i)), (0, .ref (gad G (69 + 4 * b)))]) X.x X.b dX0_notesInAll_20 rfl hl (by decide) rfl (fun ls hl => ?_)
        refine lv_iinc (v := nI (i + 1)) (lv' := [(2, .int (nI (i + 1))), (1, .int (nI (sumN (fun j => N (3 + j)) i + N (3 + i)))), (0, .ref (gad G (69 + 4 * b)))]) X.x X.b dX0_notesInAll_21 hl (k := 1) rfl (nI_1 i) (by decide) rfl (fun ls hl => ?_)
        refine lv_goto (tgt := 4) X.x X.b dX0_notesInAll_24 (by decide) ?_
        exact ih (4 - (i + 1)) (by omega) (i + 1) rfl (by omega) ls H locs (lv_sub hl [0, 1, 2] rfl) hh
  have hl : lv_has ls 3 [(0, .ref (gad G (69 + 4 * b)))] := hl
  refine lv_iconst (v := nI 0) X.x X.b dX0_notesInAll_0 (by decide) ?_
  refine lv_istore_n (lv' := [(1, .int (nI 0)), (0, .ref (gad G (69 + 4 * b)))]) X.x X.b dX0_notesInAll_1 rfl hl (by decide) rfl (fun ls hl => ?_)
  refine lv_iconst (v := nI 0) X.x X.b dX0_notesInAll_2 (by decide) ?_
  refine lv_istore_n (lv' := [(2, .int (nI 0)), (1, .int (nI 0)), (0, .ref (gad G (69 + 4 * b)))]) X.x X.b dX0_notesInAll_3 rfl hl (by decide) rfl (fun ls hl => ?_)
  exact lp 4 0 rfl (by omega) ls H locs (lv_sub hl [0, 1, 2] rfl) hh
set_option maxHeartbeats 4000000 in
set_option maxRecDepth 100000 in
theorem c_lengthsInAll (l : Launch) (G : GG) {σ : Mem} {b : Nat} {N : Nat → Nat} {W Z : Nat → Nat → Nat} {U : Nat → Nat} (hb : b < 3) (hw : BK σ b N W Z U) : Ci l G yX0_lengthsInAll cX0_lengthsInAll 3 (some .int) 1 22 [.ref (gad G (69 + 4 * b))] σ (fun r τ => r = nI (sumN (fun j => sumN (Z (3 + j)) (N (3 + j))) 4) ∧ τ = σ) := by
  refine Ci.of (own := RX0) (by decide) rfl (Nat.le_of_ble_eq_true rfl) (fun p e s m args below meth c ls H locs X hl hh => ?_)
  have lp : ∀ (k i : Nat), 4 - i = k → i ≤ 4 → ∀ (ls : Array Slot) (H : Heap) (locs : List Loc), lv_has ls 3 [(2, .int (nI i)), (1, .int (nI (sumN (fun j => sumN (Z (3 + j)) (N (3 + j))) i))), (0, .ref (gad G (69 + 4 * b)))] → HH G s σ H locs → WI l G p e s m args below meth c 1 22 (fun r τ => r = nI (sumN (fun j => sumN (Z (3 + j)) (N (3 + j))) 4) ∧ τ = σ) H locs (F0 m 4 ls []) := by
    intro km
    induction km using Nat.strongRecOn with
    | ind km ih =>
      intro i hk hi ls H locs hl hh
      refine lv_iload_n X.x X.b dX0_lengthsInAll_4 rfl (lv_at hl 0 rfl) ?_
      refine lv_iconst (v := nI 4) X.x X.b dX0_lengthsInAll_5 (by decide) ?_
      refine lv_icmp_ge (tgt := 27) X.x X.b dX0_lengthsInAll_6 (by decide) (fun c_1 => ?_) (fun c_1 => ?_)
      · have c_1 : 4 ≤ i := (nI_leI (a := 4) (b := i) (by omega) (by omega)).mp c_1
        refine lv_iload_n X.x X.b dX0_lengthsInAll_27 rfl (lv_at hl 1 rfl) ?_
        exact f_iret X hh ⟨by rw [show 4 = i by omega], rfl⟩ dX0_lengthsInAll_28
      · have c_1 : ¬ 4 ≤ i := fun q9 => c_1 ((nI_leI (a := 4) (b := i) (by omega) (by omega)).mpr q9)
        refine lv_iload_n X.x X.b dX0_lengthsInAll_9 rfl (lv_at hl 1 rfl) ?_
        refine lv_aload_n X.x X.b dX0_lengthsInAll_10 rfl (lv_at hl 2 rfl) ?_
        refine f_get X hh (v := .ref (gad G (69 + 4 * b + 2))) (sh_book G (b := b) (by omega) _) (by omega) rfl in_X0 1 (by decide) kf_X0_17 rfl dX0_lengthsInAll_11 ?_
        refine lv_iload_n X.x X.b dX0_lengthsInAll_14 rfl (lv_at hl 0 rfl) ?_
        refine f_aald X hh (j := i) 2 (sh_bt G (b := b) (by omega) _) rfl rfl (by omega) rfl (by omega) (by decide) dX0_lengthsInAll_15 ?_
        refine f_calli X hh (c_spansInAll l G (q := 7 * b + (3 + i)) (by omega) (hw.row (q := 3 + i) (by omega))) mf_yX3_spansInAll ki_yX3_spansInAll kl_yX3_spansInAll km_X0_41 (sh_row G (r := 7 * b + (3 + i)) (by omega) _) (by omega) rfl rfl hl.1 [.int (nI (sumN (fun j => sumN (Z (3 + j)) (N (3 + j))) i))] rfl (Nat.le_of_ble_eq_true rfl) ⟨by decide, by decide⟩ ⟨Nat.zero_le _, Nat.zero_le _⟩ dX0_lengthsInAll_16 (fun r τ H locs hq hh => ?_)
        obtain ⟨rfl, hτ⟩ := hq
        rw [hτ] at hh
        clear hτ
        refine f_iadd X (z := nI (sumN (fun j => sumN (Z (3 + j)) (N (3 + j))) i + sumN (Z (3 + i)) (N (3 + i)))) (nI_add (sumN (fun j => sumN (Z (3 + j)) (N (3 + j))) i) (sumN (Z (3 + i)) (N (3 + i)))) dX0_lengthsInAll_19 ?_
        refine lv_istore_n (lv' := [(1, .int (nI (sumN (fun j => sumN (Z (3 + j)) (N (3 + j))) i + sumN (Z (3 + i)) (N (3 + i))))), (2, .int (nI i)), (0, .ref (gad G (69 + 4 * b)))]) X.x X.b dX0_lengthsInAll_20 rfl hl (by decide) rfl (fun ls hl => ?_)
        refine lv_iinc (v := nI (i + 1)) (lv' := [(2, .int (nI (i + 1))), (1, .int (nI (sumN (fun j => sumN (Z (3 + j)) (N (3 + j))) i + sumN (Z (3 + i)) (N (3 + i))))), (0, .ref (gad G (69 + 4 * b)))]) X.x X.b dX0_lengthsInAll_21 hl (k := 1) rfl (nI_1 i) (by decide) rfl (fun ls hl => ?_)
        refine lv_goto (tgt := 4) X.x X.b dX0_lengthsInAll_24 (by decide) ?_
        exact ih (4 - (i + 1)) (by omega) (i + 1) rfl (by omega) ls H locs (lv_sub hl [0, 1, 2] rfl) hh
  have hl : lv_has ls 3 [(0, .ref (gad G (69 + 4 * b)))] := hl
  refine lv_iconst (v := nI 0) X.x X.b dX0_lengthsInAll_0 (by decide) ?_
  refine lv_istore_n (lv' := [(1, .int (nI 0)), (0, .ref (gad G (69 + 4 * b)))]) X.x X.b dX0_lengthsInAll_1 rfl hl (by decide) rfl (fun ls hl => ?_)
  refine lv_iconst (v := nI 0) X.x X.b dX0_lengthsInAll_2 (by decide) ?_
  refine lv_istore_n (lv' := [(2, .int (nI 0)), (1, .int (nI 0)), (0, .ref (gad G (69 + 4 * b)))]) X.x X.b dX0_lengthsInAll_3 rfl hl (by decide) rfl (fun ls hl => ?_)
  exact lp 4 0 rfl (by omega) ls H locs (lv_sub hl [0, 1, 2] rfl) hh
end
section
/-! small tests; the pad: n signs g -/
def okb (a b : Bool) : Bool := a && b
/-- the first place of n that is not so -/
def ffst (ok : Nat → Bool) : Nat → Option Nat
  | 0 => none
  | k + 1 => match ffst ok k with
    | some j => some j
    | none => if ok k then none else some k
theorem ffst_n {ok : Nat → Bool} : ∀ {n : Nat}, (∀ k, k < n → ok k = true) → ffst ok n = none
  | 0, _ => rfl
  | n + 1, h => by
    have h1 : ffst ok n = none := ffst_n (fun k hk => h k (by omega))
    unfold ffst
    rw [h1]
    simp [h n (by omega)]
theorem ffst_s {ok : Nat → Bool} {j : Nat} (hj : ok j = false) (h : ∀ k, k < j → ok k = true) : ∀ {n : Nat}, j < n → ffst ok n = some j
  | 0, hn => by omega
  | n + 1, hn => by
    unfold ffst
    by_cases e : j = n
    · subst e
      rw [ffst_n h]
      simp [hj]
    · rw [ffst_s hj h (n := n) (by omega)]
theorem ffst_all {ok : Nat → Bool} : ∀ {n : Nat}, ffst ok n = none → ∀ k, k < n → ok k = true
  | 0, _, k, hk => by omega
  | n + 1, h, k, hk => by
    unfold ffst at h
    cases hf : ffst ok n with
    | some j => rw [hf] at h; cases h
    | none =>
      rw [hf] at h
      by_cases e : k = n
      · subst e
        by_cases ho : ok k = true
        · exact ho
        · simp [ho] at h
      · exact ffst_all hf k (by omega)
theorem ffst_lt {ok : Nat → Bool} : ∀ {n j : Nat}, ffst ok n = some j → j < n
  | 0, j, h => by cases h
  | n + 1, j, h => by
    unfold ffst at h
    cases hf : ffst ok n with
    | some i => rw [hf] at h; cases h; have := ffst_lt hf; omega
    | none =>
      rw [hf] at h
      by_cases ho : ok n = true
      · simp [ho] at h
      · simp [ho] at h; omega
def PD (σ : Mem) (n : Nat) (g : Nat → Nat) : Prop := σ 83 1 = nI n ∧ n ≤ 22 ∧ (∀ i, i < n → σ 84 i = nI (g i)) ∧ ∀ i, i < n → 33 ≤ g i ∧ g i ≤ 126
/-- the pad read as a line: after k signs so many syllables, stresses, longs -/
def rdn (g : Nat → Nat) : Nat → Nat
  | 0 => 0
  | k + 1 => if g k = 45 then rdn g k else rdn g k + 1
def rdw (g : Nat → Nat) : Nat → Nat → Nat
  | 0 => fun _ => 0
  | k + 1 => if g k = 45 then rdw g k else fun i => if i = rdn g k then g k - 48 else rdw g k i
def rdz (g : Nat → Nat) : Nat → Nat → Nat
  | 0 => fun _ => 0
  | k + 1 => if g k = 45 then (fun i => if i + 1 = rdn g k then 1 else rdz g k i) else fun i => if i = rdn g k then 0 else rdz g k i
def may (g : Nat → Nat) (k : Nat) : Bool := decide (k ≠ 0) && decide (g (k - 1) ≠ 45)
def figL (g : Nat → Nat) (k : Nat) : Bool := decide (rdn g k < 9) && (decide (48 ≤ g k) && decide (g k ≤ 50))
def okL (g : Nat → Nat) (k : Nat) : Bool := (may g k && decide (g k = 45)) || figL g k
def okT (g : Nat → Nat) (k : Nat) : Bool := if k % 2 = 0 then decide (48 ≤ g k) && decide (g k ≤ 50) else decide (49 ≤ g k) && decide (g k ≤ 52)
def lans (g : Nat → Nat) (n : Nat) : Int32 := match ffst (okL g) n with
  | some k => nI k
  | none => -6
def tans (g : Nat → Nat) (n : Nat) : Int32 := match ffst (okT g) n with
  | some k => nI k
  | none => if n % 2 = 0 then -6 else nI n
def isS (x : Nat) : Bool := decide (x = 111) || decide (x = 104) || decide (x = 115)
def stp (x : Nat) : Int32 := if x = 111 then nI 0 else if x = 104 then nI 1 else if x = 115 then nI 2 else -1
theorem rdn_le (g : Nat → Nat) : ∀ k, rdn g k ≤ k
  | 0 => Nat.le_refl 0
  | k + 1 => by
    have := rdn_le g k
    unfold rdn
    split <;> omega
theorem rdn_ok {g : Nat → Nat} : ∀ {k : Nat}, (∀ j, j < k → okL g j = true) → rdn g k ≤ 9
  | 0, _ => Nat.zero_le _
  | k + 1, h => by
    have h1 : rdn g k ≤ 9 := rdn_ok (fun j hj => h j (by omega))
    have h2 := h k (by omega)
    unfold rdn
    by_cases e : g k = 45
    · rw [if_pos e]; exact h1
    · rw [if_neg e]
      simp [okL, figL, e] at h2
      omega
theorem rdn_pos {g : Nat → Nat} : ∀ {k : Nat}, (∀ j, j < k → okL g j = true) → k ≠ 0 → 0 < rdn g k
  | 0, _, hk => absurd rfl hk
  | k + 1, h, _ => by
    have h2 := h k (by omega)
    unfold rdn
    by_cases e : g k = 45
    · rw [if_pos e]
      simp [okL, figL, e, may] at h2
      exact rdn_pos (fun j hj => h j (by omega)) (by omega)
    · rw [if_neg e]; omega
/-- ints and small numbers -/
theorem iz_le {a b : Nat} (ha : a < 2 ^ 31) (hb : b < 2 ^ 31) : (nI a ≤ nI b) = (a ≤ b) := propext (nI_leI ha hb)

set_option maxHeartbeats 4000000 in
set_option maxRecDepth 100000 in
theorem c_isWithin (l : Launch) (G : GG) {σ : Mem}  (x a b : Int32) : Ci l G yX4_isWithin cX4_isWithin 3 (some .boolean) 0 0 [.int x, .int a, .int b] σ (fun r τ => r = (if a ≤ x ∧ x ≤ b then 1 else 0) ∧ τ = σ) := by
  refine Ci.of (own := RX4) (by decide) rfl (Nat.le_of_ble_eq_true rfl) (fun p e s m args below meth c ls H locs X hl hh => ?_)
  have hl : lv_has ls 3 [(0, .int x), (1, .int a), (2, .int b)] := hl
  refine lv_iload_n X.x X.b dX4_isWithin_0 rfl (lv_at hl 0 rfl) ?_
  refine lv_iload_n X.x X.b dX4_isWithin_1 rfl (lv_at hl 1 rfl) ?_
  refine lv_icmp_lt (tgt := 14) X.x X.b dX4_isWithin_2 (by decide) (fun c_1 => ?_) (fun c_1 => ?_)
  · refine lv_iconst (v := nI 0) X.x X.b dX4_isWithin_14 (by decide) ?_
    exact f_zret X hh rfl ⟨by first | (rw [if_pos ⟨Int32.not_lt.mp ‹_›, Int32.not_lt.mp ‹_›⟩]; rfl) | (rw [if_neg (fun q9 => absurd q9.1 (Int32.not_le.mpr ‹_›))]; rfl) | (rw [if_neg (fun q9 => absurd q9.2 (Int32.not_le.mpr ‹_›))]; rfl), rfl⟩ dX4_isWithin_15
  · refine lv_iload_n X.x X.b dX4_isWithin_5 rfl (lv_at hl 0 rfl) ?_
    refine lv_iload_n X.x X.b dX4_isWithin_6 rfl (lv_at hl 2 rfl) ?_
    refine lv_icmp_gt (tgt := 14) X.x X.b dX4_isWithin_7 (by decide) (fun c_2 => ?_) (fun c_2 => ?_)
    · refine lv_iconst (v := nI 0) X.x X.b dX4_isWithin_14 (by decide) ?_
      exact f_zret X hh rfl ⟨by first | (rw [if_pos ⟨Int32.not_lt.mp ‹_›, Int32.not_lt.mp ‹_›⟩]; rfl) | (rw [if_neg (fun q9 => absurd q9.1 (Int32.not_le.mpr ‹_›))]; rfl) | (rw [if_neg (fun q9 => absurd q9.2 (Int32.not_le.mpr ‹_›))]; rfl), rfl⟩ dX4_isWithin_15
    · refine lv_iconst (v := nI 1) X.x X.b dX4_isWithin_10 (by decide) ?_
      refine lv_goto (tgt := 15) X.x X.b dX4_isWithin_11 (by decide) ?_
      exact f_zret X hh rfl ⟨by first | (rw [if_pos ⟨Int32.not_lt.mp ‹_›, Int32.not_lt.mp ‹_›⟩]; rfl) | (rw [if_neg (fun q9 => absurd q9.1 (Int32.not_le.mpr ‹_›))]; rfl) | (rw [if_neg (fun q9 => absurd q9.2 (Int32.not_le.mpr ‹_›))]; rfl), rfl⟩ dX4_isWithin_15
theorem c_within (l : Launch) (G : GG) {σ : Mem} (x a b : Nat) (hx : x < 2 ^ 31) (ha : a < 2 ^ 31) (hb : b < 2 ^ 31) : Ci l G yX4_isWithin cX4_isWithin 3 (some .boolean) 0 0 [.int (nI x), .int (nI a), .int (nI b)] σ (fun r τ => r = (if a ≤ x ∧ x ≤ b then 1 else 0) ∧ τ = σ) := by
  have h := c_isWithin l G (σ := σ) (nI x) (nI a) (nI b)
  simp only [iz_le ha hx, iz_le hx hb] at h
  exact h
set_option maxHeartbeats 4000000 in
set_option maxRecDepth 100000 in
theorem c_put (l : Launch) (G : GG) {σ : Mem} {n x : Nat} {g : Nat → Nat} (hw : PD σ n g) (hn : n < 22) (hx : 33 ≤ x ∧ x ≤ 126) : Cv l G yX2_put cX2_put 2 0 0 [.ref (gad G 83), .int (nI x)] σ (fun τ => PD τ (n + 1) (fun i => if i = n then x else g i) ∧ ∀ k, k ≠ 83 → k ≠ 84 → τ k = σ k) := by
  refine Cv.of (own := RX2) (by decide) rfl (Nat.le_of_ble_eq_true rfl) (fun p e s m args below meth c ls H locs X hl hh => ?_)
  have hl : lv_has ls 2 [(0, .ref (gad G 83)), (1, .int (nI x))] := hl
  refine lv_aload_n X.x X.b dX2_put_0 rfl (lv_at hl 0 rfl) ?_
  refine f_geti X hh (x := nI n) (sh_83 G _) (by decide) rfl in_X2 1 (by decide) kf_X2_15 rfl hw.1 dX2_put_1 ?_
  refine lv_bipush (v := nI 22) X.x X.b dX2_put_4 (by decide) ?_
  refine lv_icmp_ge (tgt := 29) X.x X.b dX2_put_6 (by decide) (fun h9 => absurd h9 (nI_ge hn (by decide))) (fun _ => ?_)
  refine lv_aload_n X.x X.b dX2_put_9 rfl (lv_at hl 0 rfl) ?_
  refine f_get X hh (v := .ref (gad G 84)) (sh_83 G _) (by decide) rfl in_X2 0 (by decide) kf_X2_9 rfl dX2_put_10 ?_
  refine lv_aload_n X.x X.b dX2_put_13 rfl (lv_at hl 0 rfl) ?_
  refine f_geti X hh (x := nI n) (sh_83 G _) (by decide) rfl in_X2 1 (by decide) kf_X2_15 rfl hw.1 dX2_put_14 ?_
  refine lv_iload_n X.x X.b dX2_put_17 rfl (lv_at hl 1 rfl) ?_
  refine f_iast X hh (j := n) (sh_84 G) (by decide) rfl (by omega) (by decide) dX2_put_18 (fun H locs hh => ?_)
  refine lv_aload_n X.x X.b dX2_put_19 rfl (lv_at hl 0 rfl) ?_
  refine lv_dup X.x X.b dX2_put_20 rfl ?_
  refine f_geti X hh (x := nI n) (sh_83 G _) (by decide) rfl in_X2 1 (by decide) kf_X2_15 rfl (by rw [mset_n (show 83 ≠ 84 by omega)]; exact hw.1) dX2_put_21 ?_
  refine lv_iconst (v := nI 1) X.x X.b dX2_put_24 (by decide) ?_
  refine f_iadd X (z := nI (n + 1)) (nI_add n 1) dX2_put_25 ?_
  refine f_put X hh (x := nI (n + 1)) (sh_83 G _) (by decide) rfl in_X2 1 (sh_83 G _) tyX2 tyX2_ok nmX2 (by decide) kf_X2_15 rfl (by decide +kernel) (Nat.le_of_ble_eq_true rfl) dX2_put_26 (fun H locs hh => ?_)
  refine f_vret X hh ?_ dX2_put_29
  refine ⟨⟨mset_ss, hn, fun i hi => ?_, fun i hi => ?_⟩, fun k9 h1 h2 => ?_⟩
  · rw [mset_n (by omega)]
    by_cases e9 : i = n
    · subst e9; rw [mset_ss]; simp
    · rw [mset_sn e9, hw.2.2.1 i (by omega)]; simp [e9]
  · by_cases e9 : i = n
    · simp [e9]; exact hx
    · simp [e9]; exact hw.2.2.2 i (by omega)
  · rw [mset_n h1, mset_n h2]
set_option maxHeartbeats 4000000 in
set_option maxRecDepth 100000 in
theorem c_pclear (l : Launch) (G : GG) {σ : Mem}   : Cv l G yX2_clear cX2_clear 1 0 0 [.ref (gad G 83)] σ (fun τ => τ = mset σ 83 1 (nI 0)) := by
  refine Cv.of (own := RX2) (by decide) rfl (Nat.le_of_ble_eq_true rfl) (fun p e s m args below meth c ls H locs X hl hh => ?_)
  have hl : lv_has ls 1 [(0, .ref (gad G 83))] := hl
  refine lv_aload_n X.x X.b dX2_clear_0 rfl (lv_at hl 0 rfl) ?_
  refine lv_iconst (v := nI 0) X.x X.b dX2_clear_1 (by decide) ?_
  refine f_put X hh (x := nI 0) (sh_83 G _) (by decide) rfl in_X2 1 (sh_83 G _) tyX2 tyX2_ok nmX2 (by decide) kf_X2_15 rfl (by decide +kernel) (Nat.le_of_ble_eq_true rfl) dX2_clear_2 (fun H locs hh => ?_)
  exact f_vret X hh rfl dX2_clear_5
theorem pd_clear {σ : Mem} {g : Nat → Nat} : PD (mset σ 83 1 (nI 0)) 0 g := ⟨mset_ss, by decide, fun i hi => absurd hi (Nat.not_lt_zero _), fun i hi => absurd hi (Nat.not_lt_zero _)⟩
set_option maxHeartbeats 4000000 in
set_option maxRecDepth 100000 in
theorem c_faultAsLine (l : Launch) (G : GG) {σ : Mem} {n : Nat} {g : Nat → Nat} (hw : PD σ n g) : Ci l G yX2_faultAsLine cX2_faultAsLine 4 (some .int) 1 22 [.ref (gad G 83)] σ (fun r τ => r = lans g n ∧ τ = σ) := by
  refine Ci.of (own := RX2) (by decide) rfl (Nat.le_of_ble_eq_true rfl) (fun p e s m args below meth c ls H locs X hl hh => ?_)
  have hn := hw.2.1
  have hg := hw.2.2.2
  have lp : ∀ (k i u : Nat), (∀ j, j < i → okL g j = true) → (u = 0 ∧ may g i = false ∨ u = 1 ∧ may g i = true) → n - i = k → i ≤ n → ∀ (ls : Array Slot) (H : Heap) (locs : List Loc), lv_has ls 4 [(3, .int (nI i)), (2, .int (nI u)), (1, .int (nI (rdn g i))), (0, .ref (gad G 83))] → HH G s σ H locs → WI l G p e s m args below meth c 1 22 (fun r τ => r = lans g n ∧ τ = σ) H locs (F0 m 6 ls []) := by
    intro km
    induction km using Nat.strongRecOn with
    | ind km ih =>
      intro i u ho hu hk hi ls H locs hl hh
      have hc := rdn_le g i
      rcases hu with ⟨rfl, hm⟩ | ⟨rfl, hm⟩
      · have hg2 := hg i
        refine lv_iload_n X.x X.b dX2_faultAsLine_6 rfl (lv_at hl 0 rfl) ?_
        refine lv_aload_n X.x X.b dX2_faultAsLine_7 rfl (lv_at hl 3 rfl) ?_
        refine f_geti X hh (x := nI n) (sh_83 G _) (by decide) rfl in_X2 1 (by decide) kf_X2_15 rfl hw.1 dX2_faultAsLine_8 ?_
        refine lv_icmp_ge (tgt := 72) X.x X.b dX2_faultAsLine_11 (by decide) (fun c_1 => ?_) (fun c_1 => ?_)
        · have c_1 : n ≤ i := (nI_leI (a := n) (b := i) (by omega) (by omega)).mp c_1
          refine lv_bipush (v := (-6)) X.x X.b dX2_faultAsLine_72 (by decide) ?_
          exact f_iret X hh ⟨by unfold lans; rw [ffst_n (fun j hj => ho j (by omega))], rfl⟩ dX2_faultAsLine_74
        · have c_1 : ¬ n ≤ i := fun q9 => c_1 ((nI_leI (a := n) (b := i) (by omega) (by omega)).mpr q9)
          refine lv_iload_n X.x X.b dX2_faultAsLine_14 rfl (lv_at hl 1 rfl) ?_
          refine lv_if_eq (tgt := 34) X.x X.b dX2_faultAsLine_15 (by decide) (fun _ => ?_) (fun h9 => absurd (show _ by decide) h9)
          refine lv_iload_n X.x X.b dX2_faultAsLine_34 rfl (lv_at hl 2 rfl) ?_
          refine lv_bipush (v := nI 9) X.x X.b dX2_faultAsLine_35 (by decide) ?_
          refine lv_icmp_ge (tgt := 64) X.x X.b dX2_faultAsLine_37 (by decide) (fun c_3 => ?_) (fun c_3 => ?_)
          · have c_3 : 9 ≤ (rdn g i) := (nI_leI (a := 9) (b := (rdn g i)) (by omega) (by omega)).mp c_3
            refine lv_iload_n X.x X.b dX2_faultAsLine_64 rfl (lv_at hl 0 rfl) ?_
            exact f_iret X hh ⟨by unfold lans; rw [ffst_s (j := i) (by simp [okL, figL, hm]; omega) ho (by omega)], rfl⟩ dX2_faultAsLine_65
          · have c_3 : ¬ 9 ≤ (rdn g i) := fun q9 => c_3 ((nI_leI (a := 9) (b := (rdn g i)) (by omega) (by omega)).mpr q9)
            refine lv_aload_n X.x X.b dX2_faultAsLine_40 rfl (lv_at hl 3 rfl) ?_
            refine f_get X hh (v := .ref (gad G 84)) (sh_83 G _) (by decide) rfl in_X2 0 (by decide) kf_X2_9 rfl dX2_faultAsLine_41 ?_
            refine lv_iload_n X.x X.b dX2_faultAsLine_44 rfl (lv_at hl 0 rfl) ?_
            refine f_ialdx X hh (j := i) (y := nI (g i)) (sh_84 G _) (by decide) rfl (by omega) (by decide) (hw.2.2.1 _ (by omega)) dX2_faultAsLine_45 ?_
            refine lv_bipush (v := nI 48) X.x X.b dX2_faultAsLine_46 (by decide) ?_
            refine lv_bipush (v := nI 50) X.x X.b dX2_faultAsLine_48 (by decide) ?_
            refine f_ncalli X hh (c_within l G (g i) 48 50 (by omega) (by omega) (by omega)) mf_yX4_isWithin ks_yX4_isWithin X.2.2.2.2.2.2.2.1 rfl hl.1 [] rfl (Nat.le_of_ble_eq_true rfl) ⟨by decide, by decide⟩ ⟨Nat.zero_le _, Nat.zero_le _⟩ dX2_faultAsLine_50 (fun r τ H locs hq hh => ?_)
            obtain ⟨rfl, hτ⟩ := hq
            rw [hτ] at hh
            clear hτ
            by_cases c_4 : 48 ≤ (g i) ∧ (g i) ≤ 50
            · rw [show (if 48 ≤ (g i) ∧ (g i) ≤ 50 then (1 : Int32) else 0) = 1 from if_pos c_4]
              refine lv_if_eq (tgt := 64) X.x X.b dX2_faultAsLine_53 (by decide) (fun h9 => absurd h9 (by decide)) (fun _ => ?_)
              refine lv_iinc (v := nI (rdn g i + 1)) (lv' := [(1, .int (nI (rdn g i + 1))), (3, .int (nI i)), (2, .int (nI 0)), (0, .ref (gad G 83))]) X.x X.b dX2_faultAsLine_56 hl (k := 2) rfl (nI_1 (rdn g i)) (by decide) rfl (fun ls hl => ?_)
              refine lv_iconst (v := nI 1) X.x X.b dX2_faultAsLine_59 (by decide) ?_
              refine lv_istore_n (lv' := [(2, .int (nI 1)), (1, .int (nI (rdn g i + 1))), (3, .int (nI i)), (0, .ref (gad G 83))]) X.x X.b dX2_faultAsLine_60 rfl hl (by decide) rfl (fun ls hl => ?_)
              refine lv_goto (tgt := 66) X.x X.b dX2_faultAsLine_61 (by decide) ?_
              refine lv_iinc (v := nI (i + 1)) (lv' := [(3, .int (nI (i + 1))), (2, .int (nI 1)), (1, .int (nI (rdn g i + 1))), (0, .ref (gad G 83))]) X.x X.b dX2_faultAsLine_66 hl (k := 2) rfl (nI_1 i) (by decide) rfl (fun ls hl => ?_)
              refine lv_goto (tgt := 6) X.x X.b dX2_faultAsLine_69 (by decide) ?_
              refine ih (n - (i + 1)) (by omega) (i + 1) 1 (fun j hj => ?_) ?_ rfl (by omega) ls H locs ?_ hh
              · by_cases e9 : j = i
                · subst e9; simp [okL, figL, hm]; omega
                · exact ho j (by omega)
              · simp [may]; omega
              · have e8 : rdn g (i + 1) = rdn g i + 1 := by show (if g i = 45 then rdn g i else rdn g i + 1) = _; split <;> omega
                rw [e8]; exact lv_sub hl [0, 1, 2, 3] rfl
            · rw [show (if 48 ≤ (g i) ∧ (g i) ≤ 50 then (1 : Int32) else 0) = 0 from if_neg c_4]
              refine lv_if_eq (tgt := 64) X.x X.b dX2_faultAsLine_53 (by decide) (fun _ => ?_) (fun h9 => absurd (show _ by decide) h9)
              refine lv_iload_n X.x X.b dX2_faultAsLine_64 rfl (lv_at hl 0 rfl) ?_
              exact f_iret X hh ⟨by unfold lans; rw [ffst_s (j := i) (by simp [okL, figL, hm]; omega) ho (by omega)], rfl⟩ dX2_faultAsLine_65
      · have hg2 := hg i
        refine lv_iload_n X.x X.b dX2_faultAsLine_6 rfl (lv_at hl 0 rfl) ?_
        refine lv_aload_n X.x X.b dX2_faultAsLine_7 rfl (lv_at hl 3 rfl) ?_
        refine f_geti X hh (x := nI n) (sh_83 G _) (by decide) rfl in_X2 1 (by decide) kf_X2_15 rfl hw.1 dX2_faultAsLine_8 ?_
        refine lv_icmp_ge (tgt := 72) X.x X.b dX2_faultAsLine_11 (by decide) (fun c_7 => ?_) (fun c_7 => ?_)
        · have c_7 : n ≤ i := (nI_leI (a := n) (b := i) (by omega) (by omega)).mp c_7
          refine lv_bipush (v := (-6)) X.x X.b dX2_faultAsLine_72 (by decide) ?_
          exact f_iret X hh ⟨by unfold lans; rw [ffst_n (fun j hj => ho j (by omega))], rfl⟩ dX2_faultAsLine_74
        · have c_7 : ¬ n ≤ i := fun q9 => c_7 ((nI_leI (a := n) (b := i) (by omega) (by omega)).mpr q9)
          refine lv_iload_n X.x X.b dX2_faultAsLine_14 rfl (lv_at hl 1 rfl) ?_
          refine lv_if_eq (tgt := 34) X.x X.b dX2_faultAsLine_15 (by decide) (fun h9 => absurd h9 (by decide)) (fun _ => ?_)
          refine lv_aload_n X.x X.b dX2_faultAsLine_18 rfl (lv_at hl 3 rfl) ?_
          refine f_get X hh (v := .ref (gad G 84)) (sh_83 G _) (by decide) rfl in_X2 0 (by decide) kf_X2_9 rfl dX2_faultAsLine_19 ?_
          refine lv_iload_n X.x X.b dX2_faultAsLine_22 rfl (lv_at hl 0 rfl) ?_
          refine f_ialdx X hh (j := i) (y := nI (g i)) (sh_84 G _) (by decide) rfl (by omega) (by decide) (hw.2.2.1 _ (by omega)) dX2_faultAsLine_23 ?_
          refine lv_bipush (v := nI 45) X.x X.b dX2_faultAsLine_24 (by decide) ?_
          refine lv_icmp_ne (tgt := 34) X.x X.b dX2_faultAsLine_26 (by decide) (fun c_9 => ?_) (fun c_9 => ?_)
          · have c_9 : ¬ (g i) = 45 := fun q9 => c_9 ((nI_eq (a := (g i)) (b := 45) (by omega) (by omega)).mpr q9)
            refine lv_iload_n X.x X.b dX2_faultAsLine_34 rfl (lv_at hl 2 rfl) ?_
            refine lv_bipush (v := nI 9) X.x X.b dX2_faultAsLine_35 (by decide) ?_
            refine lv_icmp_ge (tgt := 64) X.x X.b dX2_faultAsLine_37 (by decide) (fun c_10 => ?_) (fun c_10 => ?_)
            · have c_10 : 9 ≤ (rdn g i) := (nI_leI (a := 9) (b := (rdn g i)) (by omega) (by omega)).mp c_10
              refine lv_iload_n X.x X.b dX2_faultAsLine_64 rfl (lv_at hl 0 rfl) ?_
              exact f_iret X hh ⟨by unfold lans; rw [ffst_s (j := i) (by simp [okL, figL, hm]; omega) ho (by omega)], rfl⟩ dX2_faultAsLine_65
            · have c_10 : ¬ 9 ≤ (rdn g i) := fun q9 => c_10 ((nI_leI (a := 9) (b := (rdn g i)) (by omega) (by omega)).mpr q9)
              refine lv_aload_n X.x X.b dX2_faultAsLine_40 rfl (lv_at hl 3 rfl) ?_
              refine f_get X hh (v := .ref (gad G 84)) (sh_83 G _) (by decide) rfl in_X2 0 (by decide) kf_X2_9 rfl dX2_faultAsLine_41 ?_
              refine lv_iload_n X.x X.b dX2_faultAsLine_44 rfl (lv_at hl 0 rfl) ?_
              refine f_ialdx X hh (j := i) (y := nI (g i)) (sh_84 G _) (by decide) rfl (by omega) (by decide) (hw.2.2.1 _ (by omega)) dX2_faultAsLine_45 ?_
              refine lv_bipush (v := nI 48) X.x X.b dX2_faultAsLine_46 (by decide) ?_
              refine lv_bipush (v := nI 50) X.x X.b dX2_faultAsLine_48 (by decide) ?_
              refine f_ncalli X hh (c_within l G (g i) 48 50 (by omega) (by omega) (by omega)) mf_yX4_isWithin ks_yX4_isWithin X.2.2.2.2.2.2.2.1 rfl hl.1 [] rfl (Nat.le_of_ble_eq_true rfl) ⟨by decide, by decide⟩ ⟨Nat.zero_le _, Nat.zero_le _⟩ dX2_faultAsLine_50 (fun r τ H locs hq hh => ?_)
              obtain ⟨rfl, hτ⟩ := hq
              rw [hτ] at hh
              clear hτ
              by_cases c_11 : 48 ≤ (g i) ∧ (g i) ≤ 50
              · rw [show (if 48 ≤ (g i) ∧ (g i) ≤ 50 then (1 : Int32) else 0) = 1 from if_pos c_11]
                refine lv_if_eq (tgt := 64) X.x X.b dX2_faultAsLine_53 (by decide) (fun h9 => absurd h9 (by decide)) (fun _ => ?_)
                refine lv_iinc (v := nI (rdn g i + 1)) (lv' := [(1, .int (nI (rdn g i + 1))), (3, .int (nI i)), (2, .int (nI 1)), (0, .ref (gad G 83))]) X.x X.b dX2_faultAsLine_56 hl (k := 2) rfl (nI_1 (rdn g i)) (by decide) rfl (fun ls hl => ?_)
                refine lv_iconst (v := nI 1) X.x X.b dX2_faultAsLine_59 (by decide) ?_
                refine lv_istore_n (lv' := [(2, .int (nI 1)), (1, .int (nI (rdn g i + 1))), (3, .int (nI i)), (0, .ref (gad G 83))]) X.x X.b dX2_faultAsLine_60 rfl hl (by decide) rfl (fun ls hl => ?_)
                refine lv_goto (tgt := 66) X.x X.b dX2_faultAsLine_61 (by decide) ?_
                refine lv_iinc (v := nI (i + 1)) (lv' := [(3, .int (nI (i + 1))), (2, .int (nI 1)), (1, .int (nI (rdn g i + 1))), (0, .ref (gad G 83))]) X.x X.b dX2_faultAsLine_66 hl (k := 2) rfl (nI_1 i) (by decide) rfl (fun ls hl => ?_)
                refine lv_goto (tgt := 6) X.x X.b dX2_faultAsLine_69 (by decide) ?_
                refine ih (n - (i + 1)) (by omega) (i + 1) 1 (fun j hj => ?_) ?_ rfl (by omega) ls H locs ?_ hh
                · by_cases e9 : j = i
                  · subst e9; simp [okL, figL, hm]; omega
                  · exact ho j (by omega)
                · simp [may]; omega
                · have e8 : rdn g (i + 1) = rdn g i + 1 := by show (if g i = 45 then rdn g i else rdn g i + 1) = _; split <;> omega
                  rw [e8]; exact lv_sub hl [0, 1, 2, 3] rfl
              · rw [show (if 48 ≤ (g i) ∧ (g i) ≤ 50 then (1 : Int32) else 0) = 0 from if_neg c_11]
                refine lv_if_eq (tgt := 64) X.x X.b dX2_faultAsLine_53 (by decide) (fun _ => ?_) (fun h9 => absurd (show _ by decide) h9)
                refine lv_iload_n X.x X.b dX2_faultAsLine_64 rfl (lv_at hl 0 rfl) ?_
                exact f_iret X hh ⟨by unfold lans; rw [ffst_s (j := i) (by simp [okL, figL, hm]; omega) ho (by omega)], rfl⟩ dX2_faultAsLine_65
          · have c_9 : (g i) = 45 := (nI_eq (a := (g i)) (b := 45) (by omega) (by omega)).mp c_9
            refine lv_iconst (v := nI 0) X.x X.b dX2_faultAsLine_29 (by decide) ?_
            refine lv_istore_n (lv' := [(2, .int (nI 0)), (3, .int (nI i)), (1, .int (nI (rdn g i))), (0, .ref (gad G 83))]) X.x X.b dX2_faultAsLine_30 rfl hl (by decide) rfl (fun ls hl => ?_)
            refine lv_goto (tgt := 66) X.x X.b dX2_faultAsLine_31 (by decide) ?_
            refine lv_iinc (v := nI (i + 1)) (lv' := [(3, .int (nI (i + 1))), (2, .int (nI 0)), (1, .int (nI (rdn g i))), (0, .ref (gad G 83))]) X.x X.b dX2_faultAsLine_66 hl (k := 1) rfl (nI_1 i) (by decide) rfl (fun ls hl => ?_)
            refine lv_goto (tgt := 6) X.x X.b dX2_faultAsLine_69 (by decide) ?_
            refine ih (n - (i + 1)) (by omega) (i + 1) 0 (fun j hj => ?_) ?_ rfl (by omega) ls H locs ?_ hh
            · by_cases e9 : j = i
              · subst e9; simp [okL, figL, hm]; omega
              · exact ho j (by omega)
            · simp [may]; omega
            · have e8 : rdn g (i + 1) = rdn g i := by show (if g i = 45 then rdn g i else rdn g i + 1) = _; split <;> omega
              rw [e8]; exact lv_sub hl [0, 1, 2, 3] rfl
  have hl : lv_has ls 4 [(0, .ref (gad G 83))] := hl
  refine lv_iconst (v := nI 0) X.x X.b dX2_faultAsLine_0 (by decide) ?_
  refine lv_istore_n (lv' := [(1, .int (nI 0)), (0, .ref (gad G 83))]) X.x X.b dX2_faultAsLine_1 rfl hl (by decide) rfl (fun ls hl => ?_)
  refine lv_iconst (v := nI 0) X.x X.b dX2_faultAsLine_2 (by decide) ?_
  refine lv_istore_n (lv' := [(2, .int (nI 0)), (1, .int (nI 0)), (0, .ref (gad G 83))]) X.x X.b dX2_faultAsLine_3 rfl hl (by decide) rfl (fun ls hl => ?_)
  refine lv_iconst (v := nI 0) X.x X.b dX2_faultAsLine_4 (by decide) ?_
  refine lv_istore_n (lv' := [(3, .int (nI 0)), (2, .int (nI 0)), (1, .int (nI 0)), (0, .ref (gad G 83))]) X.x X.b dX2_faultAsLine_5 rfl hl (by decide) rfl (fun ls hl => ?_)
  exact lp n 0 0 (fun j hj => absurd hj (Nat.not_lt_zero _)) (Or.inl ⟨rfl, rfl⟩) rfl (by omega) ls H locs (lv_sub hl [0, 1, 2, 3] rfl) hh
set_option maxHeartbeats 4000000 in
set_option maxRecDepth 100000 in
theorem c_faultAsTune (l : Launch) (G : GG) {σ : Mem} {n : Nat} {g : Nat → Nat} (hw : PD σ n g) : Ci l G yX2_faultAsTune cX2_faultAsTune 4 (some .int) 1 22 [.ref (gad G 83)] σ (fun r τ => r = tans g n ∧ τ = σ) := by
  refine Ci.of (own := RX2) (by decide) rfl (Nat.le_of_ble_eq_true rfl) (fun p e s m args below meth c ls H locs X hl hh => ?_)
  have hn := hw.2.1
  have hg := hw.2.2.2
  have lp : ∀ (k i : Nat), (∀ j, j < i → okT g j = true) → n - i = k → i ≤ n → ∀ (ls : Array Slot) (H : Heap) (locs : List Loc), lv_has ls 4 [(1, .int (nI i)), (0, .ref (gad G 83))] → HH G s σ H locs → WI l G p e s m args below meth c 1 22 (fun r τ => r = tans g n ∧ τ = σ) H locs (F0 m 2 ls []) := by
    intro km
    induction km using Nat.strongRecOn with
    | ind km ih =>
      intro i ho hk hi ls H locs hl hh
      have hg2 := hg i
      refine lv_iload_n X.x X.b dX2_faultAsTune_2 rfl (lv_at hl 0 rfl) ?_
      refine lv_aload_n X.x X.b dX2_faultAsTune_3 rfl (lv_at hl 1 rfl) ?_
      refine f_geti X hh (x := nI n) (sh_83 G _) (by decide) rfl in_X2 1 (by decide) kf_X2_15 rfl hw.1 dX2_faultAsTune_4 ?_
      refine lv_icmp_ge (tgt := 68) X.x X.b dX2_faultAsTune_7 (by decide) (fun c_1 => ?_) (fun c_1 => ?_)
      · have c_1 : n ≤ i := (nI_leI (a := n) (b := i) (by omega) (by omega)).mp c_1
        refine lv_aload_n X.x X.b dX2_faultAsTune_68 rfl (lv_at hl 1 rfl) ?_
        refine f_geti X hh (x := nI n) (sh_83 G _) (by decide) rfl in_X2 1 (by decide) kf_X2_15 rfl hw.1 dX2_faultAsTune_69 ?_
        refine lv_iconst (v := nI 2) X.x X.b dX2_faultAsTune_72 (by decide) ?_
        refine f_irem X (z := nI (n % 2)) (by decide) (pk_rem (a := n) (d := 2) (by omega) (by decide) (by decide)) dX2_faultAsTune_73 ?_
        refine lv_if_ne (tgt := 82) X.x X.b dX2_faultAsTune_74 (by decide) (fun c_2 => ?_) (fun c_2 => ?_)
        · have c_2 : ¬ (n % 2) = 0 := fun q9 => c_2 ((nI_eq (a := (n % 2)) (b := 0) (by omega) (by omega)).mpr q9)
          refine lv_aload_n X.x X.b dX2_faultAsTune_82 rfl (lv_at hl 1 rfl) ?_
          refine f_geti X hh (x := nI n) (sh_83 G _) (by decide) rfl in_X2 1 (by decide) kf_X2_15 rfl hw.1 dX2_faultAsTune_83 ?_
          exact f_iret X hh ⟨by unfold tans; rw [ffst_n (fun j hj => ho j (by omega))]; exact (if_neg (by omega)).symm, rfl⟩ dX2_faultAsTune_86
        · have c_2 : (n % 2) = 0 := (nI_eq (a := (n % 2)) (b := 0) (by omega) (by omega)).mp c_2
          refine lv_bipush (v := (-6)) X.x X.b dX2_faultAsTune_77 (by decide) ?_
          refine lv_goto (tgt := 86) X.x X.b dX2_faultAsTune_79 (by decide) ?_
          exact f_iret X hh ⟨by unfold tans; rw [ffst_n (fun j hj => ho j (by omega))]; exact (if_pos (by omega)).symm, rfl⟩ dX2_faultAsTune_86
      · have c_1 : ¬ n ≤ i := fun q9 => c_1 ((nI_leI (a := n) (b := i) (by omega) (by omega)).mpr q9)
        refine lv_iload_n X.x X.b dX2_faultAsTune_10 rfl (lv_at hl 0 rfl) ?_
        refine lv_iconst (v := nI 2) X.x X.b dX2_faultAsTune_11 (by decide) ?_
        refine f_irem X (z := nI (i % 2)) (by decide) (pk_rem (a := i) (d := 2) (by omega) (by decide) (by decide)) dX2_faultAsTune_12 ?_
        refine lv_if_ne (tgt := 20) X.x X.b dX2_faultAsTune_13 (by decide) (fun c_3 => ?_) (fun c_3 => ?_)
        · have c_3 : ¬ (i % 2) = 0 := fun q9 => c_3 ((nI_eq (a := (i % 2)) (b := 0) (by omega) (by omega)).mpr q9)
          refine lv_iconst (v := nI 0) X.x X.b dX2_faultAsTune_20 (by decide) ?_
          refine lv_istore_n (lv' := [(2, .int (nI 0)), (1, .int (nI i)), (0, .ref (gad G 83))]) X.x X.b dX2_faultAsTune_21 rfl hl (by decide) rfl (fun ls hl => ?_)
          refine lv_iload_n X.x X.b dX2_faultAsTune_22 rfl (lv_at hl 0 rfl) ?_
          refine lv_if_eq (tgt := 42) X.x X.b dX2_faultAsTune_23 (by decide) (fun _ => ?_) (fun h9 => absurd (show _ by decide) h9)
          refine lv_aload_n X.x X.b dX2_faultAsTune_42 rfl (lv_at hl 2 rfl) ?_
          refine f_get X hh (v := .ref (gad G 84)) (sh_83 G _) (by decide) rfl in_X2 0 (by decide) kf_X2_9 rfl dX2_faultAsTune_43 ?_
          refine lv_iload_n X.x X.b dX2_faultAsTune_46 rfl (lv_at hl 1 rfl) ?_
          refine f_ialdx X hh (j := i) (y := nI (g i)) (sh_84 G _) (by decide) rfl (by omega) (by decide) (hw.2.2.1 _ (by omega)) dX2_faultAsTune_47 ?_
          refine lv_bipush (v := nI 49) X.x X.b dX2_faultAsTune_48 (by decide) ?_
          refine lv_bipush (v := nI 52) X.x X.b dX2_faultAsTune_50 (by decide) ?_
          refine f_ncalli X hh (c_within l G (g i) 49 52 (by omega) (by omega) (by omega)) mf_yX4_isWithin ks_yX4_isWithin X.2.2.2.2.2.2.2.1 rfl hl.1 [] rfl (Nat.le_of_ble_eq_true rfl) ⟨by decide, by decide⟩ ⟨Nat.zero_le _, Nat.zero_le _⟩ dX2_faultAsTune_52 (fun r τ H locs hq hh => ?_)
          obtain ⟨rfl, hτ⟩ := hq
          rw [hτ] at hh
          clear hτ
          by_cases c_5 : 49 ≤ (g i) ∧ (g i) ≤ 52
          · rw [show (if 49 ≤ (g i) ∧ (g i) ≤ 52 then (1 : Int32) else 0) = 1 from if_pos c_5]
            refine lv_istore_n (lv' := [(3, .int 1), (2, .int (nI 0)), (1, .int (nI i)), (0, .ref (gad G 83))]) X.x X.b dX2_faultAsTune_55 rfl hl (by decide) rfl (fun ls hl => ?_)
            refine lv_iload_n X.x X.b dX2_faultAsTune_56 rfl (lv_at hl 0 rfl) ?_
            refine lv_if_ne (tgt := 62) X.x X.b dX2_faultAsTune_57 (by decide) (fun _ => ?_) (fun h9 => absurd h9 (by decide))
            refine lv_iinc (v := nI (i + 1)) (lv' := [(1, .int (nI (i + 1))), (3, .int 1), (2, .int (nI 0)), (0, .ref (gad G 83))]) X.x X.b dX2_faultAsTune_62 hl (k := 2) rfl (nI_1 i) (by decide) rfl (fun ls hl => ?_)
            refine lv_goto (tgt := 2) X.x X.b dX2_faultAsTune_65 (by decide) ?_
            refine ih (n - (i + 1)) (by omega) (i + 1) (fun j hj => ?_) rfl (by omega) ls H locs (lv_sub hl [0, 3] rfl) hh
            by_cases e9 : j = i
            · subst e9; unfold okT; split <;> simp <;> omega
            · exact ho j (by omega)
          · rw [show (if 49 ≤ (g i) ∧ (g i) ≤ 52 then (1 : Int32) else 0) = 0 from if_neg c_5]
            refine lv_istore_n (lv' := [(3, .int 0), (2, .int (nI 0)), (1, .int (nI i)), (0, .ref (gad G 83))]) X.x X.b dX2_faultAsTune_55 rfl hl (by decide) rfl (fun ls hl => ?_)
            refine lv_iload_n X.x X.b dX2_faultAsTune_56 rfl (lv_at hl 0 rfl) ?_
            refine lv_if_ne (tgt := 62) X.x X.b dX2_faultAsTune_57 (by decide) (fun h9 => absurd (show _ by decide) h9) (fun _ => ?_)
            refine lv_iload_n X.x X.b dX2_faultAsTune_60 rfl (lv_at hl 2 rfl) ?_
            exact f_iret X hh ⟨by unfold tans; rw [ffst_s (j := i) (by unfold okT; split <;> simp <;> omega) ho (by omega)], rfl⟩ dX2_faultAsTune_61
        · have c_3 : (i % 2) = 0 := (nI_eq (a := (i % 2)) (b := 0) (by omega) (by omega)).mp c_3
          refine lv_iconst (v := nI 1) X.x X.b dX2_faultAsTune_16 (by decide) ?_
          refine lv_goto (tgt := 21) X.x X.b dX2_faultAsTune_17 (by decide) ?_
          refine lv_istore_n (lv' := [(2, .int (nI 1)), (1, .int (nI i)), (0, .ref (gad G 83))]) X.x X.b dX2_faultAsTune_21 rfl hl (by decide) rfl (fun ls hl => ?_)
          refine lv_iload_n X.x X.b dX2_faultAsTune_22 rfl (lv_at hl 0 rfl) ?_
          refine lv_if_eq (tgt := 42) X.x X.b dX2_faultAsTune_23 (by decide) (fun h9 => absurd h9 (by decide)) (fun _ => ?_)
          refine lv_aload_n X.x X.b dX2_faultAsTune_26 rfl (lv_at hl 2 rfl) ?_
          refine f_get X hh (v := .ref (gad G 84)) (sh_83 G _) (by decide) rfl in_X2 0 (by decide) kf_X2_9 rfl dX2_faultAsTune_27 ?_
          refine lv_iload_n X.x X.b dX2_faultAsTune_30 rfl (lv_at hl 1 rfl) ?_
          refine f_ialdx X hh (j := i) (y := nI (g i)) (sh_84 G _) (by decide) rfl (by omega) (by decide) (hw.2.2.1 _ (by omega)) dX2_faultAsTune_31 ?_
          refine lv_bipush (v := nI 48) X.x X.b dX2_faultAsTune_32 (by decide) ?_
          refine lv_bipush (v := nI 50) X.x X.b dX2_faultAsTune_34 (by decide) ?_
          refine f_ncalli X hh (c_within l G (g i) 48 50 (by omega) (by omega) (by omega)) mf_yX4_isWithin ks_yX4_isWithin X.2.2.2.2.2.2.2.1 rfl hl.1 [] rfl (Nat.le_of_ble_eq_true rfl) ⟨by decide, by decide⟩ ⟨Nat.zero_le _, Nat.zero_le _⟩ dX2_faultAsTune_36 (fun r τ H locs hq hh => ?_)
          obtain ⟨rfl, hτ⟩ := hq
          rw [hτ] at hh
          clear hτ
          by_cases c_9 : 48 ≤ (g i) ∧ (g i) ≤ 50
          · rw [show (if 48 ≤ (g i) ∧ (g i) ≤ 50 then (1 : Int32) else 0) = 1 from if_pos c_9]
            refine lv_goto (tgt := 55) X.x X.b dX2_faultAsTune_39 (by decide) ?_
            refine lv_istore_n (lv' := [(3, .int 1), (2, .int (nI 1)), (1, .int (nI i)), (0, .ref (gad G 83))]) X.x X.b dX2_faultAsTune_55 rfl hl (by decide) rfl (fun ls hl => ?_)
            refine lv_iload_n X.x X.b dX2_faultAsTune_56 rfl (lv_at hl 0 rfl) ?_
            refine lv_if_ne (tgt := 62) X.x X.b dX2_faultAsTune_57 (by decide) (fun _ => ?_) (fun h9 => absurd h9 (by decide))
            refine lv_iinc (v := nI (i + 1)) (lv' := [(1, .int (nI (i + 1))), (3, .int 1), (2, .int (nI 1)), (0, .ref (gad G 83))]) X.x X.b dX2_faultAsTune_62 hl (k := 2) rfl (nI_1 i) (by decide) rfl (fun ls hl => ?_)
            refine lv_goto (tgt := 2) X.x X.b dX2_faultAsTune_65 (by decide) ?_
            refine ih (n - (i + 1)) (by omega) (i + 1) (fun j hj => ?_) rfl (by omega) ls H locs (lv_sub hl [0, 3] rfl) hh
            by_cases e9 : j = i
            · subst e9; unfold okT; split <;> simp <;> omega
            · exact ho j (by omega)
          · rw [show (if 48 ≤ (g i) ∧ (g i) ≤ 50 then (1 : Int32) else 0) = 0 from if_neg c_9]
            refine lv_goto (tgt := 55) X.x X.b dX2_faultAsTune_39 (by decide) ?_
            refine lv_istore_n (lv' := [(3, .int 0), (2, .int (nI 1)), (1, .int (nI i)), (0, .ref (gad G 83))]) X.x X.b dX2_faultAsTune_55 rfl hl (by decide) rfl (fun ls hl => ?_)
            refine lv_iload_n X.x X.b dX2_faultAsTune_56 rfl (lv_at hl 0 rfl) ?_
            refine lv_if_ne (tgt := 62) X.x X.b dX2_faultAsTune_57 (by decide) (fun h9 => absurd (show _ by decide) h9) (fun _ => ?_)
            refine lv_iload_n X.x X.b dX2_faultAsTune_60 rfl (lv_at hl 2 rfl) ?_
            exact f_iret X hh ⟨by unfold tans; rw [ffst_s (j := i) (by unfold okT; split <;> simp <;> omega) ho (by omega)], rfl⟩ dX2_faultAsTune_61
  have hl : lv_has ls 4 [(0, .ref (gad G 83))] := hl
  refine lv_iconst (v := nI 0) X.x X.b dX2_faultAsTune_0 (by decide) ?_
  refine lv_istore_n (lv' := [(1, .int (nI 0)), (0, .ref (gad G 83))]) X.x X.b dX2_faultAsTune_1 rfl hl (by decide) rfl (fun ls hl => ?_)
  exact lp n 0 (fun j hj => absurd hj (Nat.not_lt_zero _)) rfl (by omega) ls H locs (lv_sub hl [0, 1] rfl) hh
theorem okL_ne {g : Nat → Nat} {k : Nat} (h : okL g k = true) (hn : g k ≠ 45) : rdn g k < 9 ∧ 48 ≤ g k ∧ g k ≤ 50 := by
  simp [okL, figL, hn] at h
  omega
theorem PD.keep {σ τ : Mem} {n : Nat} {g : Nat → Nat} (h : PD σ n g) (h1 : τ 83 = σ 83) (h2 : τ 84 = σ 84) : PD τ n g := ⟨by rw [h1]; exact h.1, h.2.1, fun i hi => by rw [h2]; exact h.2.2.1 i hi, h.2.2.2⟩
set_option maxHeartbeats 4000000 in
set_option maxRecDepth 100000 in
theorem c_readLine (l : Launch) (G : GG) {σ : Mem} {n r : Nat} {g : Nat → Nat} (hr : r < 23) (hw : PD σ n g) (hok : ∀ j, j < n → okL g j = true) : Cv l G yX2_readLine cX2_readLine 3 1 22 [.ref (gad G 83), .ref (gad G (3 * r))] σ (fun τ => RW τ r (rdn g n) (rdw g n) (rdz g n) ∧ Frr r σ τ) := by
  refine Cv.of (own := RX2) (by decide) rfl (Nat.le_of_ble_eq_true rfl) (fun p e s m args below meth c ls H locs X hl hh => ?_)
  have hn := hw.2.1
  have hg := hw.2.2.2
  have hrg := room_ge r
  have lp : ∀ (k i : Nat), n - i = k → i ≤ n → ∀ (υ : Mem), RW υ r (rdn g i) (rdw g i) (rdz g i) → Frr r σ υ → ∀ (ls : Array Slot) (H : Heap) (locs : List Loc), lv_has ls 3 [(2, .int (nI i)), (0, .ref (gad G 83)), (1, .ref (gad G (3 * r)))] → HH G s υ H locs → WV l G p e s m args below meth c 1 22 (fun τ => RW τ r (rdn g n) (rdw g n) (rdz g n) ∧ Frr r σ τ) H locs (F0 m 6 ls []) := by
    intro km
    induction km using Nat.strongRecOn with
    | ind km ih =>
      intro i hk hi υ hv hf ls H locs hl hh
      have hg2 := hg i
      have hp : PD υ n g := hw.keep (hf _ (by omega)) (hf _ (by omega))
      have hc := rdn_ok (g := g) (k := i) (fun j hj => hok j (by omega))
      refine lv_iload_n X.x X.b dX2_readLine_6 rfl (lv_at hl 0 rfl) ?_
      refine lv_aload_n X.x X.b dX2_readLine_7 rfl (lv_at hl 1 rfl) ?_
      refine f_geti X hh (x := nI n) (sh_83 G _) (by decide) rfl in_X2 1 (by decide) kf_X2_15 rfl hp.1 dX2_readLine_8 ?_
      refine lv_icmp_ge (tgt := 52) X.x X.b dX2_readLine_11 (by decide) (fun c_1 => ?_) (fun c_1 => ?_)
      · have c_1 : n ≤ i := (nI_leI (a := n) (b := i) (by omega) (by omega)).mp c_1
        exact f_vret X hh (by obtain rfl : i = n := (by omega); exact ⟨hv, hf⟩) dX2_readLine_52
      · have c_1 : ¬ n ≤ i := fun q9 => c_1 ((nI_leI (a := n) (b := i) (by omega) (by omega)).mpr q9)
        refine lv_aload_n X.x X.b dX2_readLine_14 rfl (lv_at hl 1 rfl) ?_
        refine f_get X hh (v := .ref (gad G 84)) (sh_83 G _) (by decide) rfl in_X2 0 (by decide) kf_X2_9 rfl dX2_readLine_15 ?_
        refine lv_iload_n X.x X.b dX2_readLine_18 rfl (lv_at hl 0 rfl) ?_
        refine f_ialdx X hh (j := i) (y := nI (g i)) (sh_84 G _) (by decide) rfl (by omega) (by decide) (hp.2.2.1 _ (by omega)) dX2_readLine_19 ?_
        refine lv_bipush (v := nI 45) X.x X.b dX2_readLine_20 (by decide) ?_
        refine lv_icmp_ne (tgt := 32) X.x X.b dX2_readLine_22 (by decide) (fun c_2 => ?_) (fun c_2 => ?_)
        · have c_2 : ¬ (g i) = 45 := fun q9 => c_2 ((nI_eq (a := (g i)) (b := 45) (by omega) (by omega)).mpr q9)
          have hfig := okL_ne (hok i (by omega)) (by omega)
          refine lv_aload_n X.x X.b dX2_readLine_32 rfl (lv_at hl 2 rfl) ?_
          refine lv_aload_n X.x X.b dX2_readLine_33 rfl (lv_at hl 1 rfl) ?_
          refine f_get X hh (v := .ref (gad G 84)) (sh_83 G _) (by decide) rfl in_X2 0 (by decide) kf_X2_9 rfl dX2_readLine_34 ?_
          refine lv_iload_n X.x X.b dX2_readLine_37 rfl (lv_at hl 0 rfl) ?_
          refine f_ialdx X hh (j := i) (y := nI (g i)) (sh_84 G _) (by decide) rfl (by omega) (by decide) (hp.2.2.1 _ (by omega)) dX2_readLine_38 ?_
          refine lv_bipush (v := nI 48) X.x X.b dX2_readLine_39 (by decide) ?_
          refine f_isub X (z := nI (g i - 48)) (pk_sub (a := g i) (b := 48) (by omega)) dX2_readLine_41 ?_
          refine lv_iconst (v := nI 0) X.x X.b dX2_readLine_42 (by decide) ?_
          refine f_callv X hh (c_add l G (a := g i - 48) (b := 0) hr hv (by omega)) mf_yX3_add ki_yX3_add kl_yX3_add km_X2_31 (sh_row G (r := r) (by omega) _) (by omega) rfl rfl hl.1 [] rfl (Nat.le_of_ble_eq_true rfl) ⟨by decide, by decide⟩ ⟨Nat.zero_le _, Nat.zero_le _⟩ dX2_readLine_43 (fun τ H locs hq hh => ?_)
          obtain ⟨hv3, hf3⟩ := hq
          have hv4 : RW τ r (rdn g (i + 1)) (rdw g (i + 1)) (rdz g (i + 1)) := by
            have e1 : rdn g (i + 1) = rdn g i + 1 := by show (if g i = 45 then rdn g i else rdn g i + 1) = _; rw [if_neg (by omega)]
            rw [e1]
            refine hv3.ext (fun j hj => ?_) (fun j hj => ?_)
            · show (if g i = 45 then rdw g i else fun i_1 => if i_1 = rdn g i then g i - 48 else rdw g i i_1) j = _; rw [if_neg (by omega)]
            · show (if g i = 45 then (fun i_1 => if i_1 + 1 = rdn g i then 1 else rdz g i i_1) else fun i_1 => if i_1 = rdn g i then 0 else rdz g i i_1) j = _; rw [if_neg (by omega)]
          refine lv_iinc (v := nI (i + 1)) (lv' := [(2, .int (nI (i + 1))), (0, .ref (gad G 83)), (1, .ref (gad G (3 * r)))]) X.x X.b dX2_readLine_46 hl (k := 0) rfl (nI_1 i) (by decide) rfl (fun ls hl => ?_)
          refine lv_goto (tgt := 6) X.x X.b dX2_readLine_49 (by decide) ?_
          exact ih (n - (i + 1)) (by omega) (i + 1) rfl (by omega) _ hv4 (hf.tr hf3) ls H locs (lv_sub hl [0, 1, 2] rfl) hh
        · have c_2 : (g i) = 45 := (nI_eq (a := (g i)) (b := 45) (by omega) (by omega)).mp c_2
          refine lv_aload_n X.x X.b dX2_readLine_25 rfl (lv_at hl 2 rfl) ?_
          obtain ⟨N9, hN9⟩ : ∃ N9, rdn g i = N9 + 1 := ⟨rdn g i - 1, by have := rdn_pos (g := g) (k := i) (fun j hj => hok j (by omega)) (by intro e9; subst e9; have := hok 0 (by omega); simp [okL, figL, may] at this; omega); omega⟩
          rw [hN9] at hv
          refine f_callv X hh (c_lengthenLast l G hr hv) mf_yX3_lengthenLast ki_yX3_lengthenLast kl_yX3_lengthenLast km_X2_28 (sh_row G (r := r) (by omega) _) (by omega) rfl rfl hl.1 [] rfl (Nat.le_of_ble_eq_true rfl) ⟨by decide, by decide⟩ ⟨Nat.zero_le _, Nat.zero_le _⟩ dX2_readLine_26 (fun τ H locs hq hh => ?_)
          obtain ⟨hv3, hf3⟩ := hq
          have hv4 : RW τ r (rdn g (i + 1)) (rdw g (i + 1)) (rdz g (i + 1)) := by
            have e1 : rdn g (i + 1) = N9 + 1 := by show (if g i = 45 then rdn g i else rdn g i + 1) = _; rw [if_pos (by omega)]; exact hN9
            rw [e1]
            refine hv3.ext (fun j hj => ?_) (fun j hj => ?_)
            · show (if g i = 45 then rdw g i else fun i_1 => if i_1 = rdn g i then g i - 48 else rdw g i i_1) j = _; rw [if_pos (by omega)]
            · show (if g i = 45 then (fun i_1 => if i_1 + 1 = rdn g i then 1 else rdz g i i_1) else fun i_1 => if i_1 = rdn g i then 0 else rdz g i i_1) j = _; rw [if_pos (by omega)]; simp only [hN9, Nat.add_right_cancel_iff]
          refine lv_goto (tgt := 46) X.x X.b dX2_readLine_29 (by decide) ?_
          refine lv_iinc (v := nI (i + 1)) (lv' := [(2, .int (nI (i + 1))), (0, .ref (gad G 83)), (1, .ref (gad G (3 * r)))]) X.x X.b dX2_readLine_46 hl (k := 0) rfl (nI_1 i) (by decide) rfl (fun ls hl => ?_)
          refine lv_goto (tgt := 6) X.x X.b dX2_readLine_49 (by decide) ?_
          exact ih (n - (i + 1)) (by omega) (i + 1) rfl (by omega) _ hv4 (hf.tr hf3) ls H locs (lv_sub hl [0, 1, 2] rfl) hh
  have hl : lv_has ls 3 [(0, .ref (gad G 83)), (1, .ref (gad G (3 * r)))] := hl
  refine lv_aload_n X.x X.b dX2_readLine_0 rfl (lv_at hl 1 rfl) ?_
  refine f_callv X hh (c_clear l G hr) mf_yX3_clear ki_yX3_clear kl_yX3_clear km_X2_23 (sh_row G (r := r) (by omega) _) (by omega) rfl rfl hl.1 [] rfl (Nat.le_of_ble_eq_true rfl) ⟨by decide, by decide⟩ ⟨Nat.zero_le _, Nat.zero_le _⟩ dX2_readLine_1 (fun τ H locs hq hh => ?_)
  subst hq
  refine lv_iconst (v := nI 0) X.x X.b dX2_readLine_4 (by decide) ?_
  refine lv_istore_n (lv' := [(2, .int (nI 0)), (0, .ref (gad G 83)), (1, .ref (gad G (3 * r)))]) X.x X.b dX2_readLine_5 rfl hl (by decide) rfl (fun ls hl => ?_)
  have hp : PD (mset σ (3 * r) 3 (nI 0)) n g := hw.keep (mset_n (by omega)) (mset_n (by omega))
  exact lp n 0 rfl (by omega) _ (rw_clear (σ := σ) (r := r)).1 (rw_clear (σ := σ) (r := r)).2 ls H locs (lv_sub hl [0, 1, 2] rfl) hh
set_option maxHeartbeats 4000000 in
set_option maxRecDepth 100000 in
theorem c_readTune (l : Launch) (G : GG) {σ : Mem} {n r : Nat} {g : Nat → Nat} (hr : r < 23) (hw : PD σ n g) (hok : ∀ j, j < n → okT g j = true) (he : n % 2 = 0) (hrm : roomN r = 11) : Cv l G yX2_readTune cX2_readTune 3 1 22 [.ref (gad G 83), .ref (gad G (3 * r))] σ (fun τ => RW τ r (n / 2) (fun j => g (2 * j) - 48) (fun j => g (2 * j + 1) - 48) ∧ Frr r σ τ) := by
  refine Cv.of (own := RX2) (by decide) rfl (Nat.le_of_ble_eq_true rfl) (fun p e s m args below meth c ls H locs X hl hh => ?_)
  have hn := hw.2.1
  have hg := hw.2.2.2
  have lp : ∀ (k j : Nat), n - j = k → 2 * j ≤ n → ∀ (υ : Mem), RW υ r j (fun j => g (2 * j) - 48) (fun j => g (2 * j + 1) - 48) → Frr r σ υ → ∀ (ls : Array Slot) (H : Heap) (locs : List Loc), lv_has ls 3 [(2, .int (nI (2 * j))), (0, .ref (gad G 83)), (1, .ref (gad G (3 * r)))] → HH G s υ H locs → WV l G p e s m args below meth c 1 22 (fun τ => RW τ r (n / 2) (fun j => g (2 * j) - 48) (fun j => g (2 * j + 1) - 48) ∧ Frr r σ τ) H locs (F0 m 6 ls []) := by
    intro km
    induction km using Nat.strongRecOn with
    | ind km ih =>
      intro j hk hi υ hv hf ls H locs hl hh
      have hp : PD υ n g := hw.keep (hf _ (by omega)) (hf _ (by omega))
      refine lv_iload_n X.x X.b dX2_readTune_6 rfl (lv_at hl 0 rfl) ?_
      refine lv_iconst (v := nI 1) X.x X.b dX2_readTune_7 (by decide) ?_
      refine f_iadd X (z := nI (2 * j + 1)) (nI_add (2 * j) 1) dX2_readTune_8 ?_
      refine lv_aload_n X.x X.b dX2_readTune_9 rfl (lv_at hl 1 rfl) ?_
      refine f_geti X hh (x := nI n) (sh_83 G _) (by decide) rfl in_X2 1 (by decide) kf_X2_15 rfl hp.1 dX2_readTune_10 ?_
      refine lv_icmp_ge (tgt := 46) X.x X.b dX2_readTune_13 (by decide) (fun c_1 => ?_) (fun c_1 => ?_)
      · have c_1 : n ≤ (2 * j + 1) := (nI_leI (a := n) (b := (2 * j + 1)) (by omega) (by omega)).mp c_1
        exact f_vret X hh (by obtain rfl : j = n / 2 := (by omega); exact ⟨hv, hf⟩) dX2_readTune_46
      · have c_1 : ¬ n ≤ (2 * j + 1) := fun q9 => c_1 ((nI_leI (a := n) (b := (2 * j + 1)) (by omega) (by omega)).mpr q9)
        have ho1 := hok (2 * j) (by omega)
        have ho2 := hok (2 * j + 1) (by omega)
        unfold okT at ho1 ho2
        rw [if_pos (by omega)] at ho1
        rw [if_neg (by omega)] at ho2
        simp only [Bool.and_eq_true, decide_eq_true_eq] at ho1 ho2
        refine lv_aload_n X.x X.b dX2_readTune_16 rfl (lv_at hl 2 rfl) ?_
        refine lv_aload_n X.x X.b dX2_readTune_17 rfl (lv_at hl 1 rfl) ?_
        refine f_get X hh (v := .ref (gad G 84)) (sh_83 G _) (by decide) rfl in_X2 0 (by decide) kf_X2_9 rfl dX2_readTune_18 ?_
        refine lv_iload_n X.x X.b dX2_readTune_21 rfl (lv_at hl 0 rfl) ?_
        refine f_ialdx X hh (j := 2 * j) (y := nI (g (2 * j))) (sh_84 G _) (by decide) rfl (by omega) (by decide) (hp.2.2.1 _ (by omega)) dX2_readTune_22 ?_
        refine lv_bipush (v := nI 48) X.x X.b dX2_readTune_23 (by decide) ?_
        refine f_isub X (z := nI (g (2 * j) - 48)) (pk_sub (a := g (2 * j)) (b := 48) (by omega)) dX2_readTune_25 ?_
        refine lv_aload_n X.x X.b dX2_readTune_26 rfl (lv_at hl 1 rfl) ?_
        refine f_get X hh (v := .ref (gad G 84)) (sh_83 G _) (by decide) rfl in_X2 0 (by decide) kf_X2_9 rfl dX2_readTune_27 ?_
        refine lv_iload_n X.x X.b dX2_readTune_30 rfl (lv_at hl 0 rfl) ?_
        refine lv_iconst (v := nI 1) X.x X.b dX2_readTune_31 (by decide) ?_
        refine f_iadd X (z := nI (2 * j + 1)) (nI_add (2 * j) 1) dX2_readTune_32 ?_
        refine f_ialdx X hh (j := 2 * j + 1) (y := nI (g (2 * j + 1))) (sh_84 G _) (by decide) rfl (by omega) (by decide) (hp.2.2.1 _ (by omega)) dX2_readTune_33 ?_
        refine lv_bipush (v := nI 48) X.x X.b dX2_readTune_34 (by decide) ?_
        refine f_isub X (z := nI (g (2 * j + 1) - 48)) (pk_sub (a := g (2 * j + 1)) (b := 48) (by omega)) dX2_readTune_36 ?_
        refine f_callv X hh (c_add l G (a := g (2 * j) - 48) (b := g (2 * j + 1) - 48) hr hv (by omega)) mf_yX3_add ki_yX3_add kl_yX3_add km_X2_31 (sh_row G (r := r) (by omega) _) (by omega) rfl rfl hl.1 [] rfl (Nat.le_of_ble_eq_true rfl) ⟨by decide, by decide⟩ ⟨Nat.zero_le _, Nat.zero_le _⟩ dX2_readTune_37 (fun τ H locs hq hh => ?_)
        obtain ⟨hv3, hf3⟩ := hq
        have hv4 : RW τ r (j + 1) (fun j => g (2 * j) - 48) (fun j => g (2 * j + 1) - 48) := hv3.ext (fun x hx => by by_cases e9 : x = j <;> simp [e9]) (fun x hx => by by_cases e9 : x = j <;> simp [e9])
        refine lv_iinc (v := nI (2 * j + 2)) (lv' := [(2, .int (nI (2 * j + 2))), (0, .ref (gad G 83)), (1, .ref (gad G (3 * r)))]) X.x X.b dX2_readTune_40 hl (k := 0) rfl (nI_add (2 * j) 2) (by decide) rfl (fun ls hl => ?_)
        refine lv_goto (tgt := 6) X.x X.b dX2_readTune_43 (by decide) ?_
        exact ih (n - (j + 1)) (by omega) (j + 1) rfl (by omega) _ hv4 (hf.tr hf3) ls H locs (lv_sub hl [0, 1, 2] rfl) hh
  have hl : lv_has ls 3 [(0, .ref (gad G 83)), (1, .ref (gad G (3 * r)))] := hl
  refine lv_aload_n X.x X.b dX2_readTune_0 rfl (lv_at hl 1 rfl) ?_
  refine f_callv X hh (c_clear l G hr) mf_yX3_clear ki_yX3_clear kl_yX3_clear km_X2_23 (sh_row G (r := r) (by omega) _) (by omega) rfl rfl hl.1 [] rfl (Nat.le_of_ble_eq_true rfl) ⟨by decide, by decide⟩ ⟨Nat.zero_le _, Nat.zero_le _⟩ dX2_readTune_1 (fun τ H locs hq hh => ?_)
  subst hq
  refine lv_iconst (v := nI 0) X.x X.b dX2_readTune_4 (by decide) ?_
  refine lv_istore_n (lv' := [(2, .int (nI 0)), (0, .ref (gad G 83)), (1, .ref (gad G (3 * r)))]) X.x X.b dX2_readTune_5 rfl hl (by decide) rfl (fun ls hl => ?_)
  have hv0 : RW (mset σ (3 * r) 3 (nI 0)) r 0 (fun j => g (2 * j) - 48) (fun j => g (2 * j + 1) - 48) := (rw_clear (σ := σ) (r := r)).1.ext (fun x hx => absurd hx (Nat.not_lt_zero _)) (fun x hx => absurd hx (Nat.not_lt_zero _))
  exact lp n 0 rfl (by omega) _ hv0 (rw_clear (σ := σ) (r := r)).2 ls H locs (lv_sub hl [0, 1, 2] rfl) hh
set_option maxHeartbeats 4000000 in
set_option maxRecDepth 100000 in
theorem c_stepAt (l : Launch) (G : GG) {σ : Mem} {n i : Nat} {g : Nat → Nat} (hw : PD σ n g) (hi : i < n) : Ci l G yX2_stepAt cX2_stepAt 2 (some .int) 1 22 [.ref (gad G 83), .int (nI i)] σ (fun r τ => r = stp (g i) ∧ τ = σ) := by
  refine Ci.of (own := RX2) (by decide) rfl (Nat.le_of_ble_eq_true rfl) (fun p e s m args below meth c ls H locs X hl hh => ?_)
  have hn := hw.2.1
  have hg := hw.2.2.2 i hi
  have hl : lv_has ls 2 [(0, .ref (gad G 83)), (1, .int (nI i))] := hl
  refine lv_iload_n X.x X.b dX2_stepAt_0 rfl (lv_at hl 1 rfl) ?_
  refine lv_iconst (v := nI 0) X.x X.b dX2_stepAt_1 (by decide) ?_
  refine lv_aload_n X.x X.b dX2_stepAt_2 rfl (lv_at hl 0 rfl) ?_
  refine f_geti X hh (x := nI n) (sh_83 G _) (by decide) rfl in_X2 1 (by decide) kf_X2_15 rfl hw.1 dX2_stepAt_3 ?_
  refine lv_iconst (v := nI 1) X.x X.b dX2_stepAt_6 (by decide) ?_
  refine f_isub X (z := nI (n - 1)) (pk_sub (a := n) (b := 1) (by omega)) dX2_stepAt_7 ?_
  refine f_ncalli X hh (c_within l G i 0 (n - 1) (by omega) (by omega) (by omega)) mf_yX4_isWithin ks_yX4_isWithin X.2.2.2.2.2.2.2.1 rfl hl.1 [] rfl (Nat.le_of_ble_eq_true rfl) ⟨by decide, by decide⟩ ⟨Nat.zero_le _, Nat.zero_le _⟩ dX2_stepAt_8 (fun r τ H locs hq hh => ?_)
  obtain ⟨hr9, hτ⟩ := hq
  rw [if_pos (by omega)] at hr9
  subst hr9
  rw [hτ] at hh
  clear hτ
  refine lv_if_ne (tgt := 16) X.x X.b dX2_stepAt_11 (by decide) (fun _ => ?_) (fun h9 => absurd h9 (by decide))
  refine lv_aload_n X.x X.b dX2_stepAt_16 rfl (lv_at hl 0 rfl) ?_
  refine f_get X hh (v := .ref (gad G 84)) (sh_83 G _) (by decide) rfl in_X2 0 (by decide) kf_X2_9 rfl dX2_stepAt_17 ?_
  refine lv_iload_n X.x X.b dX2_stepAt_20 rfl (lv_at hl 1 rfl) ?_
  refine f_ialdx X hh (j := i) (y := nI (g i)) (sh_84 G _) (by decide) rfl (by omega) (by decide) (hw.2.2.1 _ (by omega)) dX2_stepAt_21 ?_
  by_cases e_104 : g i = 104
  · rw [e_104]
    refine lv_lookup (tgt := 58) (off := 36) X.x X.b dX2_stepAt_22 (by decide) (by decide +kernel) (by decide) ?_
    refine lv_iconst (v := nI 1) X.x X.b dX2_stepAt_58 (by decide) ?_
    exact f_iret X hh ⟨by first | rfl | (unfold stp; rw [if_neg (by omega), if_neg (by omega), if_neg (by omega)]), rfl⟩ dX2_stepAt_59
  by_cases e_111 : g i = 111
  · rw [e_111]
    refine lv_lookup (tgt := 56) (off := 34) X.x X.b dX2_stepAt_22 (by decide) (by decide +kernel) (by decide) ?_
    refine lv_iconst (v := nI 0) X.x X.b dX2_stepAt_56 (by decide) ?_
    exact f_iret X hh ⟨by first | rfl | (unfold stp; rw [if_neg (by omega), if_neg (by omega), if_neg (by omega)]), rfl⟩ dX2_stepAt_57
  by_cases e_115 : g i = 115
  · rw [e_115]
    refine lv_lookup (tgt := 60) (off := 38) X.x X.b dX2_stepAt_22 (by decide) (by decide +kernel) (by decide) ?_
    refine lv_iconst (v := nI 2) X.x X.b dX2_stepAt_60 (by decide) ?_
    exact f_iret X hh ⟨by first | rfl | (unfold stp; rw [if_neg (by omega), if_neg (by omega), if_neg (by omega)]), rfl⟩ dX2_stepAt_61
  refine lv_lookup (tgt := 62) (off := 40) X.x X.b dX2_stepAt_22 (by decide) (by rw [nI_toInt (by omega)]; exact (if_neg (by omega)).trans ((if_neg (by omega)).trans (if_neg (by omega)))) (by decide) ?_
  refine lv_iconst (v := (-1)) X.x X.b dX2_stepAt_62 (by decide) ?_
  exact f_iret X hh ⟨by first | rfl | (unfold stp; rw [if_neg (by omega), if_neg (by omega), if_neg (by omega)]), rfl⟩ dX2_stepAt_63
theorem stp_m1 {x : Nat} : stp x = -1 ↔ isS x = false := by
  unfold stp isS
  by_cases h1 : x = 111
  · simp [h1]; decide
  · by_cases h2 : x = 104
    · simp [h2]; decide
    · by_cases h3 : x = 115
      · simp [h3]; decide
      · simp [h1, h2, h3]
set_option maxHeartbeats 4000000 in
set_option maxRecDepth 100000 in
theorem c_hasStepsOnly (l : Launch) (G : GG) {σ : Mem} {n : Nat} {g : Nat → Nat} (hw : PD σ n g) : Ci l G yX2_hasStepsOnly cX2_hasStepsOnly 2 (some .boolean) 2 43 [.ref (gad G 83)] σ (fun r τ => r = (if ∀ i, i < n → isS (g i) = true then 1 else 0) ∧ τ = σ) := by
  refine Ci.of (own := RX2) (by decide) rfl (Nat.le_of_ble_eq_true rfl) (fun p e s m args below meth c ls H locs X hl hh => ?_)
  have hn := hw.2.1
  have lp : ∀ (k i : Nat), (∀ j, j < i → isS (g j) = true) → n - i = k → i ≤ n → ∀ (ls : Array Slot) (H : Heap) (locs : List Loc), lv_has ls 2 [(1, .int (nI i)), (0, .ref (gad G 83))] → HH G s σ H locs → WI l G p e s m args below meth c 2 43 (fun r τ => r = (if ∀ i, i < n → isS (g i) = true then 1 else 0) ∧ τ = σ) H locs (F0 m 2 ls []) := by
    intro km
    induction km using Nat.strongRecOn with
    | ind km ih =>
      intro i ho hk hi ls H locs hl hh
      refine lv_iload_n X.x X.b dX2_hasStepsOnly_2 rfl (lv_at hl 0 rfl) ?_
      refine lv_aload_n X.x X.b dX2_hasStepsOnly_3 rfl (lv_at hl 1 rfl) ?_
      refine f_geti X hh (x := nI n) (sh_83 G _) (by decide) rfl in_X2 1 (by decide) kf_X2_15 rfl hw.1 dX2_hasStepsOnly_4 ?_
      refine lv_icmp_ge (tgt := 27) X.x X.b dX2_hasStepsOnly_7 (by decide) (fun c_1 => ?_) (fun c_1 => ?_)
      · have c_1 : n ≤ i := (nI_leI (a := n) (b := i) (by omega) (by omega)).mp c_1
        refine lv_iconst (v := nI 1) X.x X.b dX2_hasStepsOnly_27 (by decide) ?_
        exact f_zret X hh rfl ⟨by rw [if_pos (fun j hj => ho j (by omega))]; rfl, rfl⟩ dX2_hasStepsOnly_28
      · have c_1 : ¬ n ≤ i := fun q9 => c_1 ((nI_leI (a := n) (b := i) (by omega) (by omega)).mpr q9)
        refine lv_aload_n X.x X.b dX2_hasStepsOnly_10 rfl (lv_at hl 1 rfl) ?_
        refine lv_iload_n X.x X.b dX2_hasStepsOnly_11 rfl (lv_at hl 0 rfl) ?_
        refine f_calli X hh (c_stepAt l G (i := i) hw (by omega)) mf_yX2_stepAt ki_yX2_stepAt kl_yX2_stepAt km_X2_35 (sh_83 G _) (by decide) rfl rfl hl.1 [] rfl (Nat.le_of_ble_eq_true rfl) ⟨by decide, by decide⟩ ⟨Nat.zero_le _, Nat.zero_le _⟩ dX2_hasStepsOnly_12 (fun r τ H locs hq hh => ?_)
        obtain ⟨rfl, hτ⟩ := hq
        rw [hτ] at hh
        clear hτ
        refine lv_iconst (v := (-1)) X.x X.b dX2_hasStepsOnly_15 (by decide) ?_
        refine lv_icmp_ne (tgt := 21) X.x X.b dX2_hasStepsOnly_16 (by decide) (fun c_2 => ?_) (fun c_2 => ?_)
        · refine lv_iinc (v := nI (i + 1)) (lv' := [(1, .int (nI (i + 1))), (0, .ref (gad G 83))]) X.x X.b dX2_hasStepsOnly_21 hl (k := 0) rfl (nI_1 i) (by decide) rfl (fun ls hl => ?_)
          refine lv_goto (tgt := 2) X.x X.b dX2_hasStepsOnly_24 (by decide) ?_
          refine ih (n - (i + 1)) (by omega) (i + 1) (fun j hj => ?_) rfl (by omega) ls H locs (lv_sub hl [0, 1] rfl) hh
          by_cases e9 : j = i
          · subst e9; exact Classical.byContradiction (fun e8 => absurd (stp_m1.mpr (by simpa using e8)) ‹_›)
          · exact ho j (by omega)
        · refine lv_iconst (v := nI 0) X.x X.b dX2_hasStepsOnly_19 (by decide) ?_
          exact f_zret X hh rfl ⟨by rw [if_neg (fun q9 => by have := q9 i (by omega); rw [stp_m1.mp ‹_›] at this; cases this)]; rfl, rfl⟩ dX2_hasStepsOnly_20
  have hl : lv_has ls 2 [(0, .ref (gad G 83))] := hl
  refine lv_iconst (v := nI 0) X.x X.b dX2_hasStepsOnly_0 (by decide) ?_
  refine lv_istore_n (lv' := [(1, .int (nI 0)), (0, .ref (gad G 83))]) X.x X.b dX2_hasStepsOnly_1 rfl hl (by decide) rfl (fun ls hl => ?_)
  exact lp n 0 (fun j hj => absurd hj (Nat.not_lt_zero _)) rfl (by omega) ls H locs (lv_sub hl [0, 1] rfl) hh
end
section
/-! layings: an instance is a line (n, stresses, longs), a tune (m, beats, lengths), rules -/
abbrev LI : Type := (Nat × (Nat → Nat) × (Nat → Nat)) × (Nat × (Nat → Nat) × (Nat → Nat)) × (Nat → Nat)
def iN (I : LI) : Nat := I.1.1
def iW (I : LI) : Nat → Nat := I.1.2.1
def iZ (I : LI) : Nat → Nat := I.1.2.2
def iM (I : LI) : Nat := I.2.1.1
def iV (I : LI) : Nat → Nat := I.2.1.2.1
def iQ (I : LI) : Nat → Nat := I.2.1.2.2
def iU (I : LI) : Nat → Nat := I.2.2
/-- in the bounds of the document -/
def LB (I : LI) : Prop := iN I ≤ 9 ∧ iM I ≤ 11 ∧ (∀ i, i < iN I → iW I i ≤ 2) ∧ (∀ j, j < iM I → iV I j ≤ 2) ∧ (∀ k, k < 4 → iU I k ≤ 9) ∧ (∀ i, i < iN I → iZ I i ≤ 1) ∧ (∀ j, j < iM I → iQ I j ≤ 4)
def fitN (I : LI) (i j : Nat) : Nat := iU I 0 * (if iW I i ≤ iV I j then iV I j - iW I i else iW I i - iV I j)
def cst (I : LI) (st i j : Nat) : Nat := if st = 0 then fitN I i j + (if iZ I i = 1 ∧ iQ I j = 1 then iU I 3 else 0) else if st = 1 then iU I 1 else fitN I i (j - 1) + iU I 2
def can (I : LI) (st i j : Nat) : Bool := if st = 0 then decide (i < iN I) && decide (j < iM I) else if st = 1 then decide (0 < i) && decide (j < iM I) else decide (i < iN I) && decide (0 < j)
def di (st : Nat) : Nat := if st = 1 then 0 else 1
def dj (st : Nat) : Nat := if st = 2 then 0 else 1
theorem can0 {I : LI} {i j : Nat} : can I 0 i j = true ↔ i < iN I ∧ j < iM I := by simp [can]
theorem can1 {I : LI} {i j : Nat} : can I 1 i j = true ↔ 0 < i ∧ j < iM I := by simp [can]
theorem can2 {I : LI} {i j : Nat} : can I 2 i j = true ↔ i < iN I ∧ 0 < j := by simp [can]
theorem sOn_di {st : Nat} (h : st < 3) : sOn st = .int (nI (di st)) := by
  rcases (show st = 0 ∨ st = 1 ∨ st = 2 by omega) with rfl | rfl | rfl <;> rfl
theorem nOn_dj {st : Nat} (h : st < 3) : nOn st = .int (nI (dj st)) := by
  rcases (show st = 0 ∨ st = 1 ∨ st = 2 by omega) with rfl | rfl | rfl <;> rfl
theorem di_le (st : Nat) : di st ≤ 1 := by unfold di; split <;> omega
theorem dj_le (st : Nat) : dj st ≤ 1 := by unfold dj; split <;> omega
theorem dij {st : Nat} : 1 ≤ di st + dj st := by unfold di dj; split <;> split <;> omega
theorem can_next {I : LI} {st i j : Nat} (hs : st < 3) (h : can I st i j = true) (hi : i ≤ iN I) (hj : j ≤ iM I) : i + di st ≤ iN I ∧ j + dj st ≤ iM I := by
  rcases (show st = 0 ∨ st = 1 ∨ st = 2 by omega) with rfl | rfl | rfl
  · have := can0.mp h; exact ⟨this.1, this.2⟩
  · have := can1.mp h; exact ⟨hi, this.2⟩
  · have := can2.mp h; exact ⟨this.1, hj⟩
theorem fit_le {I : LI} (hB : LB I) {i j : Nat} (hi : i < iN I) (hj : j < iM I) : fitN I i j ≤ 18 := by
  obtain ⟨-, -, h3, h4, h5, -, -⟩ := hB
  have a := h3 i hi
  have b := h4 j hj
  have c := h5 0 (by decide)
  unfold fitN
  have hd : (if iW I i ≤ iV I j then iV I j - iW I i else iW I i - iV I j) ≤ 2 := by split <;> omega
  calc iU I 0 * (if iW I i ≤ iV I j then iV I j - iW I i else iW I i - iV I j) ≤ 9 * 2 := Nat.mul_le_mul c hd
    _ = 18 := rfl
theorem cst_le {I : LI} (hB : LB I) {st i j : Nat} (hs : st < 3) (h : can I st i j = true) (hi : i ≤ iN I) (hj : j ≤ iM I) : cst I st i j ≤ 27 := by
  have hU := hB.2.2.2.2.1
  have u1 := hU 1 (by decide)
  have u2 := hU 2 (by decide)
  have u3 := hU 3 (by decide)
  rcases (show st = 0 ∨ st = 1 ∨ st = 2 by omega) with rfl | rfl | rfl
  · have hc := can0.mp h
    have := fit_le hB hc.1 hc.2
    show fitN I i j + (if iZ I i = 1 ∧ iQ I j = 1 then iU I 3 else 0) ≤ 27
    split <;> omega
  · simp [cst]; omega
  · have hc := can2.mp h
    have := fit_le hB hc.1 (show j - 1 < iM I by omega)
    simp [cst]; omega
/-- of what is still to come: least cost, greatest cost, ways, ways of the least cost -/
abbrev X4 : Type := Nat × Nat × Nat × Nat
def tk (a : X4) (own : Nat) (t : X4) : X4 := if t.2.2.1 = 0 then a else
  ((if a.2.2.1 = 0 ∨ own + t.1 < a.1 then own + t.1 else a.1),
   (if a.2.2.1 = 0 ∨ a.2.1 < own + t.2.1 then own + t.2.1 else a.2.1),
   a.2.2.1 + t.2.2.1,
   (if a.2.2.1 = 0 ∨ own + t.1 < a.1 then 0 else a.2.2.2) + (if own + t.1 = (if a.2.2.1 = 0 ∨ own + t.1 < a.1 then own + t.1 else a.1) then t.2.2.2 else 0))
def te (I : LI) (i j : Nat) : X4 := (0, 0, (if i = iN I ∧ j = iM I then 1 else 0), (if i = iN I ∧ j = iM I then 1 else 0))
def ts (I : LI) (T : Nat → Nat → X4) (i j st : Nat) (a : X4) : X4 := if can I st i j = true then tk a (cst I st i j) (T (i + di st) (j + dj st)) else a
def tsa (I : LI) (T : Nat → Nat → X4) (i j : Nat) : Nat → X4
  | 0 => te I i j
  | st + 1 => ts I T i j st (tsa I T i j st)
def Tf (I : LI) : Nat → Nat → Nat → X4
  | 0, i, j => te I i j
  | f + 1, i, j => tsa I (Tf I f) i j 3
def TT (I : LI) (i j : Nat) : X4 := Tf I 20 i j
theorem tsa_congr {I : LI} {T T2 : Nat → Nat → X4} {i j : Nat} : ∀ {k : Nat}, (∀ st, st < k → can I st i j = true → T (i + di st) (j + dj st) = T2 (i + di st) (j + dj st)) → tsa I T i j k = tsa I T2 i j k
  | 0, _ => rfl
  | k + 1, h => by
    have h1 : tsa I T i j k = tsa I T2 i j k := tsa_congr (fun st hs => h st (by omega))
    show ts I T i j k (tsa I T i j k) = ts I T2 i j k (tsa I T2 i j k)
    rw [h1]
    unfold ts
    by_cases hc : can I k i j = true
    · rw [if_pos hc, if_pos hc, h k (by omega) hc]
    · rw [if_neg hc, if_neg hc]
theorem Tf_st {I : LI} : ∀ (f i j : Nat), i ≤ iN I → j ≤ iM I → iN I - i + (iM I - j) ≤ f → Tf I (f + 1) i j = Tf I f i j
  | 0, i, j, hi, hj, h => by
    have e1 : i = iN I := by omega
    have e2 : j = iM I := by omega
    show tsa I (Tf I 0) i j 3 = te I i j
    have h0 : can I 0 i j = false := by simp [can, e1]
    have h1 : can I 1 i j = false := by simp [can, e2]
    have h2 : can I 2 i j = false := by simp [can, e1]
    simp [tsa, ts, h0, h1, h2]
  | f + 1, i, j, hi, hj, h => by
    show tsa I (Tf I (f + 1)) i j 3 = tsa I (Tf I f) i j 3
    refine tsa_congr (fun st hs hc => ?_)
    have hn := can_next hs hc hi hj
    have hd := dij (st := st)
    exact Tf_st f _ _ hn.1 hn.2 (by omega)
theorem TT_rec {I : LI} (hB : LB I) {i j : Nat} (hi : i ≤ iN I) (hj : j ≤ iM I) : TT I i j = tsa I (TT I) i j 3 := by
  have h := Tf_st (I := I) 20 i j hi hj (by have := hB.1; have := hB.2.1; omega)
  exact h.symm
theorem tk_wy (a : X4) (own : Nat) (t : X4) : (tk a own t).2.2.1 = a.2.2.1 + t.2.2.1 := by
  unfold tk
  by_cases h : t.2.2.1 = 0
  · rw [if_pos h, h]; rfl
  · rw [if_neg h]
theorem tsa_wy_mono {I : LI} {T : Nat → Nat → X4} {i j : Nat} (st : Nat) : (tsa I T i j st).2.2.1 ≤ (tsa I T i j (st + 1)).2.2.1 := by
  show _ ≤ (ts I T i j st (tsa I T i j st)).2.2.1
  unfold ts
  split
  · rw [tk_wy]; omega
  · omega
theorem tsa_wy_ge {I : LI} {T : Nat → Nat → X4} {i j : Nat} {st : Nat} (hc : can I st i j = true) (hp : (T (i + di st) (j + dj st)).2.2.1 ≠ 0) : (tsa I T i j (st + 1)).2.2.1 ≠ 0 := by
  show (ts I T i j st (tsa I T i j st)).2.2.1 ≠ 0
  unfold ts
  rw [if_pos hc, tk_wy]
  omega
theorem tsa_wy3 {I : LI} {T : Nat → Nat → X4} {i j : Nat} {st : Nat} (hs : st ≤ 3) (h : (tsa I T i j st).2.2.1 ≠ 0) : (tsa I T i j 3).2.2.1 ≠ 0 := by
  have a : (tsa I T i j 0).2.2.1 ≤ (tsa I T i j 1).2.2.1 := tsa_wy_mono 0
  have b : (tsa I T i j 1).2.2.1 ≤ (tsa I T i j 2).2.2.1 := tsa_wy_mono 1
  have d : (tsa I T i j 2).2.2.1 ≤ (tsa I T i j 3).2.2.1 := tsa_wy_mono 2
  rcases (show st = 0 ∨ st = 1 ∨ st = 2 ∨ st = 3 by omega) with rfl | rfl | rfl | rfl <;> omega
/-- in the midst there is always a way on -/
theorem TT_pos {I : LI} (hB : LB I) : ∀ (f i j : Nat), 1 ≤ i → i ≤ iN I → 1 ≤ j → j ≤ iM I → iN I - i + (iM I - j) ≤ f → (TT I i j).2.2.1 ≠ 0
  | 0, i, j, h1, hi, h2, hj, h => by
    rw [TT_rec hB hi hj]
    refine tsa_wy3 (st := 0) (by omega) ?_
    show (te I i j).2.2.1 ≠ 0
    unfold te
    simp [show i = iN I by omega, show j = iM I by omega]
  | f + 1, i, j, h1, hi, h2, hj, h => by
    rw [TT_rec hB hi hj]
    by_cases a : i < iN I
    · refine tsa_wy3 (st := 3) (by omega) (tsa_wy_ge (st := 2) (can2.mpr ⟨a, h2⟩) ?_)
      exact TT_pos hB f (i + 1) (j + 0) (by omega) (by omega) (by omega) (by omega) (by omega)
    · by_cases b : j < iM I
      · refine tsa_wy3 (st := 2) (by omega) (tsa_wy_ge (st := 1) (can1.mpr ⟨h1, b⟩) ?_)
        exact TT_pos hB f (i + 0) (j + 1) (by omega) (by omega) (by omega) (by omega) (by omega)
      · refine tsa_wy3 (st := 0) (by omega) ?_
        show (te I i j).2.2.1 ≠ 0
        unfold te
        simp [show i = iN I by omega, show j = iM I by omega]
theorem TT_p {I : LI} (hB : LB I) {i j : Nat} (h1 : 1 ≤ i) (hi : i ≤ iN I) (h2 : 1 ≤ j) (hj : j ≤ iM I) : (TT I i j).2.2.1 ≠ 0 := TT_pos hB _ i j h1 hi h2 hj (Nat.le_refl _)
/-- bounds of the costs -/
theorem tk_le {a t : X4} {own B : Nat} (ha : a.1 ≤ B ∧ a.2.1 ≤ B) (ht : own + t.1 ≤ B ∧ own + t.2.1 ≤ B) : (tk a own t).1 ≤ B ∧ (tk a own t).2.1 ≤ B := by
  unfold tk
  split
  · exact ha
  · constructor
    · show (if _ then _ else _) ≤ B
      split
      · exact ht.1
      · exact ha.1
    · show (if _ then _ else _) ≤ B
      split
      · exact ht.2
      · exact ha.2
theorem tsa_le {I : LI} {T : Nat → Nat → X4} {i j B : Nat} : ∀ {k : Nat}, (∀ st, st < k → can I st i j = true → cst I st i j + (T (i + di st) (j + dj st)).1 ≤ B ∧ cst I st i j + (T (i + di st) (j + dj st)).2.1 ≤ B) → (tsa I T i j k).1 ≤ B ∧ (tsa I T i j k).2.1 ≤ B
  | 0, _ => ⟨Nat.zero_le _, Nat.zero_le _⟩
  | k + 1, h => by
    have h1 := tsa_le (k := k) (fun st hs => h st (by omega))
    show (ts I T i j k (tsa I T i j k)).1 ≤ B ∧ (ts I T i j k (tsa I T i j k)).2.1 ≤ B
    unfold ts
    split
    · rename_i hc; exact tk_le h1 (h k (by omega) hc)
    · exact h1
theorem TT_le {I : LI} (hB : LB I) : ∀ (f i j : Nat), i ≤ iN I → j ≤ iM I → iN I - i + (iM I - j) ≤ f → (TT I i j).1 ≤ 27 * f ∧ (TT I i j).2.1 ≤ 27 * f
  | 0, i, j, hi, hj, h => by
    rw [TT_rec hB hi hj]
    refine tsa_le (fun st hs hc => ?_)
    have hn := can_next hs hc hi hj
    have hd := dij (st := st)
    omega
  | f + 1, i, j, hi, hj, h => by
    rw [TT_rec hB hi hj]
    refine tsa_le (fun st hs hc => ?_)
    have hn := can_next hs hc hi hj
    have hd := dij (st := st)
    have h1 := TT_le hB f _ _ hn.1 hn.2 (by omega)
    have h2 := cst_le hB hs hc hi hj
    omega
theorem TT_b {I : LI} (hB : LB I) {i j : Nat} (hi : i ≤ iN I) (hj : j ≤ iM I) : (TT I i j).1 ≤ 540 ∧ (TT I i j).2.1 ≤ 540 := TT_le hB 20 i j hi hj (by have := hB.1; have := hB.2.1; omega)
/-- bounds of the ways -/
theorem TT_wy {I : LI} (hB : LB I) : ∀ (f i j : Nat), i ≤ iN I → j ≤ iM I → iN I - i + (iM I - j) ≤ f → (TT I i j).2.2.1 ≤ 3 ^ f
  | 0, i, j, hi, hj, h => by
    have e1 : i = iN I := by omega
    have e2 : j = iM I := by omega
    rw [TT_rec hB hi hj]
    have h0 : can I 0 i j = false := by simp [can, e1]
    have h1 : can I 1 i j = false := by simp [can, e2]
    have h2 : can I 2 i j = false := by simp [can, e1]
    simp [tsa, ts, h0, h1, h2, te]
    split <;> omega
  | f + 1, i, j, hi, hj, h => by
    rw [TT_rec hB hi hj]
    have key : ∀ st, st < 3 → can I st i j = true → (TT I (i + di st) (j + dj st)).2.2.1 ≤ 3 ^ f := fun st hs hc => by
      have hn := can_next hs hc hi hj
      have hd := dij (st := st)
      exact TT_wy hB f _ _ hn.1 hn.2 (by omega)
    have add : ∀ st, st < 3 → (tsa I (TT I) i j (st + 1)).2.2.1 ≤ (tsa I (TT I) i j st).2.2.1 + 3 ^ f := fun st hs => by
      show (ts I (TT I) i j st (tsa I (TT I) i j st)).2.2.1 ≤ _
      unfold ts
      split
      · rename_i hc; rw [tk_wy]; exact Nat.add_le_add_left (key st hs hc) _
      · exact Nat.le_add_right _ _
    have a0 : (tsa I (TT I) i j 1).2.2.1 ≤ (tsa I (TT I) i j 0).2.2.1 + 3 ^ f := add 0 (by decide)
    have a1 : (tsa I (TT I) i j 2).2.2.1 ≤ (tsa I (TT I) i j 1).2.2.1 + 3 ^ f := add 1 (by decide)
    have a2 : (tsa I (TT I) i j 3).2.2.1 ≤ (tsa I (TT I) i j 2).2.2.1 + 3 ^ f := add 2 (by decide)
    have hp : 1 ≤ 3 ^ f := Nat.one_le_pow _ _ (by decide)
    have e3 : 3 ^ (f + 1) = 3 * 3 ^ f := by rw [Nat.pow_succ]; omega
    have ez : (tsa I (TT I) i j 0).2.2.1 = (if i = iN I ∧ j = iM I then 1 else 0) := rfl
    by_cases he : i = iN I ∧ j = iM I
    · have h0 : can I 0 i j = false := by simp [can, he.1]
      have h1 : can I 1 i j = false := by simp [can, he.2]
      have h2 : can I 2 i j = false := by simp [can, he.1]
      have e : (tsa I (TT I) i j 3).2.2.1 = 1 := by
        rw [show tsa I (TT I) i j 3 = te I i j by simp [tsa, ts, h0, h1, h2]]
        show (if i = iN I ∧ j = iM I then 1 else 0) = 1
        exact if_pos he
      omega
    · rw [if_neg he] at ez
      omega
end
section
/-! the loom: small methods -/
def LM (σ : Mem) (I : LI) : Prop := RW σ 21 (iN I) (iW I) (iZ I) ∧ RW σ 22 (iM I) (iV I) (iQ I) ∧ ∀ k, k < 4 → σ 86 k = nI (iU I k)
def Frl (σ τ : Mem) : Prop := ∀ k, k / 3 ≠ 21 → k / 3 ≠ 22 → k ≠ 86 → τ k = σ k
theorem Frr.l21 {σ τ : Mem} (h : Frr 21 σ τ) : Frl σ τ := fun k a _ _ => h k a
theorem Frr.l22 {σ τ : Mem} (h : Frr 22 σ τ) : Frl σ τ := fun k _ a _ => h k a
theorem Frl.tr {σ τ υ : Mem} (h : Frl σ τ) (g : Frl τ υ) : Frl σ υ := fun k a b c => (g k a b c).trans (h k a b c)
theorem LM.keep {σ τ : Mem} {I : LI} (h : LM σ I) (hk : ∀ k, k / 3 = 21 ∨ k / 3 = 22 ∨ k = 86 → τ k = σ k) : LM τ I := by
  obtain ⟨⟨a1, a2, a3, a4⟩, ⟨b1, b2, b3, b4⟩, c⟩ := h
  refine ⟨⟨?_, a2, fun i hi => ?_, fun i hi => ?_⟩, ⟨?_, b2, fun i hi => ?_, fun i hi => ?_⟩, fun k h => ?_⟩
  · rw [hk _ (by omega)]; exact a1
  · rw [hk _ (by omega)]; exact a3 i hi
  · rw [hk _ (by omega)]; exact a4 i hi
  · rw [hk _ (by omega)]; exact b1
  · rw [hk _ (by omega)]; exact b3 i hi
  · rw [hk _ (by omega)]; exact b4 i hi
  · rw [hk _ (by omega)]; exact c k h
theorem abs_nI {a b : Nat} (ha : a < 2 ^ 30) (hb : b < 2 ^ 30) : (if 0 ≤ nI a - nI b then nI a - nI b else 0 - (nI a - nI b)) = nI (if a ≤ b then b - a else a - b) := by
  by_cases h : b ≤ a
  · rw [pk_sub h, if_pos (nI_pos' (by omega))]
    by_cases h2 : a ≤ b
    · rw [if_pos h2]; congr 1; omega
    · rw [if_neg h2]
  · rw [if_neg (Int32.not_le.mpr (pk_sneg hb (by omega))), if_pos (by omega), ← pk_sub (show a ≤ b by omega)]
    simp

set_option maxHeartbeats 4000000 in
set_option maxRecDepth 100000 in
theorem c_take (l : Launch) (G : GG) {σ : Mem} {i j : Nat} {N : Nat → Nat} {W Z : Nat → Nat → Nat} {U : Nat → Nat} (hi : i < 3) (hj : j < 4) (hw : BK σ 0 N W Z U) : Cv l G yX1_take cX1_take 4 3 68 [.ref (gad G 85), .ref (gad G 69), .int (nI i), .int (nI j)] σ (fun τ => LM τ ((N i, W i, Z i), (N (3 + j), W (3 + j), Z (3 + j)), U) ∧ Frl σ τ) := by
  refine Cv.of (own := RX1) (by decide) rfl (Nat.le_of_ble_eq_true rfl) (fun p e s m args below meth c ls H locs X hl hh => ?_)
  have hl : lv_has ls 4 [(0, .ref (gad G 85)), (1, .ref (gad G 69)), (2, .int (nI i)), (3, .int (nI j))] := hl
  refine lv_aload_n X.x X.b dX1_take_0 rfl (lv_at hl 0 rfl) ?_
  refine f_get X hh (v := .ref (gad G 63)) (sh_85 G _) (by decide) rfl in_X1 0 (by decide) kf_X1_14 rfl dX1_take_1 ?_
  refine lv_aload_n X.x X.b dX1_take_4 rfl (lv_at hl 1 rfl) ?_
  refine f_get X hh (v := .ref (gad G 70)) (sh_69 G _) (by decide) rfl in_X0 0 (by decide) kf_X1_54 rfl dX1_take_5 ?_
  refine lv_iload_n X.x X.b dX1_take_8 rfl (lv_at hl 2 rfl) ?_
  refine f_aald X hh (j := i) 2 (sh_70 G _) rfl rfl (by decide) rfl (by omega) (by decide) dX1_take_9 ?_
  have hs9 := hw.row (q := i) (by omega)
  refine f_callv X hh (c_copyFrom l G (r := 21) (q := 7 * 0 + i) (by omega) (by omega) (by omega) hs9 (by have := hs9.2.1; rw [room_bk (by decide) (by omega), if_pos hi] at this; exact this)) mf_yX3_copyFrom ki_yX3_copyFrom kl_yX3_copyFrom km_X1_60 (sh_63 G _) (by decide) rfl rfl hl.1 [] rfl (Nat.le_of_ble_eq_true rfl) ⟨by decide, by decide⟩ ⟨Nat.zero_le _, Nat.zero_le _⟩ dX1_take_10 (fun τ H locs hq hh => ?_)
  obtain ⟨hv1, hf1⟩ := hq
  refine lv_aload_n X.x X.b dX1_take_13 rfl (lv_at hl 0 rfl) ?_
  refine f_get X hh (v := .ref (gad G 66)) (sh_85 G _) (by decide) rfl in_X1 1 (by decide) kf_X1_20 rfl dX1_take_14 ?_
  refine lv_aload_n X.x X.b dX1_take_17 rfl (lv_at hl 1 rfl) ?_
  refine f_get X hh (v := .ref (gad G 71)) (sh_69 G _) (by decide) rfl in_X0 1 (by decide) kf_X1_64 rfl dX1_take_18 ?_
  refine lv_iload_n X.x X.b dX1_take_21 rfl (lv_at hl 3 rfl) ?_
  refine f_aald X hh (j := j) 2 (sh_71 G _) rfl rfl (by decide) rfl (by omega) (by decide) dX1_take_22 ?_
  have hs9 := (hw.row (q := 3 + j) (by omega)).keep hf1 (by omega)
  refine f_callv X hh (c_copyFrom l G (r := 22) (q := 7 * 0 + (3 + j)) (by omega) (by omega) (by omega) hs9 (by have := hs9.2.1; rw [room_bk (by decide) (by omega), if_neg (by omega)] at this; exact this)) mf_yX3_copyFrom ki_yX3_copyFrom kl_yX3_copyFrom km_X1_60 (sh_66 G _) (by decide) rfl rfl hl.1 [] rfl (Nat.le_of_ble_eq_true rfl) ⟨by decide, by decide⟩ ⟨Nat.zero_le _, Nat.zero_le _⟩ dX1_take_23 (fun τ H locs hq hh => ?_)
  obtain ⟨hv2, hf2⟩ := hq
  refine lv_aload_n X.x X.b dX1_take_26 rfl (lv_at hl 1 rfl) ?_
  refine f_get X hh (v := .ref (gad G 72)) (sh_69 G _) (by decide) rfl in_X0 2 (by decide) kf_X1_67 rfl dX1_take_27 ?_
  refine lv_iconst (v := nI 0) X.x X.b dX1_take_30 (by decide) ?_
  refine lv_aload_n X.x X.b dX1_take_31 rfl (lv_at hl 0 rfl) ?_
  refine f_get X hh (v := .ref (gad G 86)) (sh_85 G _) (by decide) rfl in_X1 2 (by decide) kf_X1_23 rfl dX1_take_32 ?_
  refine lv_iconst (v := nI 0) X.x X.b dX1_take_35 (by decide) ?_
  refine lv_iconst (v := nI 4) X.x X.b dX1_take_36 (by decide) ?_
  refine f_copy X hh (a0 := 0) (a1 := 0) (n := 4) (sh_72 G _) (fun g9 => sh_86 G g9) (by decide) (by decide) rfl rfl rfl (by decide) (by decide) (by decide) (by decide) km_X1_68 hl.1 (by decide) (Nat.le_of_ble_eq_true rfl) kx_arraycopyName ks_arraycopyName kn_J10 dX1_take_37 (fun H locs hh => ?_)
  refine f_vret X hh ?_ dX1_take_40
  refine ⟨⟨?_, ?_, fun k9 hk => ?_⟩, fun k9 h1 h2 h3 => ?_⟩
  · exact (hv1.keep hf2 (by decide)).keep (q := 28) (fun k9 hk => mrow_n (by omega)) (by decide)
  · exact hv2.keep (q := 28) (fun k9 hk => mrow_n (by omega)) (by decide)
  · rw [mrow_s, pk_cpy_in (by omega) (by omega), hf2 72 (by decide), hf1 72 (by decide), show 0 + (k9 - 0) = k9 by omega]; exact hw.2 k9 hk
  · rw [mrow_n h3, hf2 k9 h2, hf1 k9 h1]
set_option maxHeartbeats 4000000 in
set_option maxRecDepth 100000 in
theorem c_turnTune (l : Launch) (G : GG) {σ : Mem} {q n a : Nat} {w z : Nat → Nat} (hq0 : q < 21) (ha : a < n) (hw : RW σ q n w z) (hn : n ≤ 11) : Cv l G yX1_turnTune cX1_turnTune 3 2 47 [.ref (gad G 85), .ref (gad G (3 * q)), .int (nI a)] σ (fun τ => RW τ 22 n (fun i => w ((i + a) % n)) (fun i => z ((i + a) % n)) ∧ Frr 22 σ τ) := by
  refine Cv.of (own := RX1) (by decide) rfl (Nat.le_of_ble_eq_true rfl) (fun p e s m args below meth c ls H locs X hl hh => ?_)
  have hl : lv_has ls 3 [(0, .ref (gad G 85)), (1, .ref (gad G (3 * q))), (2, .int (nI a))] := hl
  refine lv_aload_n X.x X.b dX1_turnTune_0 rfl (lv_at hl 0 rfl) ?_
  refine f_get X hh (v := .ref (gad G 66)) (sh_85 G _) (by decide) rfl in_X1 1 (by decide) kf_X1_20 rfl dX1_turnTune_1 ?_
  refine f_callv X hh (c_clear l G (r := 22) (by decide)) mf_yX3_clear ki_yX3_clear kl_yX3_clear km_X1_74 (sh_66 G _) (by decide) rfl rfl hl.1 [] rfl (Nat.le_of_ble_eq_true rfl) ⟨by decide, by decide⟩ ⟨Nat.zero_le _, Nat.zero_le _⟩ dX1_turnTune_4 (fun τ H locs hq hh => ?_)
  subst hq
  have hf0 := (rw_clear (σ := σ) (r := 22)).2
  have hv0 := (rw_clear (σ := σ) (r := 22)).1
  have hw0 := hw.keep hf0 (by omega)
  refine lv_aload_n X.x X.b dX1_turnTune_7 rfl (lv_at hl 0 rfl) ?_
  refine f_get X hh (v := .ref (gad G 66)) (sh_85 G _) (by decide) rfl in_X1 1 (by decide) kf_X1_20 rfl dX1_turnTune_8 ?_
  refine lv_aload_n X.x X.b dX1_turnTune_11 rfl (lv_at hl 1 rfl) ?_
  refine lv_iload_n X.x X.b dX1_turnTune_12 rfl (lv_at hl 2 rfl) ?_
  refine lv_aload_n X.x X.b dX1_turnTune_13 rfl (lv_at hl 1 rfl) ?_
  refine f_geti X hh (x := nI n) (sh_row G (r := q) (by omega) _) (by omega) rfl in_X3 3 (by decide) kf_X1_77 rfl hw0.1 dX1_turnTune_14 ?_
  refine f_callv X hh (c_addPlaces l G (r := 22) (q := q) (a := a) (b := n) (by decide) (by omega) (by omega) hv0 hw0 (by omega) (Nat.le_refl _) (show 0 + (n - a) ≤ 11 by omega)) mf_yX3_addPlaces ki_yX3_addPlaces kl_yX3_addPlaces km_X1_80 (sh_66 G _) (by decide) rfl rfl hl.1 [] rfl (Nat.le_of_ble_eq_true rfl) ⟨by decide, by decide⟩ ⟨Nat.zero_le _, Nat.zero_le _⟩ dX1_turnTune_17 (fun τ H locs hq hh => ?_)
  obtain ⟨hv1, hf1⟩ := hq
  have hw1 := hw0.keep hf1 (by omega)
  refine lv_aload_n X.x X.b dX1_turnTune_20 rfl (lv_at hl 0 rfl) ?_
  refine f_get X hh (v := .ref (gad G 66)) (sh_85 G _) (by decide) rfl in_X1 1 (by decide) kf_X1_20 rfl dX1_turnTune_21 ?_
  refine lv_aload_n X.x X.b dX1_turnTune_24 rfl (lv_at hl 1 rfl) ?_
  refine lv_iconst (v := nI 0) X.x X.b dX1_turnTune_25 (by decide) ?_
  refine lv_iload_n X.x X.b dX1_turnTune_26 rfl (lv_at hl 2 rfl) ?_
  refine f_callv X hh (c_addPlaces l G (r := 22) (q := q) (a := 0) (b := a) (by decide) (by omega) (by omega) hv1 hw1 (by omega) (by omega) (show 0 + (n - a) + (a - 0) ≤ 11 by omega)) mf_yX3_addPlaces ki_yX3_addPlaces kl_yX3_addPlaces km_X1_80 (sh_66 G _) (by decide) rfl rfl hl.1 [] rfl (Nat.le_of_ble_eq_true rfl) ⟨by decide, by decide⟩ ⟨Nat.zero_le _, Nat.zero_le _⟩ dX1_turnTune_27 (fun τ H locs hq hh => ?_)
  obtain ⟨hv2, hf2⟩ := hq
  refine f_vret X hh ?_ dX1_turnTune_30
  refine ⟨?_, (hf0.tr hf1).tr hf2⟩
  rw [show 0 + (n - a) + (a - 0) = n by omega] at hv2
  refine hv2.ext (fun i hi => ?_) (fun i hi => ?_)
  · by_cases e9 : i < n - a
    · rw [if_pos (by omega), if_neg (by omega), Nat.mod_eq_of_lt (by omega)]; congr 1; omega
    · rw [if_neg (by omega), show (i + a) % n = i + a - n by rw [Nat.mod_eq_sub_mod (by omega), Nat.mod_eq_of_lt (by omega)]]; congr 1; omega
  · by_cases e9 : i < n - a
    · rw [if_pos (by omega), if_neg (by omega), Nat.mod_eq_of_lt (by omega)]; congr 1; omega
    · rw [if_neg (by omega), show (i + a) % n = i + a - n by rw [Nat.mod_eq_sub_mod (by omega), Nat.mod_eq_of_lt (by omega)]]; congr 1; omega
set_option maxHeartbeats 4000000 in
set_option maxRecDepth 100000 in
theorem c_stress (l : Launch) (G : GG) {σ : Mem} {n i x : Nat} {w z : Nat → Nat} (hw : RW σ 21 n w z) (hi : i < n) : Cv l G yX1_stressSyllable cX1_stressSyllable 3 1 22 [.ref (gad G 85), .int (nI i), .int (nI x)] σ (fun τ => RW τ 21 n (fun j => if j = i then x else w j) z ∧ Frr 21 σ τ) := by
  refine Cv.of (own := RX1) (by decide) rfl (Nat.le_of_ble_eq_true rfl) (fun p e s m args below meth c ls H locs X hl hh => ?_)
  have hn : n ≤ 9 := hw.2.1
  have hl : lv_has ls 3 [(0, .ref (gad G 85)), (1, .int (nI i)), (2, .int (nI x))] := hl
  refine lv_iload_n X.x X.b dX1_stressSyllable_0 rfl (lv_at hl 1 rfl) ?_
  refine lv_iconst (v := nI 0) X.x X.b dX1_stressSyllable_1 (by decide) ?_
  refine lv_aload_n X.x X.b dX1_stressSyllable_2 rfl (lv_at hl 0 rfl) ?_
  refine f_get X hh (v := .ref (gad G 63)) (sh_85 G _) (by decide) rfl in_X1 0 (by decide) kf_X1_14 rfl dX1_stressSyllable_3 ?_
  refine f_geti X hh (x := nI n) (sh_63 G _) (by decide) rfl in_X3 3 (by decide) kf_X1_77 rfl hw.1 dX1_stressSyllable_6 ?_
  refine lv_iconst (v := nI 1) X.x X.b dX1_stressSyllable_9 (by decide) ?_
  refine f_isub X (z := nI (n - 1)) (pk_sub (a := n) (b := 1) (by omega)) dX1_stressSyllable_10 ?_
  refine f_ncalli X hh (c_within l G i 0 (n - 1) (by omega) (by omega) (by omega)) mf_yX4_isWithin ks_yX4_isWithin X.2.2.2.2.2.2.2.2.2.1 rfl hl.1 [] rfl (Nat.le_of_ble_eq_true rfl) ⟨by decide, by decide⟩ ⟨Nat.zero_le _, Nat.zero_le _⟩ dX1_stressSyllable_11 (fun r τ H locs hq hh => ?_)
  obtain ⟨hr9, hτ⟩ := hq
  rw [if_pos (by omega)] at hr9
  subst hr9
  rw [hτ] at hh
  clear hτ
  refine lv_if_eq (tgt := 27) X.x X.b dX1_stressSyllable_14 (by decide) (fun h9 => absurd h9 (by decide)) (fun _ => ?_)
  refine lv_aload_n X.x X.b dX1_stressSyllable_17 rfl (lv_at hl 0 rfl) ?_
  refine f_get X hh (v := .ref (gad G 63)) (sh_85 G _) (by decide) rfl in_X1 0 (by decide) kf_X1_14 rfl dX1_stressSyllable_18 ?_
  refine f_get X hh (v := .ref (gad G 64)) (sh_63 G _) (by decide) rfl in_X3 1 (by decide) kf_X1_88 rfl dX1_stressSyllable_21 ?_
  refine lv_iload_n X.x X.b dX1_stressSyllable_24 rfl (lv_at hl 1 rfl) ?_
  refine lv_iload_n X.x X.b dX1_stressSyllable_25 rfl (lv_at hl 2 rfl) ?_
  refine f_iast X hh (j := i) (sh_64 G) (by decide) rfl (by omega) (by decide) dX1_stressSyllable_26 (fun H locs hh => ?_)
  refine f_vret X hh ?_ dX1_stressSyllable_27
  refine ⟨⟨?_, hw.2.1, fun j hj => ?_, fun j hj => ?_⟩, fun k9 hk => mset_n (by omega)⟩
  · rw [mset_n (by decide)]; exact hw.1
  · by_cases e9 : j = i
    · subst e9; show mset σ 64 j (nI x) 64 j = _; rw [mset_ss]; simp
    · show mset σ 64 i (nI x) 64 j = _; rw [mset_sn e9]; simp [e9]; exact hw.2.2.1 j hj
  · rw [mset_n (by decide)]; exact hw.2.2.2 j hj
set_option maxHeartbeats 4000000 in
set_option maxRecDepth 100000 in
theorem c_hasLaying (l : Launch) (G : GG) {σ : Mem} {I : LI} (hB : LB I) (hM : LM σ I) : Ci l G yX1_hasLaying cX1_hasLaying 1 (some .boolean) 0 0 [.ref (gad G 85)] σ (fun r τ => r = (if (iN I = 0 ↔ iM I = 0) then 1 else 0) ∧ τ = σ) := by
  refine Ci.of (own := RX1) (by decide) rfl (Nat.le_of_ble_eq_true rfl) (fun p e s m args below meth c ls H locs X hl hh => ?_)
  have hb1 := hB.1
  have hb2 := hB.2.1
  have hl : lv_has ls 1 [(0, .ref (gad G 85))] := hl
  refine lv_aload_n X.x X.b dX1_hasLaying_0 rfl (lv_at hl 0 rfl) ?_
  refine f_get X hh (v := .ref (gad G 63)) (sh_85 G _) (by decide) rfl in_X1 0 (by decide) kf_X1_14 rfl dX1_hasLaying_1 ?_
  refine f_geti X hh (x := nI (iN I)) (sh_63 G _) (by decide) rfl in_X3 3 (by decide) kf_X1_77 rfl hM.1.1 dX1_hasLaying_4 ?_
  refine lv_if_ne (tgt := 14) X.x X.b dX1_hasLaying_7 (by decide) (fun c_1 => ?_) (fun c_1 => ?_)
  · have c_1 : ¬ (iN I) = 0 := fun q9 => c_1 ((nI_eq (a := (iN I)) (b := 0) (by omega) (by omega)).mpr q9)
    refine lv_iconst (v := nI 0) X.x X.b dX1_hasLaying_14 (by decide) ?_
    refine lv_aload_n X.x X.b dX1_hasLaying_15 rfl (lv_at hl 0 rfl) ?_
    refine f_get X hh (v := .ref (gad G 66)) (sh_85 G _) (by decide) rfl in_X1 1 (by decide) kf_X1_20 rfl dX1_hasLaying_16 ?_
    refine f_geti X hh (x := nI (iM I)) (sh_66 G _) (by decide) rfl in_X3 3 (by decide) kf_X1_77 rfl hM.2.1.1 dX1_hasLaying_19 ?_
    refine lv_if_ne (tgt := 29) X.x X.b dX1_hasLaying_22 (by decide) (fun c_2 => ?_) (fun c_2 => ?_)
    · have c_2 : ¬ (iM I) = 0 := fun q9 => c_2 ((nI_eq (a := (iM I)) (b := 0) (by omega) (by omega)).mpr q9)
      refine lv_iconst (v := nI 0) X.x X.b dX1_hasLaying_29 (by decide) ?_
      refine lv_icmp_ne (tgt := 37) X.x X.b dX1_hasLaying_30 (by decide) (fun h9 => absurd (show _ by decide) h9) (fun _ => ?_)
      refine lv_iconst (v := nI 1) X.x X.b dX1_hasLaying_33 (by decide) ?_
      refine lv_goto (tgt := 38) X.x X.b dX1_hasLaying_34 (by decide) ?_
      exact f_zret X hh rfl ⟨by first | (rw [if_pos (by omega)]; rfl) | (rw [if_neg (by omega)]; rfl), rfl⟩ dX1_hasLaying_38
    · have c_2 : (iM I) = 0 := (nI_eq (a := (iM I)) (b := 0) (by omega) (by omega)).mp c_2
      refine lv_iconst (v := nI 1) X.x X.b dX1_hasLaying_25 (by decide) ?_
      refine lv_goto (tgt := 30) X.x X.b dX1_hasLaying_26 (by decide) ?_
      refine lv_icmp_ne (tgt := 37) X.x X.b dX1_hasLaying_30 (by decide) (fun _ => ?_) (fun h9 => absurd h9 (by decide))
      refine lv_iconst (v := nI 0) X.x X.b dX1_hasLaying_37 (by decide) ?_
      exact f_zret X hh rfl ⟨by first | (rw [if_pos (by omega)]; rfl) | (rw [if_neg (by omega)]; rfl), rfl⟩ dX1_hasLaying_38
  · have c_1 : (iN I) = 0 := (nI_eq (a := (iN I)) (b := 0) (by omega) (by omega)).mp c_1
    refine lv_iconst (v := nI 1) X.x X.b dX1_hasLaying_10 (by decide) ?_
    refine lv_goto (tgt := 15) X.x X.b dX1_hasLaying_11 (by decide) ?_
    refine lv_aload_n X.x X.b dX1_hasLaying_15 rfl (lv_at hl 0 rfl) ?_
    refine f_get X hh (v := .ref (gad G 66)) (sh_85 G _) (by decide) rfl in_X1 1 (by decide) kf_X1_20 rfl dX1_hasLaying_16 ?_
    refine f_geti X hh (x := nI (iM I)) (sh_66 G _) (by decide) rfl in_X3 3 (by decide) kf_X1_77 rfl hM.2.1.1 dX1_hasLaying_19 ?_
    refine lv_if_ne (tgt := 29) X.x X.b dX1_hasLaying_22 (by decide) (fun c_5 => ?_) (fun c_5 => ?_)
    · have c_5 : ¬ (iM I) = 0 := fun q9 => c_5 ((nI_eq (a := (iM I)) (b := 0) (by omega) (by omega)).mpr q9)
      refine lv_iconst (v := nI 0) X.x X.b dX1_hasLaying_29 (by decide) ?_
      refine lv_icmp_ne (tgt := 37) X.x X.b dX1_hasLaying_30 (by decide) (fun _ => ?_) (fun h9 => absurd h9 (by decide))
      refine lv_iconst (v := nI 0) X.x X.b dX1_hasLaying_37 (by decide) ?_
      exact f_zret X hh rfl ⟨by first | (rw [if_pos (by omega)]; rfl) | (rw [if_neg (by omega)]; rfl), rfl⟩ dX1_hasLaying_38
    · have c_5 : (iM I) = 0 := (nI_eq (a := (iM I)) (b := 0) (by omega) (by omega)).mp c_5
      refine lv_iconst (v := nI 1) X.x X.b dX1_hasLaying_25 (by decide) ?_
      refine lv_goto (tgt := 30) X.x X.b dX1_hasLaying_26 (by decide) ?_
      refine lv_icmp_ne (tgt := 37) X.x X.b dX1_hasLaying_30 (by decide) (fun h9 => absurd (show _ by decide) h9) (fun _ => ?_)
      refine lv_iconst (v := nI 1) X.x X.b dX1_hasLaying_33 (by decide) ?_
      refine lv_goto (tgt := 38) X.x X.b dX1_hasLaying_34 (by decide) ?_
      exact f_zret X hh rfl ⟨by first | (rw [if_pos (by omega)]; rfl) | (rw [if_neg (by omega)]; rfl), rfl⟩ dX1_hasLaying_38
set_option maxHeartbeats 4000000 in
set_option maxRecDepth 100000 in
theorem c_isEnd (l : Launch) (G : GG) {σ : Mem} {I : LI} {i j : Nat} (hB : LB I) (hM : LM σ I) (hi : i ≤ iN I) (hj : j ≤ iM I) : Ci l G yX1_isEnd cX1_isEnd 3 (some .boolean) 0 0 [.ref (gad G 85), .int (nI i), .int (nI j)] σ (fun r τ => r = (if i = iN I ∧ j = iM I then 1 else 0) ∧ τ = σ) := by
  refine Ci.of (own := RX1) (by decide) rfl (Nat.le_of_ble_eq_true rfl) (fun p e s m args below meth c ls H locs X hl hh => ?_)
  have hb1 := hB.1
  have hb2 := hB.2.1
  have hl : lv_has ls 3 [(0, .ref (gad G 85)), (1, .int (nI i)), (2, .int (nI j))] := hl
  refine lv_iload_n X.x X.b dX1_isEnd_0 rfl (lv_at hl 1 rfl) ?_
  refine lv_aload_n X.x X.b dX1_isEnd_1 rfl (lv_at hl 0 rfl) ?_
  refine f_get X hh (v := .ref (gad G 63)) (sh_85 G _) (by decide) rfl in_X1 0 (by decide) kf_X1_14 rfl dX1_isEnd_2 ?_
  refine f_geti X hh (x := nI (iN I)) (sh_63 G _) (by decide) rfl in_X3 3 (by decide) kf_X1_77 rfl hM.1.1 dX1_isEnd_5 ?_
  refine lv_icmp_ne (tgt := 26) X.x X.b dX1_isEnd_8 (by decide) (fun c_1 => ?_) (fun c_1 => ?_)
  · have c_1 : ¬ i = (iN I) := fun q9 => c_1 ((nI_eq (a := i) (b := (iN I)) (by omega) (by omega)).mpr q9)
    refine lv_iconst (v := nI 0) X.x X.b dX1_isEnd_26 (by decide) ?_
    exact f_zret X hh rfl ⟨by first | (rw [if_pos (by omega)]; rfl) | (rw [if_neg (by omega)]; rfl), rfl⟩ dX1_isEnd_27
  · have c_1 : i = (iN I) := (nI_eq (a := i) (b := (iN I)) (by omega) (by omega)).mp c_1
    refine lv_iload_n X.x X.b dX1_isEnd_11 rfl (lv_at hl 2 rfl) ?_
    refine lv_aload_n X.x X.b dX1_isEnd_12 rfl (lv_at hl 0 rfl) ?_
    refine f_get X hh (v := .ref (gad G 66)) (sh_85 G _) (by decide) rfl in_X1 1 (by decide) kf_X1_20 rfl dX1_isEnd_13 ?_
    refine f_geti X hh (x := nI (iM I)) (sh_66 G _) (by decide) rfl in_X3 3 (by decide) kf_X1_77 rfl hM.2.1.1 dX1_isEnd_16 ?_
    refine lv_icmp_ne (tgt := 26) X.x X.b dX1_isEnd_19 (by decide) (fun c_2 => ?_) (fun c_2 => ?_)
    · have c_2 : ¬ j = (iM I) := fun q9 => c_2 ((nI_eq (a := j) (b := (iM I)) (by omega) (by omega)).mpr q9)
      refine lv_iconst (v := nI 0) X.x X.b dX1_isEnd_26 (by decide) ?_
      exact f_zret X hh rfl ⟨by first | (rw [if_pos (by omega)]; rfl) | (rw [if_neg (by omega)]; rfl), rfl⟩ dX1_isEnd_27
    · have c_2 : j = (iM I) := (nI_eq (a := j) (b := (iM I)) (by omega) (by omega)).mp c_2
      refine lv_iconst (v := nI 1) X.x X.b dX1_isEnd_22 (by decide) ?_
      refine lv_goto (tgt := 27) X.x X.b dX1_isEnd_23 (by decide) ?_
      exact f_zret X hh rfl ⟨by first | (rw [if_pos (by omega)]; rfl) | (rw [if_neg (by omega)]; rfl), rfl⟩ dX1_isEnd_27
set_option maxHeartbeats 4000000 in
set_option maxRecDepth 100000 in
theorem c_canStep (l : Launch) (G : GG) {σ : Mem} {I : LI} {st i j : Nat} (hB : LB I) (hM : LM σ I) (hs : st < 3) (hi : i ≤ iN I) (hj : j ≤ iM I) : Ci l G yX1_canStep cX1_canStep 4 (some .boolean) 0 0 [.ref (gad G 85), .int (nI st), .int (nI i), .int (nI j)] σ (fun r τ => r = (if can I st i j = true then 1 else 0) ∧ τ = σ) := by
  refine Ci.of (own := RX1) (by decide) rfl (Nat.le_of_ble_eq_true rfl) (fun p e s m args below meth c ls H locs X hl hh => ?_)
  have hb1 := hB.1
  have hb2 := hB.2.1
  rcases (show st = 0 ∨ st = 1 ∨ st = 2 by omega) with rfl | rfl | rfl
  · have hl : lv_has ls 4 [(0, .ref (gad G 85)), (1, .int (nI 0)), (2, .int (nI i)), (3, .int (nI j))] := hl
    refine lv_iload_n X.x X.b dX1_canStep_0 rfl (lv_at hl 1 rfl) ?_
    refine lv_tableIn (off := 27) (tgt := 28) X.x X.b dX1_canStep_1 (by decide) (by decide) (by decide +kernel) (by decide) ?_
    refine lv_iload_n X.x X.b dX1_canStep_28 rfl (lv_at hl 2 rfl) ?_
    refine lv_aload_n X.x X.b dX1_canStep_29 rfl (lv_at hl 0 rfl) ?_
    refine f_get X hh (v := .ref (gad G 63)) (sh_85 G _) (by decide) rfl in_X1 0 (by decide) kf_X1_14 rfl dX1_canStep_30 ?_
    refine f_geti X hh (x := nI (iN I)) (sh_63 G _) (by decide) rfl in_X3 3 (by decide) kf_X1_77 rfl hM.1.1 dX1_canStep_33 ?_
    refine lv_icmp_ge (tgt := 54) X.x X.b dX1_canStep_36 (by decide) (fun c_1 => ?_) (fun c_1 => ?_)
    · have c_1 : (iN I) ≤ i := (nI_leI (a := (iN I)) (b := i) (by omega) (by omega)).mp c_1
      refine lv_iconst (v := nI 0) X.x X.b dX1_canStep_54 (by decide) ?_
      exact f_zret X hh rfl ⟨by first | (rw [if_pos (can0.mpr (by omega))]; rfl) | (rw [if_neg (fun q9 => absurd (can0.mp q9) (by omega))]; rfl), rfl⟩ dX1_canStep_55
    · have c_1 : ¬ (iN I) ≤ i := fun q9 => c_1 ((nI_leI (a := (iN I)) (b := i) (by omega) (by omega)).mpr q9)
      refine lv_iload_n X.x X.b dX1_canStep_39 rfl (lv_at hl 3 rfl) ?_
      refine lv_aload_n X.x X.b dX1_canStep_40 rfl (lv_at hl 0 rfl) ?_
      refine f_get X hh (v := .ref (gad G 66)) (sh_85 G _) (by decide) rfl in_X1 1 (by decide) kf_X1_20 rfl dX1_canStep_41 ?_
      refine f_geti X hh (x := nI (iM I)) (sh_66 G _) (by decide) rfl in_X3 3 (by decide) kf_X1_77 rfl hM.2.1.1 dX1_canStep_44 ?_
      refine lv_icmp_ge (tgt := 54) X.x X.b dX1_canStep_47 (by decide) (fun c_2 => ?_) (fun c_2 => ?_)
      · have c_2 : (iM I) ≤ j := (nI_leI (a := (iM I)) (b := j) (by omega) (by omega)).mp c_2
        refine lv_iconst (v := nI 0) X.x X.b dX1_canStep_54 (by decide) ?_
        exact f_zret X hh rfl ⟨by first | (rw [if_pos (can0.mpr (by omega))]; rfl) | (rw [if_neg (fun q9 => absurd (can0.mp q9) (by omega))]; rfl), rfl⟩ dX1_canStep_55
      · have c_2 : ¬ (iM I) ≤ j := fun q9 => c_2 ((nI_leI (a := (iM I)) (b := j) (by omega) (by omega)).mpr q9)
        refine lv_iconst (v := nI 1) X.x X.b dX1_canStep_50 (by decide) ?_
        refine lv_goto (tgt := 55) X.x X.b dX1_canStep_51 (by decide) ?_
        exact f_zret X hh rfl ⟨by first | (rw [if_pos (can0.mpr (by omega))]; rfl) | (rw [if_neg (fun q9 => absurd (can0.mp q9) (by omega))]; rfl), rfl⟩ dX1_canStep_55
  · have hl : lv_has ls 4 [(0, .ref (gad G 85)), (1, .int (nI 1)), (2, .int (nI i)), (3, .int (nI j))] := hl
    refine lv_iload_n X.x X.b dX1_canStep_0 rfl (lv_at hl 1 rfl) ?_
    refine lv_tableIn (off := 55) (tgt := 56) X.x X.b dX1_canStep_1 (by decide) (by decide) (by decide +kernel) (by decide) ?_
    refine lv_iload_n X.x X.b dX1_canStep_56 rfl (lv_at hl 2 rfl) ?_
    refine lv_if_le (tgt := 75) X.x X.b dX1_canStep_57 (by decide) (fun c_3 => ?_) (fun c_3 => ?_)
    · have c_3 : i ≤ 0 := (nI_leI (a := i) (b := 0) (by omega) (by omega)).mp c_3
      refine lv_iconst (v := nI 0) X.x X.b dX1_canStep_75 (by decide) ?_
      exact f_zret X hh rfl ⟨by first | (rw [if_pos (can1.mpr (by omega))]; rfl) | (rw [if_neg (fun q9 => absurd (can1.mp q9) (by omega))]; rfl), rfl⟩ dX1_canStep_76
    · have c_3 : ¬ i ≤ 0 := fun q9 => c_3 ((nI_leI (a := i) (b := 0) (by omega) (by omega)).mpr q9)
      refine lv_iload_n X.x X.b dX1_canStep_60 rfl (lv_at hl 3 rfl) ?_
      refine lv_aload_n X.x X.b dX1_canStep_61 rfl (lv_at hl 0 rfl) ?_
      refine f_get X hh (v := .ref (gad G 66)) (sh_85 G _) (by decide) rfl in_X1 1 (by decide) kf_X1_20 rfl dX1_canStep_62 ?_
      refine f_geti X hh (x := nI (iM I)) (sh_66 G _) (by decide) rfl in_X3 3 (by decide) kf_X1_77 rfl hM.2.1.1 dX1_canStep_65 ?_
      refine lv_icmp_ge (tgt := 75) X.x X.b dX1_canStep_68 (by decide) (fun c_4 => ?_) (fun c_4 => ?_)
      · have c_4 : (iM I) ≤ j := (nI_leI (a := (iM I)) (b := j) (by omega) (by omega)).mp c_4
        refine lv_iconst (v := nI 0) X.x X.b dX1_canStep_75 (by decide) ?_
        exact f_zret X hh rfl ⟨by first | (rw [if_pos (can1.mpr (by omega))]; rfl) | (rw [if_neg (fun q9 => absurd (can1.mp q9) (by omega))]; rfl), rfl⟩ dX1_canStep_76
      · have c_4 : ¬ (iM I) ≤ j := fun q9 => c_4 ((nI_leI (a := (iM I)) (b := j) (by omega) (by omega)).mpr q9)
        refine lv_iconst (v := nI 1) X.x X.b dX1_canStep_71 (by decide) ?_
        refine lv_goto (tgt := 76) X.x X.b dX1_canStep_72 (by decide) ?_
        exact f_zret X hh rfl ⟨by first | (rw [if_pos (can1.mpr (by omega))]; rfl) | (rw [if_neg (fun q9 => absurd (can1.mp q9) (by omega))]; rfl), rfl⟩ dX1_canStep_76
  · have hl : lv_has ls 4 [(0, .ref (gad G 85)), (1, .int (nI 2)), (2, .int (nI i)), (3, .int (nI j))] := hl
    refine lv_iload_n X.x X.b dX1_canStep_0 rfl (lv_at hl 1 rfl) ?_
    refine lv_tableIn (off := 76) (tgt := 77) X.x X.b dX1_canStep_1 (by decide) (by decide) (by decide +kernel) (by decide) ?_
    refine lv_iload_n X.x X.b dX1_canStep_77 rfl (lv_at hl 2 rfl) ?_
    refine lv_aload_n X.x X.b dX1_canStep_78 rfl (lv_at hl 0 rfl) ?_
    refine f_get X hh (v := .ref (gad G 63)) (sh_85 G _) (by decide) rfl in_X1 0 (by decide) kf_X1_14 rfl dX1_canStep_79 ?_
    refine f_geti X hh (x := nI (iN I)) (sh_63 G _) (by decide) rfl in_X3 3 (by decide) kf_X1_77 rfl hM.1.1 dX1_canStep_82 ?_
    refine lv_icmp_ge (tgt := 96) X.x X.b dX1_canStep_85 (by decide) (fun c_5 => ?_) (fun c_5 => ?_)
    · have c_5 : (iN I) ≤ i := (nI_leI (a := (iN I)) (b := i) (by omega) (by omega)).mp c_5
      refine lv_iconst (v := nI 0) X.x X.b dX1_canStep_96 (by decide) ?_
      exact f_zret X hh rfl ⟨by first | (rw [if_pos (can2.mpr (by omega))]; rfl) | (rw [if_neg (fun q9 => absurd (can2.mp q9) (by omega))]; rfl), rfl⟩ dX1_canStep_97
    · have c_5 : ¬ (iN I) ≤ i := fun q9 => c_5 ((nI_leI (a := (iN I)) (b := i) (by omega) (by omega)).mpr q9)
      refine lv_iload_n X.x X.b dX1_canStep_88 rfl (lv_at hl 3 rfl) ?_
      refine lv_if_le (tgt := 96) X.x X.b dX1_canStep_89 (by decide) (fun c_6 => ?_) (fun c_6 => ?_)
      · have c_6 : j ≤ 0 := (nI_leI (a := j) (b := 0) (by omega) (by omega)).mp c_6
        refine lv_iconst (v := nI 0) X.x X.b dX1_canStep_96 (by decide) ?_
        exact f_zret X hh rfl ⟨by first | (rw [if_pos (can2.mpr (by omega))]; rfl) | (rw [if_neg (fun q9 => absurd (can2.mp q9) (by omega))]; rfl), rfl⟩ dX1_canStep_97
      · have c_6 : ¬ j ≤ 0 := fun q9 => c_6 ((nI_leI (a := j) (b := 0) (by omega) (by omega)).mpr q9)
        refine lv_iconst (v := nI 1) X.x X.b dX1_canStep_92 (by decide) ?_
        refine lv_goto (tgt := 97) X.x X.b dX1_canStep_93 (by decide) ?_
        exact f_zret X hh rfl ⟨by first | (rw [if_pos (can2.mpr (by omega))]; rfl) | (rw [if_neg (fun q9 => absurd (can2.mp q9) (by omega))]; rfl), rfl⟩ dX1_canStep_97
set_option maxHeartbeats 4000000 in
set_option maxRecDepth 100000 in
theorem c_stepCost (l : Launch) (G : GG) {σ : Mem} {I : LI} {st i j : Nat} (hB : LB I) (hM : LM σ I) (hs : st < 3) (hc : can I st i j = true) (hi : i ≤ iN I) (hj : j ≤ iM I) : Ci l G yX1_stepCost cX1_stepCost 7 (some .int) 1 22 [.ref (gad G 85), .int (nI st), .int (nI i), .int (nI j)] σ (fun r τ => r = nI (cst I st i j) ∧ τ = σ) := by
  refine Ci.of (own := RX1) (by decide) rfl (Nat.le_of_ble_eq_true rfl) (fun p e s m args below meth c ls H locs X hl hh => ?_)
  have hb1 := hB.1
  have hb2 := hB.2.1
  rcases (show st = 0 ∨ st = 1 ∨ st = 2 by omega) with rfl | rfl | rfl
  · have hc2 := can0.mp hc
    have hw2 := hB.2.2.1 i (by omega)
    have hv2 := hB.2.2.2.1 j (by omega)
    have hz2 := hB.2.2.2.2.2.1 i (by omega)
    have hq2 := hB.2.2.2.2.2.2 j (by omega)
    have hl : lv_has ls 7 [(0, .ref (gad G 85)), (1, .int (nI 0)), (2, .int (nI i)), (3, .int (nI j))] := hl
    refine lv_iload_n X.x X.b dX1_stepCost_0 rfl (lv_at hl 1 rfl) ?_
    refine lv_iconst (v := nI 1) X.x X.b dX1_stepCost_1 (by decide) ?_
    refine lv_icmp_ne (tgt := 12) X.x X.b dX1_stepCost_2 (by decide) (fun _ => ?_) (fun h9 => absurd h9 (by decide))
    refine lv_iload_n X.x X.b dX1_stepCost_12 rfl (lv_at hl 1 rfl) ?_
    refine lv_if_ne (tgt := 20) X.x X.b dX1_stepCost_13 (by decide) (fun h9 => absurd (show _ by decide) h9) (fun _ => ?_)
    refine lv_iload_n X.x X.b dX1_stepCost_16 rfl (lv_at hl 3 rfl) ?_
    refine lv_goto (tgt := 23) X.x X.b dX1_stepCost_17 (by decide) ?_
    refine lv_istore (lv' := [(4, .int (nI j)), (0, .ref (gad G 85)), (1, .int (nI 0)), (2, .int (nI i)), (3, .int (nI j))]) X.x X.b dX1_stepCost_23 hl (by decide) rfl (fun ls hl => ?_)
    refine lv_aload_n X.x X.b dX1_stepCost_25 rfl (lv_at hl 1 rfl) ?_
    refine f_get X hh (v := .ref (gad G 86)) (sh_85 G _) (by decide) rfl in_X1 2 (by decide) kf_X1_23 rfl dX1_stepCost_26 ?_
    refine lv_iconst (v := nI 0) X.x X.b dX1_stepCost_29 (by decide) ?_
    refine f_ialdx X hh (j := 0) (y := nI (iU I 0)) (sh_86 G _) (by decide) rfl (by omega) (by decide) (hM.2.2 _ (by decide)) dX1_stepCost_30 ?_
    refine lv_aload_n X.x X.b dX1_stepCost_31 rfl (lv_at hl 1 rfl) ?_
    refine f_get X hh (v := .ref (gad G 63)) (sh_85 G _) (by decide) rfl in_X1 0 (by decide) kf_X1_14 rfl dX1_stepCost_32 ?_
    refine f_get X hh (v := .ref (gad G 64)) (sh_63 G _) (by decide) rfl in_X3 1 (by decide) kf_X1_88 rfl dX1_stepCost_35 ?_
    refine lv_iload_n X.x X.b dX1_stepCost_38 rfl (lv_at hl 3 rfl) ?_
    refine f_ialdx X hh (j := i) (y := nI (iW I i)) (sh_64 G _) (by decide) rfl (by omega) (by decide) (hM.1.2.2.1 _ (by omega)) dX1_stepCost_39 ?_
    refine lv_aload_n X.x X.b dX1_stepCost_40 rfl (lv_at hl 1 rfl) ?_
    refine f_get X hh (v := .ref (gad G 66)) (sh_85 G _) (by decide) rfl in_X1 1 (by decide) kf_X1_20 rfl dX1_stepCost_41 ?_
    refine f_get X hh (v := .ref (gad G 67)) (sh_66 G _) (by decide) rfl in_X3 1 (by decide) kf_X1_88 rfl dX1_stepCost_44 ?_
    refine lv_iload X.x X.b dX1_stepCost_47 (lv_at hl 0 rfl) ?_
    refine f_ialdx X hh (j := j) (y := nI (iV I j)) (sh_67 G _) (by decide) rfl (by omega) (by decide) (hM.2.1.2.2.1 _ (by omega)) dX1_stepCost_49 ?_
    refine f_isub X (z := nI (iW I i) - nI (iV I j)) rfl dX1_stepCost_50 ?_
    refine f_mabs X (z := nI ((if iW I i ≤ iV I j then iV I j - iW I i else iW I i - iV I j))) (abs_nI (by omega) (by omega)) km_X1_136 hl.1 (by decide) (Nat.le_of_ble_eq_true rfl) ⟨Nat.zero_le _, Nat.zero_le _⟩ ks_yJ9_abs_0f7a4 kn_J9 kc_yJ9_abs_0f7a4 dX1_stepCost_51 ?_
    refine f_imul X (z := nI (fitN I i j)) (pk_mul _ _) dX1_stepCost_54 ?_
    refine lv_istore (lv' := [(5, .int (nI (fitN I i j))), (4, .int (nI j)), (0, .ref (gad G 85)), (1, .int (nI 0)), (2, .int (nI i)), (3, .int (nI j))]) X.x X.b dX1_stepCost_55 hl (by decide) rfl (fun ls hl => ?_)
    refine lv_iload_n X.x X.b dX1_stepCost_57 rfl (lv_at hl 3 rfl) ?_
    refine lv_iconst (v := nI 2) X.x X.b dX1_stepCost_58 (by decide) ?_
    refine lv_icmp_ne (tgt := 72) X.x X.b dX1_stepCost_59 (by decide) (fun _ => ?_) (fun h9 => absurd h9 (by decide))
    refine lv_aload_n X.x X.b dX1_stepCost_72 rfl (lv_at hl 2 rfl) ?_
    refine f_get X hh (v := .ref (gad G 63)) (sh_85 G _) (by decide) rfl in_X1 0 (by decide) kf_X1_14 rfl dX1_stepCost_73 ?_
    refine f_get X hh (v := .ref (gad G 65)) (sh_63 G _) (by decide) rfl in_X3 2 (by decide) kf_X1_141 rfl dX1_stepCost_76 ?_
    refine lv_iload_n X.x X.b dX1_stepCost_79 rfl (lv_at hl 4 rfl) ?_
    refine f_ialdx X hh (j := i) (y := nI (iZ I i)) (sh_65 G _) (by decide) rfl (by omega) (by decide) (hM.1.2.2.2 _ (by omega)) dX1_stepCost_80 ?_
    refine lv_iconst (v := nI 1) X.x X.b dX1_stepCost_81 (by decide) ?_
    refine lv_icmp_ne (tgt := 103) X.x X.b dX1_stepCost_82 (by decide) (fun c_4 => ?_) (fun c_4 => ?_)
    · have c_4 : ¬ (iZ I i) = 1 := fun q9 => c_4 ((nI_eq (a := (iZ I i)) (b := 1) (by omega) (by omega)).mpr q9)
      refine lv_iconst (v := nI 0) X.x X.b dX1_stepCost_103 (by decide) ?_
      refine lv_istore (lv' := [(6, .int (nI 0)), (5, .int (nI (fitN I i j))), (4, .int (nI j)), (0, .ref (gad G 85)), (1, .int (nI 0)), (2, .int (nI i)), (3, .int (nI j))]) X.x X.b dX1_stepCost_104 hl (by decide) rfl (fun ls hl => ?_)
      refine lv_iload X.x X.b dX1_stepCost_106 (lv_at hl 0 rfl) ?_
      refine lv_if_eq (tgt := 123) X.x X.b dX1_stepCost_108 (by decide) (fun _ => ?_) (fun h9 => absurd (show _ by decide) h9)
      refine lv_iload X.x X.b dX1_stepCost_123 (lv_at hl 1 rfl) ?_
      exact f_iret X hh ⟨by show _ = nI (fitN I i j + (if iZ I i = 1 ∧ iQ I j = 1 then iU I 3 else 0)); first | (rw [if_pos (by omega), Nat.add_comm (iU I 3)]) | (rw [if_neg (by omega)]; rfl), rfl⟩ dX1_stepCost_125
    · have c_4 : (iZ I i) = 1 := (nI_eq (a := (iZ I i)) (b := 1) (by omega) (by omega)).mp c_4
      refine lv_aload_n X.x X.b dX1_stepCost_85 rfl (lv_at hl 2 rfl) ?_
      refine f_get X hh (v := .ref (gad G 66)) (sh_85 G _) (by decide) rfl in_X1 1 (by decide) kf_X1_20 rfl dX1_stepCost_86 ?_
      refine f_get X hh (v := .ref (gad G 68)) (sh_66 G _) (by decide) rfl in_X3 2 (by decide) kf_X1_141 rfl dX1_stepCost_89 ?_
      refine lv_iload X.x X.b dX1_stepCost_92 (lv_at hl 1 rfl) ?_
      refine f_ialdx X hh (j := j) (y := nI (iQ I j)) (sh_68 G _) (by decide) rfl (by omega) (by decide) (hM.2.1.2.2.2 _ (by omega)) dX1_stepCost_94 ?_
      refine lv_iconst (v := nI 1) X.x X.b dX1_stepCost_95 (by decide) ?_
      refine lv_icmp_ne (tgt := 103) X.x X.b dX1_stepCost_96 (by decide) (fun c_6 => ?_) (fun c_6 => ?_)
      · have c_6 : ¬ (iQ I j) = 1 := fun q9 => c_6 ((nI_eq (a := (iQ I j)) (b := 1) (by omega) (by omega)).mpr q9)
        refine lv_iconst (v := nI 0) X.x X.b dX1_stepCost_103 (by decide) ?_
        refine lv_istore (lv' := [(6, .int (nI 0)), (5, .int (nI (fitN I i j))), (4, .int (nI j)), (0, .ref (gad G 85)), (1, .int (nI 0)), (2, .int (nI i)), (3, .int (nI j))]) X.x X.b dX1_stepCost_104 hl (by decide) rfl (fun ls hl => ?_)
        refine lv_iload X.x X.b dX1_stepCost_106 (lv_at hl 0 rfl) ?_
        refine lv_if_eq (tgt := 123) X.x X.b dX1_stepCost_108 (by decide) (fun _ => ?_) (fun h9 => absurd (show _ by decide) h9)
        refine lv_iload X.x X.b dX1_stepCost_123 (lv_at hl 1 rfl) ?_
        exact f_iret X hh ⟨by show _ = nI (fitN I i j + (if iZ I i = 1 ∧ iQ I j = 1 then iU I 3 else 0)); first | (rw [if_pos (by omega), Nat.add_comm (iU I 3)]) | (rw [if_neg (by omega)]; rfl), rfl⟩ dX1_stepCost_125
      · have c_6 : (iQ I j) = 1 := (nI_eq (a := (iQ I j)) (b := 1) (by omega) (by omega)).mp c_6
        refine lv_iconst (v := nI 1) X.x X.b dX1_stepCost_99 (by decide) ?_
        refine lv_goto (tgt := 104) X.x X.b dX1_stepCost_100 (by decide) ?_
        refine lv_istore (lv' := [(6, .int (nI 1)), (5, .int (nI (fitN I i j))), (4, .int (nI j)), (0, .ref (gad G 85)), (1, .int (nI 0)), (2, .int (nI i)), (3, .int (nI j))]) X.x X.b dX1_stepCost_104 hl (by decide) rfl (fun ls hl => ?_)
        refine lv_iload X.x X.b dX1_stepCost_106 (lv_at hl 0 rfl) ?_
        refine lv_if_eq (tgt := 123) X.x X.b dX1_stepCost_108 (by decide) (fun h9 => absurd h9 (by decide)) (fun _ => ?_)
        refine lv_aload_n X.x X.b dX1_stepCost_111 rfl (lv_at hl 3 rfl) ?_
        refine f_get X hh (v := .ref (gad G 86)) (sh_85 G _) (by decide) rfl in_X1 2 (by decide) kf_X1_23 rfl dX1_stepCost_112 ?_
        refine lv_iconst (v := nI 3) X.x X.b dX1_stepCost_115 (by decide) ?_
        refine f_ialdx X hh (j := 3) (y := nI (iU I 3)) (sh_86 G _) (by decide) rfl (by omega) (by decide) (hM.2.2 _ (by decide)) dX1_stepCost_116 ?_
        refine lv_iload X.x X.b dX1_stepCost_117 (lv_at hl 1 rfl) ?_
        refine f_iadd X (z := nI (iU I 3 + fitN I i j)) (nI_add (iU I 3) (fitN I i j)) dX1_stepCost_119 ?_
        refine lv_goto (tgt := 125) X.x X.b dX1_stepCost_120 (by decide) ?_
        exact f_iret X hh ⟨by show _ = nI (fitN I i j + (if iZ I i = 1 ∧ iQ I j = 1 then iU I 3 else 0)); first | (rw [if_pos (by omega), Nat.add_comm (iU I 3)]) | (rw [if_neg (by omega)]; rfl), rfl⟩ dX1_stepCost_125
  · have hl : lv_has ls 7 [(0, .ref (gad G 85)), (1, .int (nI 1)), (2, .int (nI i)), (3, .int (nI j))] := hl
    refine lv_iload_n X.x X.b dX1_stepCost_0 rfl (lv_at hl 1 rfl) ?_
    refine lv_iconst (v := nI 1) X.x X.b dX1_stepCost_1 (by decide) ?_
    refine lv_icmp_ne (tgt := 12) X.x X.b dX1_stepCost_2 (by decide) (fun h9 => absurd (show _ by decide) h9) (fun _ => ?_)
    refine lv_aload_n X.x X.b dX1_stepCost_5 rfl (lv_at hl 0 rfl) ?_
    refine f_get X hh (v := .ref (gad G 86)) (sh_85 G _) (by decide) rfl in_X1 2 (by decide) kf_X1_23 rfl dX1_stepCost_6 ?_
    refine lv_iconst (v := nI 1) X.x X.b dX1_stepCost_9 (by decide) ?_
    refine f_ialdx X hh (j := 1) (y := nI (iU I 1)) (sh_86 G _) (by decide) rfl (by omega) (by decide) (hM.2.2 _ (by decide)) dX1_stepCost_10 ?_
    exact f_iret X hh ⟨rfl, rfl⟩ dX1_stepCost_11
  · have hc2 := can2.mp hc
    have hw2 := hB.2.2.1 i (by omega)
    have hv2 := hB.2.2.2.1 (j - 1) (by omega)
    have hz2 := hB.2.2.2.2.2.1 i (by omega)
    have hq2 := hB.2.2.2.2.2.2 (j - 1) (by omega)
    have hl : lv_has ls 7 [(0, .ref (gad G 85)), (1, .int (nI 2)), (2, .int (nI i)), (3, .int (nI j))] := hl
    refine lv_iload_n X.x X.b dX1_stepCost_0 rfl (lv_at hl 1 rfl) ?_
    refine lv_iconst (v := nI 1) X.x X.b dX1_stepCost_1 (by decide) ?_
    refine lv_icmp_ne (tgt := 12) X.x X.b dX1_stepCost_2 (by decide) (fun _ => ?_) (fun h9 => absurd h9 (by decide))
    refine lv_iload_n X.x X.b dX1_stepCost_12 rfl (lv_at hl 1 rfl) ?_
    refine lv_if_ne (tgt := 20) X.x X.b dX1_stepCost_13 (by decide) (fun _ => ?_) (fun h9 => absurd h9 (by decide))
    refine lv_iload_n X.x X.b dX1_stepCost_20 rfl (lv_at hl 3 rfl) ?_
    refine lv_iconst (v := nI 1) X.x X.b dX1_stepCost_21 (by decide) ?_
    refine f_isub X (z := nI (j - 1)) (pk_sub (a := j) (b := 1) (by omega)) dX1_stepCost_22 ?_
    refine lv_istore (lv' := [(4, .int (nI (j - 1))), (0, .ref (gad G 85)), (1, .int (nI 2)), (2, .int (nI i)), (3, .int (nI j))]) X.x X.b dX1_stepCost_23 hl (by decide) rfl (fun ls hl => ?_)
    refine lv_aload_n X.x X.b dX1_stepCost_25 rfl (lv_at hl 1 rfl) ?_
    refine f_get X hh (v := .ref (gad G 86)) (sh_85 G _) (by decide) rfl in_X1 2 (by decide) kf_X1_23 rfl dX1_stepCost_26 ?_
    refine lv_iconst (v := nI 0) X.x X.b dX1_stepCost_29 (by decide) ?_
    refine f_ialdx X hh (j := 0) (y := nI (iU I 0)) (sh_86 G _) (by decide) rfl (by omega) (by decide) (hM.2.2 _ (by decide)) dX1_stepCost_30 ?_
    refine lv_aload_n X.x X.b dX1_stepCost_31 rfl (lv_at hl 1 rfl) ?_
    refine f_get X hh (v := .ref (gad G 63)) (sh_85 G _) (by decide) rfl in_X1 0 (by decide) kf_X1_14 rfl dX1_stepCost_32 ?_
    refine f_get X hh (v := .ref (gad G 64)) (sh_63 G _) (by decide) rfl in_X3 1 (by decide) kf_X1_88 rfl dX1_stepCost_35 ?_
    refine lv_iload_n X.x X.b dX1_stepCost_38 rfl (lv_at hl 3 rfl) ?_
    refine f_ialdx X hh (j := i) (y := nI (iW I i)) (sh_64 G _) (by decide) rfl (by omega) (by decide) (hM.1.2.2.1 _ (by omega)) dX1_stepCost_39 ?_
    refine lv_aload_n X.x X.b dX1_stepCost_40 rfl (lv_at hl 1 rfl) ?_
    refine f_get X hh (v := .ref (gad G 66)) (sh_85 G _) (by decide) rfl in_X1 1 (by decide) kf_X1_20 rfl dX1_stepCost_41 ?_
    refine f_get X hh (v := .ref (gad G 67)) (sh_66 G _) (by decide) rfl in_X3 1 (by decide) kf_X1_88 rfl dX1_stepCost_44 ?_
    refine lv_iload X.x X.b dX1_stepCost_47 (lv_at hl 0 rfl) ?_
    refine f_ialdx X hh (j := j - 1) (y := nI (iV I (j - 1))) (sh_67 G _) (by decide) rfl (by omega) (by decide) (hM.2.1.2.2.1 _ (by omega)) dX1_stepCost_49 ?_
    refine f_isub X (z := nI (iW I i) - nI (iV I (j - 1))) rfl dX1_stepCost_50 ?_
    refine f_mabs X (z := nI ((if iW I i ≤ iV I (j - 1) then iV I (j - 1) - iW I i else iW I i - iV I (j - 1)))) (abs_nI (by omega) (by omega)) km_X1_136 hl.1 (by decide) (Nat.le_of_ble_eq_true rfl) ⟨Nat.zero_le _, Nat.zero_le _⟩ ks_yJ9_abs_0f7a4 kn_J9 kc_yJ9_abs_0f7a4 dX1_stepCost_51 ?_
    refine f_imul X (z := nI (fitN I i (j - 1))) (pk_mul _ _) dX1_stepCost_54 ?_
    refine lv_istore (lv' := [(5, .int (nI (fitN I i (j - 1)))), (4, .int (nI (j - 1))), (0, .ref (gad G 85)), (1, .int (nI 2)), (2, .int (nI i)), (3, .int (nI j))]) X.x X.b dX1_stepCost_55 hl (by decide) rfl (fun ls hl => ?_)
    refine lv_iload_n X.x X.b dX1_stepCost_57 rfl (lv_at hl 3 rfl) ?_
    refine lv_iconst (v := nI 2) X.x X.b dX1_stepCost_58 (by decide) ?_
    refine lv_icmp_ne (tgt := 72) X.x X.b dX1_stepCost_59 (by decide) (fun h9 => absurd (show _ by decide) h9) (fun _ => ?_)
    refine lv_aload_n X.x X.b dX1_stepCost_62 rfl (lv_at hl 2 rfl) ?_
    refine f_get X hh (v := .ref (gad G 86)) (sh_85 G _) (by decide) rfl in_X1 2 (by decide) kf_X1_23 rfl dX1_stepCost_63 ?_
    refine lv_iconst (v := nI 2) X.x X.b dX1_stepCost_66 (by decide) ?_
    refine f_ialdx X hh (j := 2) (y := nI (iU I 2)) (sh_86 G _) (by decide) rfl (by omega) (by decide) (hM.2.2 _ (by decide)) dX1_stepCost_67 ?_
    refine lv_iload X.x X.b dX1_stepCost_68 (lv_at hl 0 rfl) ?_
    refine f_iadd X (z := nI (iU I 2 + fitN I i (j - 1))) (nI_add (iU I 2) (fitN I i (j - 1))) dX1_stepCost_70 ?_
    exact f_iret X hh ⟨by show _ = nI (fitN I i (j - 1) + iU I 2); rw [Nat.add_comm (iU I 2)], rfl⟩ dX1_stepCost_71
set_option maxHeartbeats 4000000 in
set_option maxRecDepth 100000 in
theorem c_isCheaper (l : Launch) (G : GG) {σ : Mem}  (x y : Int32) : Ci l G yX4_isCheaper cX4_isCheaper 2 (some .boolean) 0 0 [.int x, .int y] σ (fun r τ => r = (if x ≠ -6 ∧ (y = -6 ∨ x < y) then 1 else 0) ∧ τ = σ) := by
  refine Ci.of (own := RX4) (by decide) rfl (Nat.le_of_ble_eq_true rfl) (fun p e s m args below meth c ls H locs X hl hh => ?_)
  have hl : lv_has ls 2 [(0, .int x), (1, .int y)] := hl
  refine lv_iload_n X.x X.b dX4_isCheaper_0 rfl (lv_at hl 0 rfl) ?_
  refine lv_bipush (v := (-6)) X.x X.b dX4_isCheaper_1 (by decide) ?_
  refine lv_icmp_eq (tgt := 21) X.x X.b dX4_isCheaper_3 (by decide) (fun c_1 => ?_) (fun c_1 => ?_)
  · refine lv_iconst (v := nI 0) X.x X.b dX4_isCheaper_21 (by decide) ?_
    exact f_zret X hh rfl ⟨by first | (rw [if_pos ⟨‹_›, Or.inl ‹_›⟩]; rfl) | (rw [if_pos ⟨‹_›, Or.inr (Int32.not_le.mp ‹_›)⟩]; rfl) | (rw [if_neg (fun q9 => q9.1 ‹_›)]; rfl) | (rw [if_neg (fun q9 => q9.2.elim (fun q8 => absurd q8 ‹_›) (fun q8 => absurd q8 (Int32.not_lt.mpr ‹_›)))]; rfl), rfl⟩ dX4_isCheaper_22
  · refine lv_iload_n X.x X.b dX4_isCheaper_6 rfl (lv_at hl 1 rfl) ?_
    refine lv_bipush (v := (-6)) X.x X.b dX4_isCheaper_7 (by decide) ?_
    refine lv_icmp_eq (tgt := 17) X.x X.b dX4_isCheaper_9 (by decide) (fun c_2 => ?_) (fun c_2 => ?_)
    · refine lv_iconst (v := nI 1) X.x X.b dX4_isCheaper_17 (by decide) ?_
      refine lv_goto (tgt := 22) X.x X.b dX4_isCheaper_18 (by decide) ?_
      exact f_zret X hh rfl ⟨by first | (rw [if_pos ⟨‹_›, Or.inl ‹_›⟩]; rfl) | (rw [if_pos ⟨‹_›, Or.inr (Int32.not_le.mp ‹_›)⟩]; rfl) | (rw [if_neg (fun q9 => q9.1 ‹_›)]; rfl) | (rw [if_neg (fun q9 => q9.2.elim (fun q8 => absurd q8 ‹_›) (fun q8 => absurd q8 (Int32.not_lt.mpr ‹_›)))]; rfl), rfl⟩ dX4_isCheaper_22
    · refine lv_iload_n X.x X.b dX4_isCheaper_12 rfl (lv_at hl 0 rfl) ?_
      refine lv_iload_n X.x X.b dX4_isCheaper_13 rfl (lv_at hl 1 rfl) ?_
      refine lv_icmp_ge (tgt := 21) X.x X.b dX4_isCheaper_14 (by decide) (fun c_3 => ?_) (fun c_3 => ?_)
      · refine lv_iconst (v := nI 0) X.x X.b dX4_isCheaper_21 (by decide) ?_
        exact f_zret X hh rfl ⟨by first | (rw [if_pos ⟨‹_›, Or.inl ‹_›⟩]; rfl) | (rw [if_pos ⟨‹_›, Or.inr (Int32.not_le.mp ‹_›)⟩]; rfl) | (rw [if_neg (fun q9 => q9.1 ‹_›)]; rfl) | (rw [if_neg (fun q9 => q9.2.elim (fun q8 => absurd q8 ‹_›) (fun q8 => absurd q8 (Int32.not_lt.mpr ‹_›)))]; rfl), rfl⟩ dX4_isCheaper_22
      · refine lv_iconst (v := nI 1) X.x X.b dX4_isCheaper_17 (by decide) ?_
        refine lv_goto (tgt := 22) X.x X.b dX4_isCheaper_18 (by decide) ?_
        exact f_zret X hh rfl ⟨by first | (rw [if_pos ⟨‹_›, Or.inl ‹_›⟩]; rfl) | (rw [if_pos ⟨‹_›, Or.inr (Int32.not_le.mp ‹_›)⟩]; rfl) | (rw [if_neg (fun q9 => q9.1 ‹_›)]; rfl) | (rw [if_neg (fun q9 => q9.2.elim (fun q8 => absurd q8 ‹_›) (fun q8 => absurd q8 (Int32.not_lt.mpr ‹_›)))]; rfl), rfl⟩ dX4_isCheaper_22
end
section
/-! the class's own way of reckoning against the table TT -/
def lres (a : X4) : Int32 := if a.2.2.1 = 0 then -6 else nI a.1
theorem nI_m6 {n : Nat} (h : n < 2 ^ 31) : nI n ≠ -6 := by
  intro e
  have h1 := congrArg Int32.toInt e
  rw [nI_toInt h] at h1
  have h2 : (-6 : Int32).toInt = -6 := by decide
  omega
theorem lres_p {a : X4} (h : a.2.2.1 ≠ 0) : lres a = nI a.1 := if_neg h
theorem lres_tk {a t : X4} {own : Nat} (ht : t.2.2.1 ≠ 0) (hb : own + t.1 < 2 ^ 31) (ha : a.1 < 2 ^ 31) : (if nI (own + t.1) ≠ -6 ∧ (lres a = -6 ∨ nI (own + t.1) < lres a) then nI (own + t.1) else lres a) = lres (tk a own t) := by
  have e1 : lres (tk a own t) = nI (if a.2.2.1 = 0 ∨ own + t.1 < a.1 then own + t.1 else a.1) := by
    rw [lres_p (by rw [tk_wy]; omega)]
    unfold tk
    rw [if_neg ht]
  rw [e1]
  by_cases h0 : a.2.2.1 = 0
  · rw [if_pos ⟨nI_m6 hb, Or.inl (if_pos h0)⟩, if_pos (Or.inl h0)]
  · rw [lres_p h0]
    by_cases hl : own + t.1 < a.1
    · rw [if_pos ⟨nI_m6 hb, Or.inr (nI_lt hl ha)⟩, if_pos (Or.inr hl)]
    · rw [if_neg (fun q => q.2.elim (fun q => nI_m6 ha q) (fun q => nI_nlt (by omega) hb q)), if_neg (fun q => q.elim h0 hl)]
theorem tsa_b {I : LI} (hB : LB I) {i j : Nat} (hi : i ≤ iN I) (hj : j ≤ iM I) {k : Nat} (hk : k ≤ 3) : (tsa I (TT I) i j k).1 ≤ 567 ∧ (tsa I (TT I) i j k).2.1 ≤ 567 := by
  refine tsa_le (fun st hs hc => ?_)
  have hn := can_next (by omega) hc hi hj
  have h1 := TT_b hB hn.1 hn.2
  have h2 := cst_le hB (by omega) hc hi hj
  omega
def dmn (I : LI) (a b : Nat) : Prop := (1 ≤ a ∧ a ≤ iN I ∧ 1 ≤ b ∧ b ≤ iM I) ∨ (a = 0 ∧ b = 0)
def hasL (I : LI) : Prop := (iN I = 0 ↔ iM I = 0)
theorem dmn_le {I : LI} {i j : Nat} (h : dmn I i j) : i ≤ iN I ∧ j ≤ iM I := by
  rcases h with ⟨_, h1, _, h2⟩ | ⟨h1, h2⟩
  · exact ⟨h1, h2⟩
  · omega
theorem dmn_next {I : LI} {st i j : Nat} (hs : st < 3) (hd : dmn I i j) (hc : can I st i j = true) : 1 ≤ i + di st ∧ i + di st ≤ iN I ∧ 1 ≤ j + dj st ∧ j + dj st ≤ iM I := by
  have hl := dmn_le hd
  have hn := can_next hs hc hl.1 hl.2
  rcases hd with hd | ⟨h1, h2⟩
  · omega
  · subst h1; subst h2
    rcases (show st = 0 ∨ st = 1 ∨ st = 2 by omega) with rfl | rfl | rfl
    · have e1 : di 0 = 1 := rfl
      have e2 : dj 0 = 1 := rfl
      omega
    · have := can1.mp hc; omega
    · have := can2.mp hc; omega
theorem dmn_d {I : LI} {st i j : Nat} (hs : st < 3) (hd : dmn I i j) (hc : can I st i j = true) : dmn I (i + di st) (j + dj st) := Or.inl (dmn_next hs hd hc)
theorem TT_d {I : LI} (hB : LB I) (hL : hasL I) {i j : Nat} (hd : dmn I i j) : (TT I i j).2.2.1 ≠ 0 := by
  rcases hd with ⟨a, b, c, d⟩ | ⟨h1, h2⟩
  · exact TT_p hB a b c d
  · subst h1; subst h2
    rw [TT_rec hB (Nat.zero_le _) (Nat.zero_le _)]
    by_cases h : iN I = 0
    · have h2 := hL.mp h
      refine tsa_wy3 (st := 0) (by omega) ?_
      show (if 0 = iN I ∧ 0 = iM I then 1 else 0) ≠ 0
      rw [if_pos (by omega)]; decide
    · have h2 : ¬ iM I = 0 := fun q => h (hL.mpr q)
      refine tsa_wy3 (st := 1) (by omega) (tsa_wy_ge (st := 0) (can0.mpr ⟨by omega, by omega⟩) ?_)
      exact TT_p hB (by decide) (by show 0 + 1 ≤ _; omega) (by decide) (by show 0 + 1 ≤ _; omega)
theorem TT_dn {I : LI} (hB : LB I) {st i j : Nat} (hs : st < 3) (hd : dmn I i j) (hc : can I st i j = true) : (TT I (i + di st) (j + dj st)).2.2.1 ≠ 0 := by
  have h := dmn_next hs hd hc
  exact TT_p hB h.1 h.2.1 h.2.2.1 h.2.2.2
/-- the ways of cost c0, step by step -/
def cla (I : LI) (i j c0 : Nat) : Nat → Nat
  | 0 => if i = iN I ∧ j = iM I then 1 else 0
  | st + 1 => cla I i j c0 st + (if can I st i j = true then (if cst I st i j + (TT I (i + di st) (j + dj st)).1 = c0 then (TT I (i + di st) (j + dj st)).2.2.2 else 0) else 0)
theorem cla_ok {I : LI} (hB : LB I) {i j : Nat} (hd : dmn I i j) (he : ¬ (i = iN I ∧ j = iM I)) : ∀ {k : Nat}, k ≤ 3 → ((tsa I (TT I) i j k).2.2.1 = 0 → ∀ c0, cla I i j c0 k = 0) ∧ ((tsa I (TT I) i j k).2.2.1 ≠ 0 → cla I i j (tsa I (TT I) i j k).1 k = (tsa I (TT I) i j k).2.2.2 ∧ ∀ c0, c0 < (tsa I (TT I) i j k).1 → cla I i j c0 k = 0)
  | 0, _ => by
    refine ⟨fun _ c0 => if_neg he, fun h => ?_⟩
    exact absurd (if_neg he) h
  | k + 1, hk => by
    obtain ⟨h1, h2⟩ := cla_ok hB hd he (k := k) (by omega)
    have e3 : ∀ c0, cla I i j c0 (k + 1) = cla I i j c0 k + (if can I k i j = true then (if cst I k i j + (TT I (i + di k) (j + dj k)).1 = c0 then (TT I (i + di k) (j + dj k)).2.2.2 else 0) else 0) := fun _ => rfl
    have e4 : tsa I (TT I) i j (k + 1) = ts I (TT I) i j k (tsa I (TT I) i j k) := rfl
    by_cases hc : can I k i j = true
    · have ht := TT_dn hB (show k < 3 by omega) hd hc
      have e5 : tsa I (TT I) i j (k + 1) = tk (tsa I (TT I) i j k) (cst I k i j) (TT I (i + di k) (j + dj k)) := by rw [e4]; unfold ts; rw [if_pos hc]
      generalize tsa I (TT I) i j k = a at *
      generalize TT I (i + di k) (j + dj k) = t at *
      generalize cst I k i j = own at *
      refine ⟨fun h => ?_, fun _ => ?_⟩
      · rw [e5, tk_wy] at h; omega
      · have e6 : tk a own t = ((if a.2.2.1 = 0 ∨ own + t.1 < a.1 then own + t.1 else a.1), (if a.2.2.1 = 0 ∨ a.2.1 < own + t.2.1 then own + t.2.1 else a.2.1), a.2.2.1 + t.2.2.1, (if a.2.2.1 = 0 ∨ own + t.1 < a.1 then 0 else a.2.2.2) + (if own + t.1 = (if a.2.2.1 = 0 ∨ own + t.1 < a.1 then own + t.1 else a.1) then t.2.2.2 else 0)) := by unfold tk; rw [if_neg ht]
        rw [e5, e6]
        show cla I i j (if a.2.2.1 = 0 ∨ own + t.1 < a.1 then own + t.1 else a.1) (k + 1) = (if a.2.2.1 = 0 ∨ own + t.1 < a.1 then 0 else a.2.2.2) + (if own + t.1 = (if a.2.2.1 = 0 ∨ own + t.1 < a.1 then own + t.1 else a.1) then t.2.2.2 else 0) ∧ ∀ c0, c0 < (if a.2.2.1 = 0 ∨ own + t.1 < a.1 then own + t.1 else a.1) → cla I i j c0 (k + 1) = 0
        by_cases hx : a.2.2.1 = 0 ∨ own + t.1 < a.1
        · rw [if_pos hx, if_pos hx, if_pos rfl]
          refine ⟨?_, fun c0 h => ?_⟩
          · rw [e3, if_pos hc, if_pos rfl]
            congr 1
            by_cases h0 : a.2.2.1 = 0
            · exact h1 h0 _
            · exact (h2 h0).2 _ (hx.resolve_left h0)
          · rw [e3, if_pos hc, if_neg (by omega)]
            by_cases h0 : a.2.2.1 = 0
            · rw [h1 h0]
            · rw [(h2 h0).2 c0 (by have := hx.resolve_left h0; omega)]
        · have h0 : ¬ a.2.2.1 = 0 := fun q => hx (Or.inl q)
          rw [if_neg hx, if_neg hx]
          refine ⟨?_, fun c0 h => ?_⟩
          · rw [e3, if_pos hc, (h2 h0).1]
          · rw [e3, if_pos hc, if_neg (fun q => hx (Or.inr (by omega))), (h2 h0).2 c0 h]
    · have e5 : tsa I (TT I) i j (k + 1) = tsa I (TT I) i j k := by rw [e4]; unfold ts; rw [if_neg hc]
      rw [e5]
      refine ⟨fun h c0 => ?_, fun h => ⟨?_, fun c0 hc0 => ?_⟩⟩
      · rw [e3, if_neg hc]; exact h1 h c0
      · rw [e3, if_neg hc]; exact (h2 h).1
      · rw [e3, if_neg hc]; exact (h2 h).2 c0 hc0
theorem end_can {I : LI} {st i j : Nat} (hs : st < 3) (he : i = iN I ∧ j = iM I) : can I st i j = false := by
  rcases (show st = 0 ∨ st = 1 ∨ st = 2 by omega) with rfl | rfl | rfl <;> simp [can, he.1, he.2]
theorem cla_fin {I : LI} (hB : LB I) (hL : hasL I) {i j : Nat} (hd : dmn I i j) : cla I i j (TT I i j).1 3 = (TT I i j).2.2.2 := by
  have hl := dmn_le hd
  by_cases he : i = iN I ∧ j = iM I
  · have h0 := end_can (st := 0) (by decide) he
    have h1 := end_can (st := 1) (by decide) he
    have h2 := end_can (st := 2) (by decide) he
    rw [TT_rec hB hl.1 hl.2]
    simp [cla, tsa, ts, h0, h1, h2, te]
  · have h := (cla_ok hB hd he (k := 3) (by decide)).2 (by rw [← TT_rec hB hl.1 hl.2]; exact TT_d hB hL hd)
    rw [← TT_rec hB hl.1 hl.2] at h
    exact h.1
/-- the greatest cost, as Math.max has it -/
theorem mo_tk {I : LI} {i j k : Nat} (hz : (tsa I (TT I) i j k).2.2.1 = 0 → (tsa I (TT I) i j k).2.1 = 0) {own : Nat} {t : X4} (ht : t.2.2.1 ≠ 0) : (tk (tsa I (TT I) i j k) own t).2.1 = if (tsa I (TT I) i j k).2.1 < own + t.2.1 then own + t.2.1 else (tsa I (TT I) i j k).2.1 := by
  unfold tk
  rw [if_neg ht]
  show (if _ ∨ _ then _ else _) = _
  by_cases h0 : (tsa I (TT I) i j k).2.2.1 = 0
  · rw [if_pos (Or.inl h0), hz h0]
    split <;> omega
  · by_cases h : (tsa I (TT I) i j k).2.1 < own + t.2.1
    · rw [if_pos (Or.inr h), if_pos h]
    · rw [if_neg (fun q => q.elim h0 h), if_neg h]
theorem mo_z {I : LI} {i j : Nat} : ∀ {k : Nat}, (tsa I (TT I) i j k).2.2.1 = 0 → (tsa I (TT I) i j k).2.1 = 0
  | 0, _ => rfl
  | k + 1, h => by
    have e4 : tsa I (TT I) i j (k + 1) = ts I (TT I) i j k (tsa I (TT I) i j k) := rfl
    rw [e4] at h ⊢
    unfold ts at h ⊢
    by_cases hc : can I k i j = true
    · rw [if_pos hc] at h ⊢
      rw [tk_wy] at h
      unfold tk
      rw [if_pos (by omega)]
      exact mo_z (by omega)
    · rw [if_neg hc] at h ⊢
      exact mo_z h
/-- the next step of LEAST -/
def nxok (I : LI) (i j st : Nat) : Bool := can I st i j && decide (cst I st i j + (TT I (i + di st) (j + dj st)).1 = (TT I i j).1)
def snx (I : LI) (i j : Nat) : Option Nat := ffst (fun st => !(nxok I i j st)) 3
theorem ffst_f {ok : Nat → Bool} : ∀ {n j : Nat}, ffst ok n = some j → ok j = false ∧ ∀ k, k < j → ok k = true
  | 0, j, h => by cases h
  | n + 1, j, h => by
    unfold ffst at h
    cases hf : ffst ok n with
    | some i => rw [hf] at h; cases h; exact ffst_f hf
    | none =>
      rw [hf] at h
      by_cases ho : ok n = true
      · simp [ho] at h
      · simp [ho] at h; subst h; exact ⟨by simpa using ho, ffst_all hf⟩
theorem snx_s {I : LI} {i j st : Nat} (h : snx I i j = some st) : st < 3 ∧ can I st i j = true ∧ cst I st i j + (TT I (i + di st) (j + dj st)).1 = (TT I i j).1 := by
  have h1 := ffst_lt h
  have h2 := (ffst_f h).1
  simp [nxok] at h2
  exact ⟨h1, h2.1, h2.2⟩
theorem snx_i {I : LI} {i j st : Nat} (hs : st < 3) (h : nxok I i j st = true) (hb : ∀ k, k < st → nxok I i j k = false) : snx I i j = some st := ffst_s (by simp [h]) (fun k hk => by simp [hb k hk]) hs
theorem snx_n {I : LI} {i j : Nat} (hb : ∀ k, k < 3 → nxok I i j k = false) : snx I i j = none := ffst_n (fun k hk => by simp [hb k hk])
theorem tsa_att {I : LI} {T : Nat → Nat → X4} {i j : Nat} (he : ¬ (i = iN I ∧ j = iM I)) : ∀ {k : Nat}, (tsa I T i j k).2.2.1 ≠ 0 → ∃ st, st < k ∧ can I st i j = true ∧ cst I st i j + (T (i + di st) (j + dj st)).1 = (tsa I T i j k).1
  | 0, h => absurd (if_neg he) h
  | k + 1, h => by
    have e4 : tsa I T i j (k + 1) = ts I T i j k (tsa I T i j k) := rfl
    rw [e4] at h ⊢
    unfold ts at h ⊢
    by_cases hc : can I k i j = true
    · rw [if_pos hc] at h ⊢
      by_cases ht : (T (i + di k) (j + dj k)).2.2.1 = 0
      · unfold tk at h ⊢
        rw [if_pos ht] at h ⊢
        obtain ⟨st, a, b, c⟩ := tsa_att he h
        exact ⟨st, by omega, b, c⟩
      · unfold tk
        rw [if_neg ht]
        show ∃ st, st < k + 1 ∧ can I st i j = true ∧ cst I st i j + (T (i + di st) (j + dj st)).1 = (if (tsa I T i j k).2.2.1 = 0 ∨ cst I k i j + (T (i + di k) (j + dj k)).1 < (tsa I T i j k).1 then cst I k i j + (T (i + di k) (j + dj k)).1 else (tsa I T i j k).1)
        by_cases hx : (tsa I T i j k).2.2.1 = 0 ∨ cst I k i j + (T (i + di k) (j + dj k)).1 < (tsa I T i j k).1
        · rw [if_pos hx]; exact ⟨k, by omega, hc, rfl⟩
        · rw [if_neg hx]
          obtain ⟨st, a, b, c⟩ := tsa_att he (k := k) (fun q => hx (Or.inl q))
          exact ⟨st, by omega, b, c⟩
    · rw [if_neg hc] at h ⊢
      obtain ⟨st, a, b, c⟩ := tsa_att he h
      exact ⟨st, by omega, b, c⟩
theorem snx_end {I : LI} {i j : Nat} (he : i = iN I ∧ j = iM I) : snx I i j = none := snx_n (fun k hk => by unfold nxok; rw [end_can hk he]; rfl)
theorem snx_ne {I : LI} (hB : LB I) (hL : hasL I) {i j : Nat} (hd : dmn I i j) (he : ¬ (i = iN I ∧ j = iM I)) : snx I i j ≠ none := by
  intro h
  have hl := dmn_le hd
  have hr := TT_rec hB hl.1 hl.2
  obtain ⟨st, a, b, c⟩ := tsa_att he (k := 3) (by rw [← hr]; exact TT_d hB hL hd)
  have := ffst_all h st a
  rw [← hr] at c
  simp [nxok, b, c] at this
/-- the way of LEAST: where one is after k steps, which step is the k-th -/
def pth (I : LI) : Nat → Nat × Nat
  | 0 => (0, 0)
  | k + 1 => match snx I (pth I k).1 (pth I k).2 with
    | some st => ((pth I k).1 + di st, (pth I k).2 + dj st)
    | none => pth I k
def sta (I : LI) (k : Nat) : Nat := (snx I (pth I k).1 (pth I k).2).getD 0
def tln (I : LI) : Nat := (ffst (fun k => (snx I (pth I k).1 (pth I k).2).isSome) 21).getD 21
def fo (I : LI) (y : Nat) : Nat → Option Nat
  | 0 => none
  | k + 1 => if (fo I y k).isNone ∧ (pth I (k + 1)).2 = y + 1 then some ((pth I (k + 1)).1 - 1) else fo I y k
def ho (I : LI) (y : Nat) : Nat → Nat
  | 0 => 0
  | k + 1 => ho I y k + (if (pth I (k + 1)).2 = y + 1 then 1 else 0)
theorem pth_s {I : LI} {k st : Nat} (h : snx I (pth I k).1 (pth I k).2 = some st) : pth I (k + 1) = ((pth I k).1 + di st, (pth I k).2 + dj st) := by
  show (match snx I (pth I k).1 (pth I k).2 with
    | some st => ((pth I k).1 + di st, (pth I k).2 + dj st)
    | none => pth I k) = _
  rw [h]
theorem pth_d {I : LI} : ∀ (k : Nat), dmn I (pth I k).1 (pth I k).2
  | 0 => Or.inr ⟨rfl, rfl⟩
  | k + 1 => by
    cases h : snx I (pth I k).1 (pth I k).2 with
    | some st =>
      rw [pth_s h]
      have hs := snx_s h
      exact dmn_d hs.1 (pth_d k) hs.2.1
    | none =>
      have e : pth I (k + 1) = pth I k := by
        show (match snx I (pth I k).1 (pth I k).2 with
          | some st => ((pth I k).1 + di st, (pth I k).2 + dj st)
          | none => pth I k) = _
        rw [h]
      rw [e]; exact pth_d k
theorem pth_sum {I : LI} : ∀ {k : Nat}, (∀ x, x < k → snx I (pth I x).1 (pth I x).2 ≠ none) → k ≤ (pth I k).1 + (pth I k).2
  | 0, _ => Nat.zero_le _
  | k + 1, h => by
    have h1 := pth_sum (k := k) (fun x hx => h x (by omega))
    cases hs : snx I (pth I k).1 (pth I k).2 with
    | some st => rw [pth_s hs]; have := dij (st := st); show k + 1 ≤ _ + di st + (_ + dj st); omega
    | none => exact absurd hs (h k (by omega))
theorem tln_at {I : LI} {k : Nat} (hk : k < 21) (h : ∀ x, x < k → snx I (pth I x).1 (pth I x).2 ≠ none) (hn : snx I (pth I k).1 (pth I k).2 = none) : tln I = k := by
  unfold tln
  rw [ffst_s (j := k) (by simp [hn]) (fun x hx => by have := h x hx; cases hq : snx I (pth I x).1 (pth I x).2 with | none => exact absurd hq this | some st => rfl) hk]
  rfl
/-- within 20 steps the end is reached -/
theorem pth_end {I : LI} (hB : LB I) {k : Nat} (h : ∀ x, x < k → snx I (pth I x).1 (pth I x).2 ≠ none) : k ≤ 20 := by
  have h1 := pth_sum h
  have h2 := dmn_le (pth_d (I := I) k)
  have := hB.1
  have := hB.2.1
  omega
end
section
set_option maxHeartbeats 4000000 in
set_option maxRecDepth 100000 in
theorem c_leastAt (l : Launch) (G : GG) {σ : Mem} {I : LI} {i j : Nat} (hB : LB I) (hM : LM σ I) (hi : i ≤ iN I) (hj : j ≤ iM I) (hT : ∀ st, st < 3 → can I st i j = true → σ (94 + 10 * 0 + (i + di st)) (j + dj st) = nI (TT I (i + di st) (j + dj st)).1 ∧ (TT I (i + di st) (j + dj st)).2.2.1 ≠ 0) : Ci l G yX1_leastAt cX1_leastAt 7 (some .int) 2 48 [.ref (gad G 85), .int (nI i), .int (nI j)] σ (fun r τ => r = lres (TT I i j) ∧ τ = σ) := by
  refine Ci.of (own := RX1) (by decide) rfl (Nat.le_of_ble_eq_true rfl) (fun p e s m args below meth c ls H locs X hl hh => ?_)
  have hb1 := hB.1
  have hb2 := hB.2.1
  have lp : ∀ (k st : Nat) (x : Int32), x = lres (tsa I (TT I) i j st) → 3 - st = k → st ≤ 3 → ∀ (ls : Array Slot) (H : Heap) (locs : List Loc), lv_has ls 7 [(4, .int (nI st)), (3, .int x), (0, .ref (gad G 85)), (1, .int (nI i)), (2, .int (nI j))] → HH G s σ H locs → WI l G p e s m args below meth c 2 48 (fun r τ => r = lres (TT I i j) ∧ τ = σ) H locs (F0 m 19 ls []) := by
    intro km
    induction km using Nat.strongRecOn with
    | ind km ih =>
      intro st x hx hk hst ls H locs hl hh
      have hts := tsa_b hB hi hj hst
      refine lv_iload X.x X.b dX1_leastAt_19 (lv_at hl 0 rfl) ?_
      refine lv_iconst (v := nI 3) X.x X.b dX1_leastAt_21 (by decide) ?_
      refine lv_icmp_ge (tgt := 95) X.x X.b dX1_leastAt_22 (by decide) (fun c_1 => ?_) (fun c_1 => ?_)
      · have c_1 : 3 ≤ st := (nI_leI (a := 3) (b := st) (by omega) (by omega)).mp c_1
        refine lv_iload_n X.x X.b dX1_leastAt_95 rfl (lv_at hl 1 rfl) ?_
        exact f_iret X hh ⟨by obtain rfl : st = 3 := (by omega); rw [hx, TT_rec hB hi hj], rfl⟩ dX1_leastAt_96
      · have c_1 : ¬ 3 ≤ st := fun q9 => c_1 ((nI_leI (a := 3) (b := st) (by omega) (by omega)).mpr q9)
        refine lv_aload_n X.x X.b dX1_leastAt_25 rfl (lv_at hl 2 rfl) ?_
        refine lv_iload X.x X.b dX1_leastAt_26 (lv_at hl 0 rfl) ?_
        refine lv_iload_n X.x X.b dX1_leastAt_28 rfl (lv_at hl 3 rfl) ?_
        refine lv_iload_n X.x X.b dX1_leastAt_29 rfl (lv_at hl 4 rfl) ?_
        refine f_calli X hh (c_canStep l G (st := st) (i := i) (j := j) hB hM (by omega) (by omega) (by omega)) mf_yX1_canStep ki_yX1_canStep kl_yX1_canStep km_X1_98 (sh_85 G _) (by decide) rfl rfl hl.1 [] rfl (Nat.le_of_ble_eq_true rfl) ⟨by decide, by decide⟩ ⟨Nat.zero_le _, Nat.zero_le _⟩ dX1_leastAt_30 (fun r τ H locs hq hh => ?_)
        obtain ⟨rfl, hτ⟩ := hq
        rw [hτ] at hh
        clear hτ
        by_cases c_2 : can I st i j = true
        · rw [show (if can I st i j = true then (1 : Int32) else 0) = 1 from if_pos c_2]
          have hnx := can_next (by omega) c_2 hi hj
          have hT9 := hT st (by omega) c_2
          have hb9 := TT_b hB hnx.1 hnx.2
          have hc9 := cst_le hB (by omega) c_2 hi hj
          refine lv_if_eq (tgt := 89) X.x X.b dX1_leastAt_33 (by decide) (fun h9 => absurd h9 (by decide)) (fun _ => ?_)
          refine lv_aload_n X.x X.b dX1_leastAt_36 rfl (lv_at hl 2 rfl) ?_
          refine f_get X hh (v := .ref (gad G 90)) (sh_85 G _) (by decide) rfl in_X1 3 (by decide) kf_X1_29 rfl dX1_leastAt_37 ?_
          refine lv_iload_n X.x X.b dX1_leastAt_40 rfl (lv_at hl 3 rfl) ?_
          refine f_get1 X hh dX1_leastAt_41 ?_
          refine lv_iload X.x X.b dX1_leastAt_44 (lv_at hl 0 rfl) ?_
          refine f_ti1 X hh (j := st) rfl (by omega) (v := .int (nI (di st))) (sOn_di (by omega)) dX1_leastAt_46 ?_
          refine f_iadd X (z := nI (i + di st)) (nI_add i (di st)) dX1_leastAt_47 ?_
          refine f_aald X hh (j := i + di st) 4 (sh_90 G _) rfl rfl (by decide) rfl (by omega) (by decide) dX1_leastAt_48 ?_
          refine lv_iload_n X.x X.b dX1_leastAt_49 rfl (lv_at hl 4 rfl) ?_
          refine f_get2 X hh dX1_leastAt_50 ?_
          refine lv_iload X.x X.b dX1_leastAt_53 (lv_at hl 0 rfl) ?_
          refine f_ti2 X hh (j := st) rfl (by omega) (v := .int (nI (dj st))) (nOn_dj (by omega)) dX1_leastAt_55 ?_
          refine f_iadd X (z := nI (j + dj st)) (nI_add j (dj st)) dX1_leastAt_56 ?_
          refine f_ialdx X hh (j := j + dj st) (y := nI ((TT I (i + di st) (j + dj st)).1)) (sh_in G (q := 0) (i := i + di st) (by omega) (by omega) _) (by omega) rfl (by omega) (by decide) hT9.1 dX1_leastAt_57 ?_
          refine lv_istore (lv' := [(5, .int (nI ((TT I (i + di st) (j + dj st)).1))), (4, .int (nI st)), (3, .int x), (0, .ref (gad G 85)), (1, .int (nI i)), (2, .int (nI j))]) X.x X.b dX1_leastAt_58 hl (by decide) rfl (fun ls hl => ?_)
          refine lv_aload_n X.x X.b dX1_leastAt_60 rfl (lv_at hl 3 rfl) ?_
          refine lv_iload X.x X.b dX1_leastAt_61 (lv_at hl 1 rfl) ?_
          refine lv_iload_n X.x X.b dX1_leastAt_63 rfl (lv_at hl 4 rfl) ?_
          refine lv_iload_n X.x X.b dX1_leastAt_64 rfl (lv_at hl 5 rfl) ?_
          refine f_calli X hh (c_stepCost l G (st := st) (i := i) (j := j) hB hM (by omega) c_2 (by omega) (by omega)) mf_yX1_stepCost ki_yX1_stepCost kl_yX1_stepCost km_X1_101 (sh_85 G _) (by decide) rfl rfl hl.1 [] rfl (Nat.le_of_ble_eq_true rfl) ⟨by decide, by decide⟩ ⟨Nat.zero_le _, Nat.zero_le _⟩ dX1_leastAt_65 (fun r τ H locs hq hh => ?_)
          obtain ⟨rfl, hτ⟩ := hq
          rw [hτ] at hh
          clear hτ
          refine lv_iload X.x X.b dX1_leastAt_68 (lv_at hl 0 rfl) ?_
          refine f_iadd X (z := nI (cst I st i j + (TT I (i + di st) (j + dj st)).1)) (nI_add (cst I st i j) ((TT I (i + di st) (j + dj st)).1)) dX1_leastAt_70 ?_
          refine lv_istore (lv' := [(6, .int (nI (cst I st i j + (TT I (i + di st) (j + dj st)).1))), (5, .int (nI ((TT I (i + di st) (j + dj st)).1))), (4, .int (nI st)), (3, .int x), (0, .ref (gad G 85)), (1, .int (nI i)), (2, .int (nI j))]) X.x X.b dX1_leastAt_71 hl (by decide) rfl (fun ls hl => ?_)
          refine lv_iload X.x X.b dX1_leastAt_73 (lv_at hl 0 rfl) ?_
          refine lv_iload_n X.x X.b dX1_leastAt_75 rfl (lv_at hl 3 rfl) ?_
          refine f_ncalli X hh (c_isCheaper l G (nI (cst I st i j + (TT I (i + di st) (j + dj st)).1)) x) mf_yX4_isCheaper ks_yX4_isCheaper X.2.2.2.2.2.2.2.2.1 rfl hl.1 [] rfl (Nat.le_of_ble_eq_true rfl) ⟨by decide, by decide⟩ ⟨Nat.zero_le _, Nat.zero_le _⟩ dX1_leastAt_76 (fun r τ H locs hq hh => ?_)
          obtain ⟨rfl, hτ⟩ := hq
          rw [hτ] at hh
          clear hτ
          by_cases c_4 : nI (cst I st i j + (TT I (i + di st) (j + dj st)).1) ≠ -6 ∧ (x = -6 ∨ nI (cst I st i j + (TT I (i + di st) (j + dj st)).1) < x)
          · rw [show (if nI (cst I st i j + (TT I (i + di st) (j + dj st)).1) ≠ -6 ∧ (x = -6 ∨ nI (cst I st i j + (TT I (i + di st) (j + dj st)).1) < x) then (1 : Int32) else 0) = 1 from if_pos c_4]
            refine lv_if_eq (tgt := 87) X.x X.b dX1_leastAt_79 (by decide) (fun h9 => absurd h9 (by decide)) (fun _ => ?_)
            refine lv_iload X.x X.b dX1_leastAt_82 (lv_at hl 0 rfl) ?_
            refine lv_goto (tgt := 88) X.x X.b dX1_leastAt_84 (by decide) ?_
            refine lv_istore_n (lv' := [(3, .int (nI (cst I st i j + (TT I (i + di st) (j + dj st)).1))), (6, .int (nI (cst I st i j + (TT I (i + di st) (j + dj st)).1))), (5, .int (nI ((TT I (i + di st) (j + dj st)).1))), (4, .int (nI st)), (0, .ref (gad G 85)), (1, .int (nI i)), (2, .int (nI j))]) X.x X.b dX1_leastAt_88 rfl hl (by decide) rfl (fun ls hl => ?_)
            refine lv_iinc (v := nI (st + 1)) (lv' := [(4, .int (nI (st + 1))), (3, .int (nI (cst I st i j + (TT I (i + di st) (j + dj st)).1))), (6, .int (nI (cst I st i j + (TT I (i + di st) (j + dj st)).1))), (5, .int (nI ((TT I (i + di st) (j + dj st)).1))), (0, .ref (gad G 85)), (1, .int (nI i)), (2, .int (nI j))]) X.x X.b dX1_leastAt_89 hl (k := 3) rfl (nI_1 st) (by decide) rfl (fun ls hl => ?_)
            refine lv_goto (tgt := 19) X.x X.b dX1_leastAt_92 (by decide) ?_
            refine ih (3 - (st + 1)) (by omega) (st + 1) (nI (cst I st i j + (TT I (i + di st) (j + dj st)).1)) ?_ rfl (by omega) ls H locs (lv_sub hl [0, 1, 4, 5, 6] rfl) hh
            show _ = lres (ts I (TT I) i j st (tsa I (TT I) i j st))
            unfold ts
            rw [if_pos c_2, ← lres_tk hT9.2 (by omega) (by omega), ← hx, if_pos c_4]
          · rw [show (if nI (cst I st i j + (TT I (i + di st) (j + dj st)).1) ≠ -6 ∧ (x = -6 ∨ nI (cst I st i j + (TT I (i + di st) (j + dj st)).1) < x) then (1 : Int32) else 0) = 0 from if_neg c_4]
            refine lv_if_eq (tgt := 87) X.x X.b dX1_leastAt_79 (by decide) (fun _ => ?_) (fun h9 => absurd (show _ by decide) h9)
            refine lv_iload_n X.x X.b dX1_leastAt_87 rfl (lv_at hl 3 rfl) ?_
            refine lv_istore_n (lv' := [(3, .int x), (6, .int (nI (cst I st i j + (TT I (i + di st) (j + dj st)).1))), (5, .int (nI ((TT I (i + di st) (j + dj st)).1))), (4, .int (nI st)), (0, .ref (gad G 85)), (1, .int (nI i)), (2, .int (nI j))]) X.x X.b dX1_leastAt_88 rfl hl (by decide) rfl (fun ls hl => ?_)
            refine lv_iinc (v := nI (st + 1)) (lv' := [(4, .int (nI (st + 1))), (3, .int x), (6, .int (nI (cst I st i j + (TT I (i + di st) (j + dj st)).1))), (5, .int (nI ((TT I (i + di st) (j + dj st)).1))), (0, .ref (gad G 85)), (1, .int (nI i)), (2, .int (nI j))]) X.x X.b dX1_leastAt_89 hl (k := 3) rfl (nI_1 st) (by decide) rfl (fun ls hl => ?_)
            refine lv_goto (tgt := 19) X.x X.b dX1_leastAt_92 (by decide) ?_
            refine ih (3 - (st + 1)) (by omega) (st + 1) x ?_ rfl (by omega) ls H locs (lv_sub hl [0, 1, 4, 5, 6] rfl) hh
            show _ = lres (ts I (TT I) i j st (tsa I (TT I) i j st))
            unfold ts
            rw [if_pos c_2, ← lres_tk hT9.2 (by omega) (by omega), ← hx, if_neg c_4]
        · rw [show (if can I st i j = true then (1 : Int32) else 0) = 0 from if_neg c_2]
          refine lv_if_eq (tgt := 89) X.x X.b dX1_leastAt_33 (by decide) (fun _ => ?_) (fun h9 => absurd (show _ by decide) h9)
          refine lv_iinc (v := nI (st + 1)) (lv' := [(4, .int (nI (st + 1))), (3, .int x), (0, .ref (gad G 85)), (1, .int (nI i)), (2, .int (nI j))]) X.x X.b dX1_leastAt_89 hl (k := 0) rfl (nI_1 st) (by decide) rfl (fun ls hl => ?_)
          refine lv_goto (tgt := 19) X.x X.b dX1_leastAt_92 (by decide) ?_
          refine ih (3 - (st + 1)) (by omega) (st + 1) x ?_ rfl (by omega) ls H locs (lv_sub hl [0, 1, 2, 3, 4] rfl) hh
          show _ = lres (ts I (TT I) i j st (tsa I (TT I) i j st))
          unfold ts
          rw [if_neg c_2]; exact hx
  have hl : lv_has ls 7 [(0, .ref (gad G 85)), (1, .int (nI i)), (2, .int (nI j))] := hl
  refine lv_aload_n X.x X.b dX1_leastAt_0 rfl (lv_at hl 0 rfl) ?_
  refine lv_iload_n X.x X.b dX1_leastAt_1 rfl (lv_at hl 1 rfl) ?_
  refine lv_iload_n X.x X.b dX1_leastAt_2 rfl (lv_at hl 2 rfl) ?_
  refine f_calli X hh (c_isEnd l G (i := i) (j := j) hB hM (by omega) (by omega)) mf_yX1_isEnd ki_yX1_isEnd kl_yX1_isEnd km_X1_111 (sh_85 G _) (by decide) rfl rfl hl.1 [] rfl (Nat.le_of_ble_eq_true rfl) ⟨by decide, by decide⟩ ⟨Nat.zero_le _, Nat.zero_le _⟩ dX1_leastAt_3 (fun r τ H locs hq hh => ?_)
  obtain ⟨rfl, hτ⟩ := hq
  rw [hτ] at hh
  clear hτ
  by_cases c_8 : i = iN I ∧ j = iM I
  · rw [show (if i = iN I ∧ j = iM I then (1 : Int32) else 0) = 1 from if_pos c_8]
    refine lv_if_eq (tgt := 13) X.x X.b dX1_leastAt_6 (by decide) (fun h9 => absurd h9 (by decide)) (fun _ => ?_)
    refine lv_iconst (v := nI 0) X.x X.b dX1_leastAt_9 (by decide) ?_
    refine lv_goto (tgt := 15) X.x X.b dX1_leastAt_10 (by decide) ?_
    refine lv_istore_n (lv' := [(3, .int (nI 0)), (0, .ref (gad G 85)), (1, .int (nI i)), (2, .int (nI j))]) X.x X.b dX1_leastAt_15 rfl hl (by decide) rfl (fun ls hl => ?_)
    refine lv_iconst (v := nI 0) X.x X.b dX1_leastAt_16 (by decide) ?_
    refine lv_istore (lv' := [(4, .int (nI 0)), (3, .int (nI 0)), (0, .ref (gad G 85)), (1, .int (nI i)), (2, .int (nI j))]) X.x X.b dX1_leastAt_17 hl (by decide) rfl (fun ls hl => ?_)
    exact lp 3 0 (nI 0) (by show _ = lres (te I i j); unfold lres te; simp only [if_pos c_8]; rfl) rfl (by omega) ls H locs (lv_sub hl [0, 1, 2, 3, 4] rfl) hh
  · rw [show (if i = iN I ∧ j = iM I then (1 : Int32) else 0) = 0 from if_neg c_8]
    refine lv_if_eq (tgt := 13) X.x X.b dX1_leastAt_6 (by decide) (fun _ => ?_) (fun h9 => absurd (show _ by decide) h9)
    refine lv_bipush (v := (-6)) X.x X.b dX1_leastAt_13 (by decide) ?_
    refine lv_istore_n (lv' := [(3, .int ((-6))), (0, .ref (gad G 85)), (1, .int (nI i)), (2, .int (nI j))]) X.x X.b dX1_leastAt_15 rfl hl (by decide) rfl (fun ls hl => ?_)
    refine lv_iconst (v := nI 0) X.x X.b dX1_leastAt_16 (by decide) ?_
    refine lv_istore (lv' := [(4, .int (nI 0)), (3, .int ((-6))), (0, .ref (gad G 85)), (1, .int (nI i)), (2, .int (nI j))]) X.x X.b dX1_leastAt_17 hl (by decide) rfl (fun ls hl => ?_)
    exact lp 3 0 ((-6)) (by show _ = lres (te I i j); unfold lres te; simp only [if_neg c_8]; rfl) rfl (by omega) ls H locs (lv_sub hl [0, 1, 2, 3, 4] rfl) hh
def WT (σ : Mem) (I : LI) : Prop := ∀ a b, dmn I a b → σ (94 + 10 * 0 + a) b = nI (TT I a b).1
/-- done behind (i, j) -/
def WP (σ : Mem) (I : LI) (i j : Nat) : Prop := ∀ a b, 1 ≤ a → a ≤ iN I → 1 ≤ b → b ≤ iM I → (i < a ∨ (a = i ∧ j < b)) → σ (94 + 10 * 0 + a) b = nI (TT I a b).1
def Frt (lo hi : Nat) (σ τ : Mem) : Prop := ∀ k, (k < lo ∨ hi ≤ k) → τ k = σ k
theorem Frt.rf {lo hi : Nat} {σ : Mem} : Frt lo hi σ σ := fun _ _ => rfl
theorem Frt.tr {lo hi : Nat} {σ τ υ : Mem} (h : Frt lo hi σ τ) (g : Frt lo hi τ υ) : Frt lo hi σ υ := fun k a => (g k a).trans (h k a)
theorem Frt.set {lo hi k f : Nat} {σ τ : Mem} {x : Int32} (h : Frt lo hi σ τ) (h1 : lo ≤ k) (h2 : k < hi) : Frt lo hi σ (mset τ k f x) := fun j hj => by rw [mset_n (by omega)]; exact h j hj
theorem LM.kt {σ τ : Mem} {I : LI} {lo hi : Nat} (h : LM σ I) (f : Frt lo hi σ τ) (h1 : 87 ≤ lo) : LM τ I := h.keep (fun k hk => f k (by omega))
set_option maxHeartbeats 4000000 in
set_option maxRecDepth 100000 in
theorem c_weigh (l : Launch) (G : GG) {σ : Mem} {I : LI} (hB : LB I) (hL : hasL I) (hM : LM σ I) : Cv l G yX1_weigh cX1_weigh 3 3 74 [.ref (gad G 85)] σ (fun τ => LM τ I ∧ WT τ I ∧ Frt 94 104 σ τ) := by
  refine Cv.of (own := RX1) (by decide) rfl (Nat.le_of_ble_eq_true rfl) (fun p e s m args below meth c ls H locs X hl hh => ?_)
  have hb1 := hB.1
  have hb2 := hB.2.1
  have lpo : ∀ (k i : Nat), i = k → i ≤ iN I → ∀ (υ : Mem), (∀ a b, 1 ≤ a → a ≤ iN I → 1 ≤ b → b ≤ iM I → i < a → υ (94 + 10 * 0 + a) b = nI (TT I a b).1) → Frt 94 104 σ υ → ∀ (ls : Array Slot) (H : Heap) (locs : List Loc), lv_has ls 3 [(1, .int (nI i)), (0, .ref (gad G 85))] → HH G s υ H locs → WV l G p e s m args below meth c 3 74 (fun τ => LM τ I ∧ WT τ I ∧ Frt 94 104 σ τ) H locs (F0 m 8 ls []) := by
    intro km
    induction km using Nat.strongRecOn with
    | ind km ih =>
      intro i hk hi υ hv hf ls H locs hl hh
      rcases Nat.eq_zero_or_pos i with h0 | h0
      · subst h0
        refine lv_iload_n X.x X.b dX1_weigh_8 rfl (lv_at hl 0 rfl) ?_
        refine lv_iconst (v := nI 1) X.x X.b dX1_weigh_9 (by decide) ?_
        refine lv_icmp_lt (tgt := 52) X.x X.b dX1_weigh_10 (by decide) (fun _ => ?_) (fun h9 => absurd (show _ by decide) h9)
        refine lv_aload_n X.x X.b dX1_weigh_52 rfl (lv_at hl 1 rfl) ?_
        refine f_get X hh (v := .ref (gad G 90)) (sh_85 G _) (by decide) rfl in_X1 3 (by decide) kf_X1_29 rfl dX1_weigh_53 ?_
        refine lv_iconst (v := nI 0) X.x X.b dX1_weigh_56 (by decide) ?_
        refine f_aald X hh (j := 0) 4 (sh_90 G _) rfl rfl (by decide) rfl (by omega) (by decide) dX1_weigh_57 ?_
        refine lv_iconst (v := nI 0) X.x X.b dX1_weigh_58 (by decide) ?_
        refine lv_aload_n X.x X.b dX1_weigh_59 rfl (lv_at hl 1 rfl) ?_
        refine lv_iconst (v := nI 0) X.x X.b dX1_weigh_60 (by decide) ?_
        refine lv_iconst (v := nI 0) X.x X.b dX1_weigh_61 (by decide) ?_
        have hT9 : ∀ st, st < 3 → can I st 0 0 = true → υ (94 + 10 * 0 + (0 + di st)) (0 + dj st) = nI (TT I (0 + di st) (0 + dj st)).1 ∧ (TT I (0 + di st) (0 + dj st)).2.2.1 ≠ 0 := fun st hs hc => by
          have hn := dmn_next hs (Or.inr ⟨rfl, rfl⟩) hc
          exact ⟨hv _ _ hn.1 hn.2.1 hn.2.2.1 hn.2.2.2 (by omega), TT_p hB hn.1 hn.2.1 hn.2.2.1 hn.2.2.2⟩
        refine f_calli X hh (c_leastAt l G (i := 0) (j := 0) hB (hM.kt hf (by decide)) (by omega) (by omega) hT9) mf_yX1_leastAt ki_yX1_leastAt kl_yX1_leastAt km_X1_144 (sh_85 G _) (by decide) rfl rfl hl.1 [.int (nI 0), .ref (gad G (94 + 10 * 0 + 0))] rfl (Nat.le_of_ble_eq_true rfl) ⟨by decide, by decide⟩ ⟨Nat.zero_le _, Nat.zero_le _⟩ dX1_weigh_62 (fun r τ H locs hq hh => ?_)
        obtain ⟨rfl, hτ⟩ := hq
        rw [hτ] at hh
        clear hτ
        refine f_iast X hh (j := 0) (fun g9 => sh_in G (q := 0) (i := 0) (by omega) (by omega) g9) (by omega) rfl (by omega) (by decide) dX1_weigh_65 (fun H locs hh => ?_)
        refine f_vret X hh ?_ dX1_weigh_66
        refine ⟨hM.kt (hf.set (by omega) (by omega)) (by decide), fun a b hd => ?_, hf.set (by omega) (by omega)⟩
        rcases hd with ⟨h1, h2, h3, h4⟩ | ⟨h1, h2⟩
        · rw [mset_nn (by omega)]; exact hv a b h1 h2 h3 h4 (by omega)
        · subst h1; subst h2; rw [mset_ss, lres_p (TT_d hB hL (Or.inr ⟨rfl, rfl⟩))]
      · obtain ⟨i, rfl⟩ : ∃ z, i = z + 1 := ⟨i - 1, by omega⟩
        refine lv_iload_n X.x X.b dX1_weigh_8 rfl (lv_at hl 0 rfl) ?_
        refine lv_iconst (v := nI 1) X.x X.b dX1_weigh_9 (by decide) ?_
        refine lv_icmp_lt (tgt := 52) X.x X.b dX1_weigh_10 (by decide) (fun h9 => absurd h9 (nI_nlt (by omega) (by omega))) (fun _ => ?_)
        refine lv_aload_n X.x X.b dX1_weigh_13 rfl (lv_at hl 1 rfl) ?_
        refine f_get X hh (v := .ref (gad G 66)) (sh_85 G _) (by decide) rfl in_X1 1 (by decide) kf_X1_20 rfl dX1_weigh_14 ?_
        refine f_geti X hh (x := nI (iM I)) (sh_66 G _) (by decide) rfl in_X3 3 (by decide) kf_X1_77 rfl (hM.kt hf (by decide)).2.1.1 dX1_weigh_17 ?_
        refine lv_istore_n (lv' := [(2, .int (nI (iM I))), (1, .int (nI (i + 1))), (0, .ref (gad G 85))]) X.x X.b dX1_weigh_20 rfl hl (by decide) rfl (fun ls hl => ?_)
        have lpi : ∀ (k j : Nat), j = k → j ≤ iM I → ∀ (ξ : Mem), WP ξ I (i + 1) j → Frt 94 104 σ ξ → ∀ (ls : Array Slot) (H : Heap) (locs : List Loc), lv_has ls 3 [(2, .int (nI j)), (1, .int (nI (i + 1))), (0, .ref (gad G 85))] → HH G s ξ H locs → WV l G p e s m args below meth c 3 74 (fun τ => LM τ I ∧ WT τ I ∧ Frt 94 104 σ τ) H locs (F0 m 21 ls []) := by
          intro km
          induction km using Nat.strongRecOn with
          | ind km ih2 =>
            intro j hk2 hj ξ hv2 hf2 ls H locs hl hh
            rcases Nat.eq_zero_or_pos j with h0 | h0
            · subst h0
              refine lv_iload_n X.x X.b dX1_weigh_21 rfl (lv_at hl 0 rfl) ?_
              refine lv_iconst (v := nI 1) X.x X.b dX1_weigh_22 (by decide) ?_
              refine lv_icmp_lt (tgt := 46) X.x X.b dX1_weigh_23 (by decide) (fun _ => ?_) (fun h9 => absurd (show _ by decide) h9)
              refine lv_iinc (v := nI i) (lv' := [(1, .int (nI i)), (2, .int (nI 0)), (0, .ref (gad G 85))]) X.x X.b dX1_weigh_46 hl (k := 1) rfl (pk_m1 i) (by decide) rfl (fun ls hl => ?_)
              refine lv_goto (tgt := 8) X.x X.b dX1_weigh_49 (by decide) ?_
              refine ih i (by omega) i rfl (by omega) _ ?_ hf2 ls H locs (lv_sub hl [0, 2] rfl) hh
              intro a b h1 h2 h3 h4 h5
              exact hv2 a b h1 h2 h3 h4 (by omega)
            · obtain ⟨j, rfl⟩ : ∃ z, j = z + 1 := ⟨j - 1, by omega⟩
              refine lv_iload_n X.x X.b dX1_weigh_21 rfl (lv_at hl 0 rfl) ?_
              refine lv_iconst (v := nI 1) X.x X.b dX1_weigh_22 (by decide) ?_
              refine lv_icmp_lt (tgt := 46) X.x X.b dX1_weigh_23 (by decide) (fun h9 => absurd h9 (nI_nlt (by omega) (by omega))) (fun _ => ?_)
              refine lv_aload_n X.x X.b dX1_weigh_26 rfl (lv_at hl 2 rfl) ?_
              refine f_get X hh (v := .ref (gad G 90)) (sh_85 G _) (by decide) rfl in_X1 3 (by decide) kf_X1_29 rfl dX1_weigh_27 ?_
              refine lv_iload_n X.x X.b dX1_weigh_30 rfl (lv_at hl 1 rfl) ?_
              refine f_aald X hh (j := i + 1) 4 (sh_90 G _) rfl rfl (by decide) rfl (by omega) (by decide) dX1_weigh_31 ?_
              refine lv_iload_n X.x X.b dX1_weigh_32 rfl (lv_at hl 0 rfl) ?_
              refine lv_aload_n X.x X.b dX1_weigh_33 rfl (lv_at hl 2 rfl) ?_
              refine lv_iload_n X.x X.b dX1_weigh_34 rfl (lv_at hl 1 rfl) ?_
              refine lv_iload_n X.x X.b dX1_weigh_35 rfl (lv_at hl 0 rfl) ?_
              have hT9 : ∀ st, st < 3 → can I st (i + 1) (j + 1) = true → ξ (94 + 10 * 0 + (i + 1 + di st)) (j + 1 + dj st) = nI (TT I (i + 1 + di st) (j + 1 + dj st)).1 ∧ (TT I (i + 1 + di st) (j + 1 + dj st)).2.2.1 ≠ 0 := fun st hs hc => by
                have hn := can_next hs hc (by omega) (by omega)
                have hd := dij (st := st)
                exact ⟨hv2 _ _ (by omega) hn.1 (by omega) hn.2 (by omega), TT_p hB (by omega) hn.1 (by omega) hn.2⟩
              refine f_calli X hh (c_leastAt l G (i := i + 1) (j := j + 1) hB (hM.kt hf2 (by decide)) (by omega) (by omega) hT9) mf_yX1_leastAt ki_yX1_leastAt kl_yX1_leastAt km_X1_144 (sh_85 G _) (by decide) rfl rfl hl.1 [.int (nI (j + 1)), .ref (gad G (94 + 10 * 0 + (i + 1)))] rfl (Nat.le_of_ble_eq_true rfl) ⟨by decide, by decide⟩ ⟨Nat.zero_le _, Nat.zero_le _⟩ dX1_weigh_36 (fun r τ H locs hq hh => ?_)
              obtain ⟨rfl, hτ⟩ := hq
              rw [hτ] at hh
              clear hτ
              refine f_iast X hh (j := j + 1) (fun g9 => sh_in G (q := 0) (i := i + 1) (by omega) (by omega) g9) (by omega) rfl (by omega) (by decide) dX1_weigh_39 (fun H locs hh => ?_)
              refine lv_iinc (v := nI j) (lv' := [(2, .int (nI j)), (1, .int (nI (i + 1))), (0, .ref (gad G 85))]) X.x X.b dX1_weigh_40 hl (k := 0) rfl (pk_m1 j) (by decide) rfl (fun ls hl => ?_)
              refine lv_goto (tgt := 21) X.x X.b dX1_weigh_43 (by decide) ?_
              refine ih2 j (by omega) j rfl (by omega) _ ?_ (hf2.set (by omega) (by omega)) ls H locs (lv_sub hl [0, 1, 2] rfl) hh
              intro a b h1 h2 h3 h4 h5
              by_cases e9 : a = i + 1 ∧ b = j + 1
              · rw [e9.1, e9.2, mset_ss, lres_p (TT_p hB (by omega) (by omega) (by omega) (by omega))]
              · rw [mset_nn (by omega)]; exact hv2 a b h1 h2 h3 h4 (by omega)
        refine lpi (iM I) (iM I) rfl (Nat.le_refl _) _ ?_ hf ls H locs (lv_sub hl [0, 1, 2] rfl) hh
        intro a b h1 h2 h3 h4 h5
        exact hv a b h1 h2 h3 h4 (by omega)
  have hl : lv_has ls 3 [(0, .ref (gad G 85))] := hl
  refine lv_aload_n X.x X.b dX1_weigh_0 rfl (lv_at hl 0 rfl) ?_
  refine f_get X hh (v := .ref (gad G 63)) (sh_85 G _) (by decide) rfl in_X1 0 (by decide) kf_X1_14 rfl dX1_weigh_1 ?_
  refine f_geti X hh (x := nI (iN I)) (sh_63 G _) (by decide) rfl in_X3 3 (by decide) kf_X1_77 rfl hM.1.1 dX1_weigh_4 ?_
  refine lv_istore_n (lv' := [(1, .int (nI (iN I))), (0, .ref (gad G 85))]) X.x X.b dX1_weigh_7 rfl hl (by decide) rfl (fun ls hl => ?_)
  exact lpo (iN I) (iN I) rfl (Nat.le_refl _) σ (fun a b h1 h2 h3 h4 h5 => absurd h5 (by omega)) Frt.rf ls H locs (lv_sub hl [0, 1] rfl) hh
end
section
/-! the loom: tally -/
theorem max_nI {a b : Nat} (ha : a < 2 ^ 31) (hb : b < 2 ^ 31) : (if nI a < nI b then nI b else nI a) = nI (if a < b then b else a) := by
  by_cases h : a < b
  · rw [if_pos (nI_lt h hb), if_pos h]
  · rw [if_neg (nI_nlt (by omega) ha), if_neg h]
theorem tsa_c {I : LI} {i j st : Nat} (hc : can I st i j = true) : tsa I (TT I) i j (st + 1) = tk (tsa I (TT I) i j st) (cst I st i j) (TT I (i + di st) (j + dj st)) := by
  show ts I (TT I) i j st (tsa I (TT I) i j st) = _
  unfold ts
  rw [if_pos hc]
theorem tsa_n {I : LI} {i j st : Nat} (hc : ¬ can I st i j = true) : tsa I (TT I) i j (st + 1) = tsa I (TT I) i j st := by
  show ts I (TT I) i j st (tsa I (TT I) i j st) = _
  unfold ts
  rw [if_neg hc]
theorem tsa_mo {I : LI} (hB : LB I) {i j st : Nat} (hs : st < 3) (hd : dmn I i j) (hc : can I st i j = true) : (tsa I (TT I) i j (st + 1)).2.1 = if (tsa I (TT I) i j st).2.1 < cst I st i j + (TT I (i + di st) (j + dj st)).2.1 then cst I st i j + (TT I (i + di st) (j + dj st)).2.1 else (tsa I (TT I) i j st).2.1 := by
  rw [tsa_c hc]
  exact mo_tk mo_z (TT_dn hB hs hd hc)
theorem tsa_wyS {I : LI} {i j st : Nat} (hc : can I st i j = true) : (tsa I (TT I) i j (st + 1)).2.2.1 = (tsa I (TT I) i j st).2.2.1 + (TT I (i + di st) (j + dj st)).2.2.1 := by
  rw [tsa_c hc, tk_wy]
theorem cla_n {I : LI} {i j c0 st : Nat} (hc : ¬ can I st i j = true) : cla I i j c0 (st + 1) = cla I i j c0 st := by
  show cla I i j c0 st + (if _ then _ else 0) = _
  rw [if_neg hc]; rfl
theorem cla_c {I : LI} {i j c0 st : Nat} (hc : can I st i j = true) (h : cst I st i j + (TT I (i + di st) (j + dj st)).1 = c0) : cla I i j c0 (st + 1) = cla I i j c0 st + (TT I (i + di st) (j + dj st)).2.2.2 := by
  show cla I i j c0 st + (if _ then (if _ then _ else 0) else 0) = _
  rw [if_pos hc, if_pos h]
theorem cla_d {I : LI} {i j c0 st : Nat} (h : ¬ cst I st i j + (TT I (i + di st) (j + dj st)).1 = c0) : cla I i j c0 (st + 1) = cla I i j c0 st := by
  show cla I i j c0 st + (if _ then (if _ then _ else 0) else 0) = _
  rw [if_neg h]; split <;> rfl
def GP (σ : Mem) (I : LI) (a b : Nat) : Prop := σ (94 + 10 * 1 + a) b = nI (TT I a b).2.1 ∧ σ (94 + 10 * 2 + a) b = nI (TT I a b).2.2.1 ∧ σ (94 + 10 * 3 + a) b = nI (TT I a b).2.2.2
def gset (σ : Mem) (I : LI) (i j : Nat) : Mem := mset (mset (mset σ (94 + 10 * 1 + i) j (nI (TT I i j).2.1)) (94 + 10 * 2 + i) j (nI (TT I i j).2.2.1)) (94 + 10 * 3 + i) j (nI (TT I i j).2.2.2)
theorem gset_s {σ : Mem} {I : LI} {i j : Nat} (hi : i < 10) : GP (gset σ I i j) I i j := by
  unfold gset
  refine ⟨?_, ?_, mset_ss⟩
  · rw [mset_n (by omega), mset_n (by omega), mset_ss]
  · rw [mset_n (by omega), mset_ss]
theorem gset_n {σ : Mem} {I : LI} {i j a b : Nat} (h : GP σ I a b) (hi : i < 10) (ha : a < 10) (hn : ¬ (a = i ∧ b = j)) : GP (gset σ I i j) I a b := by
  unfold gset
  obtain ⟨h1, h2, h3⟩ := h
  refine ⟨?_, ?_, ?_⟩
  · rw [mset_nn (by omega), mset_nn (by omega), mset_nn (by omega)]; exact h1
  · rw [mset_nn (by omega), mset_nn (by omega), mset_nn (by omega)]; exact h2
  · rw [mset_nn (by omega), mset_nn (by omega), mset_nn (by omega)]; exact h3
theorem gset_f {σ τ : Mem} {I : LI} {i j : Nat} (h : Frt 104 134 σ τ) (hi : i < 10) : Frt 104 134 σ (gset τ I i j) := ((h.set (by omega) (by omega)).set (by omega) (by omega)).set (by omega) (by omega)
def GT (σ : Mem) (I : LI) : Prop := ∀ a b, dmn I a b → GP σ I a b
theorem WT.kt {σ τ : Mem} {I : LI} (h : WT σ I) (f : Frt 104 134 σ τ) (hB : LB I) : WT τ I := fun a b hd => by
  have := dmn_le hd
  have := hB.1
  rw [f _ (by omega)]; exact h a b hd
set_option maxHeartbeats 4000000 in
set_option maxRecDepth 100000 in
theorem c_tallyPlace (l : Launch) (G : GG) {σ : Mem} {I : LI} {i j : Nat} (hB : LB I) (hL : hasL I) (hM : LM σ I) (hW : WT σ I) (hd : dmn I i j) (hP : ∀ st, st < 3 → can I st i j = true → GP σ I (i + di st) (j + dj st)) : Cv l G yX1_tallyPlace cX1_tallyPlace 10 2 48 [.ref (gad G 85), .int (nI i), .int (nI j)] σ (fun τ => τ = gset σ I i j) := by
  refine Cv.of (own := RX1) (by decide) rfl (Nat.le_of_ble_eq_true rfl) (fun p e s m args below meth c ls H locs X hl hh => ?_)
  have hb1 := hB.1
  have hb2 := hB.2.1
  have hi := (dmn_le hd).1
  have hj := (dmn_le hd).2
  have hbb := TT_b hB hi hj
  have lp : ∀ (k st : Nat), 3 - st = k → st ≤ 3 → ∀ (ls : Array Slot) (H : Heap) (locs : List Loc), lv_has ls 10 [(6, .int (nI st)), (5, .int (nI (cla I i j (TT I i j).1 st))), (4, .int (nI ((tsa I (TT I) i j st).2.2.1))), (3, .int (nI ((tsa I (TT I) i j st).2.1))), (0, .ref (gad G 85)), (1, .int (nI i)), (2, .int (nI j))] → HH G s σ H locs → WV l G p e s m args below meth c 2 48 (fun τ => τ = gset σ I i j) H locs (F0 m 25 ls []) := by
    intro km
    induction km using Nat.strongRecOn with
    | ind km ih =>
      intro st hk hst ls H locs hl hh
      have hts := tsa_b hB hi hj hst
      refine lv_iload X.x X.b dX1_tallyPlace_25 (lv_at hl 0 rfl) ?_
      refine lv_iconst (v := nI 3) X.x X.b dX1_tallyPlace_27 (by decide) ?_
      refine lv_icmp_ge (tgt := 150) X.x X.b dX1_tallyPlace_28 (by decide) (fun c_1 => ?_) (fun c_1 => ?_)
      · have c_1 : 3 ≤ st := (nI_leI (a := 3) (b := st) (by omega) (by omega)).mp c_1
        refine lv_aload_n X.x X.b dX1_tallyPlace_150 rfl (lv_at hl 4 rfl) ?_
        refine f_get X hh (v := .ref (gad G 91)) (sh_85 G _) (by decide) rfl in_X1 4 (by decide) kf_X1_32 rfl dX1_tallyPlace_151 ?_
        refine lv_iload_n X.x X.b dX1_tallyPlace_154 rfl (lv_at hl 5 rfl) ?_
        refine f_aald X hh (j := i) 4 (sh_91 G _) rfl rfl (by decide) rfl (by omega) (by decide) dX1_tallyPlace_155 ?_
        refine lv_iload_n X.x X.b dX1_tallyPlace_156 rfl (lv_at hl 6 rfl) ?_
        refine lv_iload_n X.x X.b dX1_tallyPlace_157 rfl (lv_at hl 3 rfl) ?_
        refine f_iast X hh (j := j) (fun g9 => sh_in G (q := 1) (i := i) (by omega) (by omega) g9) (by omega) rfl (by omega) (by decide) dX1_tallyPlace_158 (fun H locs hh => ?_)
        refine lv_aload_n X.x X.b dX1_tallyPlace_159 rfl (lv_at hl 4 rfl) ?_
        refine f_get X hh (v := .ref (gad G 92)) (sh_85 G _) (by decide) rfl in_X1 5 (by decide) kf_X1_35 rfl dX1_tallyPlace_160 ?_
        refine lv_iload_n X.x X.b dX1_tallyPlace_163 rfl (lv_at hl 5 rfl) ?_
        refine f_aald X hh (j := i) 4 (sh_92 G _) rfl rfl (by decide) rfl (by omega) (by decide) dX1_tallyPlace_164 ?_
        refine lv_iload_n X.x X.b dX1_tallyPlace_165 rfl (lv_at hl 6 rfl) ?_
        refine lv_iload X.x X.b dX1_tallyPlace_166 (lv_at hl 2 rfl) ?_
        refine f_iast X hh (j := j) (fun g9 => sh_in G (q := 2) (i := i) (by omega) (by omega) g9) (by omega) rfl (by omega) (by decide) dX1_tallyPlace_168 (fun H locs hh => ?_)
        refine lv_aload_n X.x X.b dX1_tallyPlace_169 rfl (lv_at hl 4 rfl) ?_
        refine f_get X hh (v := .ref (gad G 93)) (sh_85 G _) (by decide) rfl in_X1 6 (by decide) kf_X1_38 rfl dX1_tallyPlace_170 ?_
        refine lv_iload_n X.x X.b dX1_tallyPlace_173 rfl (lv_at hl 5 rfl) ?_
        refine f_aald X hh (j := i) 4 (sh_93 G _) rfl rfl (by decide) rfl (by omega) (by decide) dX1_tallyPlace_174 ?_
        refine lv_iload_n X.x X.b dX1_tallyPlace_175 rfl (lv_at hl 6 rfl) ?_
        refine lv_iload X.x X.b dX1_tallyPlace_176 (lv_at hl 1 rfl) ?_
        refine f_iast X hh (j := j) (fun g9 => sh_in G (q := 3) (i := i) (by omega) (by omega) g9) (by omega) rfl (by omega) (by decide) dX1_tallyPlace_178 (fun H locs hh => ?_)
        refine f_vret X hh ?_ dX1_tallyPlace_179
        obtain rfl : st = 3 := by omega
        unfold gset
        rw [← TT_rec hB hi hj, cla_fin hB hL hd]
      · have c_1 : ¬ 3 ≤ st := fun q9 => c_1 ((nI_leI (a := 3) (b := st) (by omega) (by omega)).mpr q9)
        refine lv_aload_n X.x X.b dX1_tallyPlace_31 rfl (lv_at hl 4 rfl) ?_
        refine lv_iload X.x X.b dX1_tallyPlace_32 (lv_at hl 0 rfl) ?_
        refine lv_iload_n X.x X.b dX1_tallyPlace_34 rfl (lv_at hl 5 rfl) ?_
        refine lv_iload_n X.x X.b dX1_tallyPlace_35 rfl (lv_at hl 6 rfl) ?_
        refine f_calli X hh (c_canStep l G (st := st) (i := i) (j := j) hB hM (by omega) (by omega) (by omega)) mf_yX1_canStep ki_yX1_canStep kl_yX1_canStep km_X1_98 (sh_85 G _) (by decide) rfl rfl hl.1 [] rfl (Nat.le_of_ble_eq_true rfl) ⟨by decide, by decide⟩ ⟨Nat.zero_le _, Nat.zero_le _⟩ dX1_tallyPlace_36 (fun r τ H locs hq hh => ?_)
        obtain ⟨rfl, hτ⟩ := hq
        rw [hτ] at hh
        clear hτ
        by_cases c_2 : can I st i j = true
        · rw [show (if can I st i j = true then (1 : Int32) else 0) = 1 from if_pos c_2]
          have hnx := can_next (by omega) c_2 hi hj
          have hP9 := hP st (by omega) c_2
          have hW9 := hW _ _ (dmn_d (by omega) hd c_2)
          have hb9 := TT_b hB hnx.1 hnx.2
          have hc9 := cst_le hB (by omega) c_2 hi hj
          refine lv_if_eq (tgt := 144) X.x X.b dX1_tallyPlace_39 (by decide) (fun h9 => absurd h9 (by decide)) (fun _ => ?_)
          refine lv_iload_n X.x X.b dX1_tallyPlace_42 rfl (lv_at hl 5 rfl) ?_
          refine f_get1 X hh dX1_tallyPlace_43 ?_
          refine lv_iload X.x X.b dX1_tallyPlace_46 (lv_at hl 0 rfl) ?_
          refine f_ti1 X hh (j := st) rfl (by omega) (v := .int (nI (di st))) (sOn_di (by omega)) dX1_tallyPlace_48 ?_
          refine f_iadd X (z := nI (i + di st)) (nI_add i (di st)) dX1_tallyPlace_49 ?_
          refine lv_istore (lv' := [(7, .int (nI (i + di st))), (6, .int (nI st)), (5, .int (nI (cla I i j (TT I i j).1 st))), (4, .int (nI ((tsa I (TT I) i j st).2.2.1))), (3, .int (nI ((tsa I (TT I) i j st).2.1))), (0, .ref (gad G 85)), (1, .int (nI i)), (2, .int (nI j))]) X.x X.b dX1_tallyPlace_50 hl (by decide) rfl (fun ls hl => ?_)
          refine lv_iload_n X.x X.b dX1_tallyPlace_52 rfl (lv_at hl 7 rfl) ?_
          refine f_get2 X hh dX1_tallyPlace_53 ?_
          refine lv_iload X.x X.b dX1_tallyPlace_56 (lv_at hl 1 rfl) ?_
          refine f_ti2 X hh (j := st) rfl (by omega) (v := .int (nI (dj st))) (nOn_dj (by omega)) dX1_tallyPlace_58 ?_
          refine f_iadd X (z := nI (j + dj st)) (nI_add j (dj st)) dX1_tallyPlace_59 ?_
          refine lv_istore (lv' := [(8, .int (nI (j + dj st))), (7, .int (nI (i + di st))), (6, .int (nI st)), (5, .int (nI (cla I i j (TT I i j).1 st))), (4, .int (nI ((tsa I (TT I) i j st).2.2.1))), (3, .int (nI ((tsa I (TT I) i j st).2.1))), (0, .ref (gad G 85)), (1, .int (nI i)), (2, .int (nI j))]) X.x X.b dX1_tallyPlace_60 hl (by decide) rfl (fun ls hl => ?_)
          refine lv_aload_n X.x X.b dX1_tallyPlace_62 rfl (lv_at hl 6 rfl) ?_
          refine lv_iload X.x X.b dX1_tallyPlace_63 (lv_at hl 2 rfl) ?_
          refine lv_iload_n X.x X.b dX1_tallyPlace_65 rfl (lv_at hl 7 rfl) ?_
          refine lv_iload_n X.x X.b dX1_tallyPlace_66 rfl (lv_at hl 8 rfl) ?_
          refine f_calli X hh (c_stepCost l G (st := st) (i := i) (j := j) hB hM (by omega) c_2 (by omega) (by omega)) mf_yX1_stepCost ki_yX1_stepCost kl_yX1_stepCost km_X1_101 (sh_85 G _) (by decide) rfl rfl hl.1 [] rfl (Nat.le_of_ble_eq_true rfl) ⟨by decide, by decide⟩ ⟨Nat.zero_le _, Nat.zero_le _⟩ dX1_tallyPlace_67 (fun r τ H locs hq hh => ?_)
          obtain ⟨rfl, hτ⟩ := hq
          rw [hτ] at hh
          clear hτ
          refine lv_istore (lv' := [(9, .int (nI (cst I st i j))), (8, .int (nI (j + dj st))), (7, .int (nI (i + di st))), (6, .int (nI st)), (5, .int (nI (cla I i j (TT I i j).1 st))), (4, .int (nI ((tsa I (TT I) i j st).2.2.1))), (3, .int (nI ((tsa I (TT I) i j st).2.1))), (0, .ref (gad G 85)), (1, .int (nI i)), (2, .int (nI j))]) X.x X.b dX1_tallyPlace_70 hl (by decide) rfl (fun ls hl => ?_)
          refine lv_iload_n X.x X.b dX1_tallyPlace_72 rfl (lv_at hl 6 rfl) ?_
          refine lv_iload X.x X.b dX1_tallyPlace_73 (lv_at hl 0 rfl) ?_
          refine lv_aload_n X.x X.b dX1_tallyPlace_75 rfl (lv_at hl 7 rfl) ?_
          refine f_get X hh (v := .ref (gad G 91)) (sh_85 G _) (by decide) rfl in_X1 4 (by decide) kf_X1_32 rfl dX1_tallyPlace_76 ?_
          refine lv_iload X.x X.b dX1_tallyPlace_79 (lv_at hl 2 rfl) ?_
          refine f_aald X hh (j := i + di st) 4 (sh_91 G _) rfl rfl (by decide) rfl (by omega) (by decide) dX1_tallyPlace_81 ?_
          refine lv_iload X.x X.b dX1_tallyPlace_82 (lv_at hl 1 rfl) ?_
          refine f_ialdx X hh (j := j + dj st) (y := nI ((TT I (i + di st) (j + dj st)).2.1)) (sh_in G (q := 1) (i := i + di st) (by omega) (by omega) _) (by omega) rfl (by omega) (by decide) hP9.1 dX1_tallyPlace_84 ?_
          refine f_iadd X (z := nI (cst I st i j + (TT I (i + di st) (j + dj st)).2.1)) (nI_add (cst I st i j) ((TT I (i + di st) (j + dj st)).2.1)) dX1_tallyPlace_85 ?_
          refine f_mmax X (z := nI ((tsa I (TT I) i j (st + 1)).2.1)) (by rw [tsa_mo hB (by omega) hd c_2]; exact max_nI (by omega) (by omega)) km_X1_155 hl.1 (by decide) (Nat.le_of_ble_eq_true rfl) ⟨Nat.zero_le _, Nat.zero_le _⟩ ks_yJ9_max_7cf53 kn_J9 kc_yJ9_max_7cf53 dX1_tallyPlace_86 ?_
          refine lv_istore_n (lv' := [(3, .int (nI ((tsa I (TT I) i j (st + 1)).2.1))), (9, .int (nI (cst I st i j))), (8, .int (nI (j + dj st))), (7, .int (nI (i + di st))), (6, .int (nI st)), (5, .int (nI (cla I i j (TT I i j).1 st))), (4, .int (nI ((tsa I (TT I) i j st).2.2.1))), (0, .ref (gad G 85)), (1, .int (nI i)), (2, .int (nI j))]) X.x X.b dX1_tallyPlace_89 rfl hl (by decide) rfl (fun ls hl => ?_)
          refine lv_iload X.x X.b dX1_tallyPlace_90 (lv_at hl 6 rfl) ?_
          refine lv_aload_n X.x X.b dX1_tallyPlace_92 rfl (lv_at hl 7 rfl) ?_
          refine f_get X hh (v := .ref (gad G 92)) (sh_85 G _) (by decide) rfl in_X1 5 (by decide) kf_X1_35 rfl dX1_tallyPlace_93 ?_
          refine lv_iload X.x X.b dX1_tallyPlace_96 (lv_at hl 3 rfl) ?_
          refine f_aald X hh (j := i + di st) 4 (sh_92 G _) rfl rfl (by decide) rfl (by omega) (by decide) dX1_tallyPlace_98 ?_
          refine lv_iload X.x X.b dX1_tallyPlace_99 (lv_at hl 2 rfl) ?_
          refine f_ialdx X hh (j := j + dj st) (y := nI ((TT I (i + di st) (j + dj st)).2.2.1)) (sh_in G (q := 2) (i := i + di st) (by omega) (by omega) _) (by omega) rfl (by omega) (by decide) hP9.2.1 dX1_tallyPlace_101 ?_
          refine f_iadd X (z := nI ((tsa I (TT I) i j (st + 1)).2.2.1)) (by rw [nI_add, tsa_wyS c_2]) dX1_tallyPlace_102 ?_
          refine lv_istore (lv' := [(4, .int (nI ((tsa I (TT I) i j (st + 1)).2.2.1))), (3, .int (nI ((tsa I (TT I) i j (st + 1)).2.1))), (9, .int (nI (cst I st i j))), (8, .int (nI (j + dj st))), (7, .int (nI (i + di st))), (6, .int (nI st)), (5, .int (nI (cla I i j (TT I i j).1 st))), (0, .ref (gad G 85)), (1, .int (nI i)), (2, .int (nI j))]) X.x X.b dX1_tallyPlace_103 hl (by decide) rfl (fun ls hl => ?_)
          refine lv_iload X.x X.b dX1_tallyPlace_105 (lv_at hl 2 rfl) ?_
          refine lv_aload_n X.x X.b dX1_tallyPlace_107 rfl (lv_at hl 7 rfl) ?_
          refine f_get X hh (v := .ref (gad G 90)) (sh_85 G _) (by decide) rfl in_X1 3 (by decide) kf_X1_29 rfl dX1_tallyPlace_108 ?_
          refine lv_iload X.x X.b dX1_tallyPlace_111 (lv_at hl 4 rfl) ?_
          refine f_aald X hh (j := i + di st) 4 (sh_90 G _) rfl rfl (by decide) rfl (by omega) (by decide) dX1_tallyPlace_113 ?_
          refine lv_iload X.x X.b dX1_tallyPlace_114 (lv_at hl 3 rfl) ?_
          refine f_ialdx X hh (j := j + dj st) (y := nI ((TT I (i + di st) (j + dj st)).1)) (sh_in G (q := 0) (i := i + di st) (by omega) (by omega) _) (by omega) rfl (by omega) (by decide) hW9 dX1_tallyPlace_116 ?_
          refine f_iadd X (z := nI (cst I st i j + (TT I (i + di st) (j + dj st)).1)) (nI_add (cst I st i j) ((TT I (i + di st) (j + dj st)).1)) dX1_tallyPlace_117 ?_
          refine lv_aload_n X.x X.b dX1_tallyPlace_118 rfl (lv_at hl 7 rfl) ?_
          refine f_get X hh (v := .ref (gad G 90)) (sh_85 G _) (by decide) rfl in_X1 3 (by decide) kf_X1_29 rfl dX1_tallyPlace_119 ?_
          refine lv_iload_n X.x X.b dX1_tallyPlace_122 rfl (lv_at hl 8 rfl) ?_
          refine f_aald X hh (j := i) 4 (sh_90 G _) rfl rfl (by decide) rfl (by omega) (by decide) dX1_tallyPlace_123 ?_
          refine lv_iload_n X.x X.b dX1_tallyPlace_124 rfl (lv_at hl 9 rfl) ?_
          refine f_ialdx X hh (j := j) (y := nI ((TT I i j).1)) (sh_in G (q := 0) (i := i) (by omega) (by omega) _) (by omega) rfl (by omega) (by decide) (hW _ _ hd) dX1_tallyPlace_125 ?_
          refine lv_icmp_ne (tgt := 144) X.x X.b dX1_tallyPlace_126 (by decide) (fun c_4 => ?_) (fun c_4 => ?_)
          · have c_4 : ¬ (cst I st i j + (TT I (i + di st) (j + dj st)).1) = ((TT I i j).1) := fun q9 => c_4 ((nI_eq (a := (cst I st i j + (TT I (i + di st) (j + dj st)).1)) (b := ((TT I i j).1)) (by omega) (by omega)).mpr q9)
            refine lv_iinc (v := nI (st + 1)) (lv' := [(6, .int (nI (st + 1))), (4, .int (nI ((tsa I (TT I) i j (st + 1)).2.2.1))), (3, .int (nI ((tsa I (TT I) i j (st + 1)).2.1))), (9, .int (nI (cst I st i j))), (8, .int (nI (j + dj st))), (7, .int (nI (i + di st))), (5, .int (nI (cla I i j (TT I i j).1 st))), (0, .ref (gad G 85)), (1, .int (nI i)), (2, .int (nI j))]) X.x X.b dX1_tallyPlace_144 hl (k := 5) rfl (nI_1 st) (by decide) rfl (fun ls hl => ?_)
            refine lv_goto (tgt := 25) X.x X.b dX1_tallyPlace_147 (by decide) ?_
            refine ih (3 - (st + 1)) (by omega) (st + 1) rfl (by omega) ls H locs ?_ hh
            rw [cla_d c_4]
            exact lv_sub hl [0, 6, 1, 2, 7, 8, 9] rfl
          · have c_4 : (cst I st i j + (TT I (i + di st) (j + dj st)).1) = ((TT I i j).1) := (nI_eq (a := (cst I st i j + (TT I (i + di st) (j + dj st)).1)) (b := ((TT I i j).1)) (by omega) (by omega)).mp c_4
            refine lv_iload X.x X.b dX1_tallyPlace_129 (lv_at hl 6 rfl) ?_
            refine lv_aload_n X.x X.b dX1_tallyPlace_131 rfl (lv_at hl 7 rfl) ?_
            refine f_get X hh (v := .ref (gad G 93)) (sh_85 G _) (by decide) rfl in_X1 6 (by decide) kf_X1_38 rfl dX1_tallyPlace_132 ?_
            refine lv_iload X.x X.b dX1_tallyPlace_135 (lv_at hl 4 rfl) ?_
            refine f_aald X hh (j := i + di st) 4 (sh_93 G _) rfl rfl (by decide) rfl (by omega) (by decide) dX1_tallyPlace_137 ?_
            refine lv_iload X.x X.b dX1_tallyPlace_138 (lv_at hl 3 rfl) ?_
            refine f_ialdx X hh (j := j + dj st) (y := nI ((TT I (i + di st) (j + dj st)).2.2.2)) (sh_in G (q := 3) (i := i + di st) (by omega) (by omega) _) (by omega) rfl (by omega) (by decide) hP9.2.2 dX1_tallyPlace_140 ?_
            refine f_iadd X (z := nI (cla I i j (TT I i j).1 (st + 1))) (by rw [nI_add, cla_c c_2 c_4]) dX1_tallyPlace_141 ?_
            refine lv_istore (lv' := [(5, .int (nI (cla I i j (TT I i j).1 (st + 1)))), (4, .int (nI ((tsa I (TT I) i j (st + 1)).2.2.1))), (3, .int (nI ((tsa I (TT I) i j (st + 1)).2.1))), (9, .int (nI (cst I st i j))), (8, .int (nI (j + dj st))), (7, .int (nI (i + di st))), (6, .int (nI st)), (0, .ref (gad G 85)), (1, .int (nI i)), (2, .int (nI j))]) X.x X.b dX1_tallyPlace_142 hl (by decide) rfl (fun ls hl => ?_)
            refine lv_iinc (v := nI (st + 1)) (lv' := [(6, .int (nI (st + 1))), (5, .int (nI (cla I i j (TT I i j).1 (st + 1)))), (4, .int (nI ((tsa I (TT I) i j (st + 1)).2.2.1))), (3, .int (nI ((tsa I (TT I) i j (st + 1)).2.1))), (9, .int (nI (cst I st i j))), (8, .int (nI (j + dj st))), (7, .int (nI (i + di st))), (0, .ref (gad G 85)), (1, .int (nI i)), (2, .int (nI j))]) X.x X.b dX1_tallyPlace_144 hl (k := 6) rfl (nI_1 st) (by decide) rfl (fun ls hl => ?_)
            refine lv_goto (tgt := 25) X.x X.b dX1_tallyPlace_147 (by decide) ?_
            refine ih (3 - (st + 1)) (by omega) (st + 1) rfl (by omega) ls H locs ?_ hh
            exact lv_sub hl [0, 1, 2, 3, 7, 8, 9] rfl
        · rw [show (if can I st i j = true then (1 : Int32) else 0) = 0 from if_neg c_2]
          refine lv_if_eq (tgt := 144) X.x X.b dX1_tallyPlace_39 (by decide) (fun _ => ?_) (fun h9 => absurd (show _ by decide) h9)
          refine lv_iinc (v := nI (st + 1)) (lv' := [(6, .int (nI (st + 1))), (5, .int (nI (cla I i j (TT I i j).1 st))), (4, .int (nI ((tsa I (TT I) i j st).2.2.1))), (3, .int (nI ((tsa I (TT I) i j st).2.1))), (0, .ref (gad G 85)), (1, .int (nI i)), (2, .int (nI j))]) X.x X.b dX1_tallyPlace_144 hl (k := 0) rfl (nI_1 st) (by decide) rfl (fun ls hl => ?_)
          refine lv_goto (tgt := 25) X.x X.b dX1_tallyPlace_147 (by decide) ?_
          refine ih (3 - (st + 1)) (by omega) (st + 1) rfl (by omega) ls H locs ?_ hh
          rw [tsa_n c_2, cla_n c_2]
          exact lv_sub hl [0, 1, 2, 3, 4, 5, 6] rfl
  have hl : lv_has ls 10 [(0, .ref (gad G 85)), (1, .int (nI i)), (2, .int (nI j))] := hl
  refine lv_iconst (v := nI 0) X.x X.b dX1_tallyPlace_0 (by decide) ?_
  refine lv_istore_n (lv' := [(3, .int (nI 0)), (0, .ref (gad G 85)), (1, .int (nI i)), (2, .int (nI j))]) X.x X.b dX1_tallyPlace_1 rfl hl (by decide) rfl (fun ls hl => ?_)
  refine lv_aload_n X.x X.b dX1_tallyPlace_2 rfl (lv_at hl 1 rfl) ?_
  refine lv_iload_n X.x X.b dX1_tallyPlace_3 rfl (lv_at hl 2 rfl) ?_
  refine lv_iload_n X.x X.b dX1_tallyPlace_4 rfl (lv_at hl 3 rfl) ?_
  refine f_calli X hh (c_isEnd l G (i := i) (j := j) hB hM (by omega) (by omega)) mf_yX1_isEnd ki_yX1_isEnd kl_yX1_isEnd km_X1_111 (sh_85 G _) (by decide) rfl rfl hl.1 [] rfl (Nat.le_of_ble_eq_true rfl) ⟨by decide, by decide⟩ ⟨Nat.zero_le _, Nat.zero_le _⟩ dX1_tallyPlace_5 (fun r τ H locs hq hh => ?_)
  obtain ⟨rfl, hτ⟩ := hq
  rw [hτ] at hh
  clear hτ
  by_cases c_6 : i = iN I ∧ j = iM I
  · rw [show (if i = iN I ∧ j = iM I then (1 : Int32) else 0) = 1 from if_pos c_6]
    refine lv_if_eq (tgt := 15) X.x X.b dX1_tallyPlace_8 (by decide) (fun h9 => absurd h9 (by decide)) (fun _ => ?_)
    refine lv_iconst (v := nI 1) X.x X.b dX1_tallyPlace_11 (by decide) ?_
    refine lv_goto (tgt := 16) X.x X.b dX1_tallyPlace_12 (by decide) ?_
    refine lv_istore (lv' := [(4, .int (nI 1)), (3, .int (nI 0)), (0, .ref (gad G 85)), (1, .int (nI i)), (2, .int (nI j))]) X.x X.b dX1_tallyPlace_16 hl (by decide) rfl (fun ls hl => ?_)
    refine lv_iload X.x X.b dX1_tallyPlace_18 (lv_at hl 0 rfl) ?_
    refine lv_istore (lv' := [(5, .int (nI 1)), (4, .int (nI 1)), (3, .int (nI 0)), (0, .ref (gad G 85)), (1, .int (nI i)), (2, .int (nI j))]) X.x X.b dX1_tallyPlace_20 hl (by decide) rfl (fun ls hl => ?_)
    refine lv_iconst (v := nI 0) X.x X.b dX1_tallyPlace_22 (by decide) ?_
    refine lv_istore (lv' := [(6, .int (nI 0)), (5, .int (nI 1)), (4, .int (nI 1)), (3, .int (nI 0)), (0, .ref (gad G 85)), (1, .int (nI i)), (2, .int (nI j))]) X.x X.b dX1_tallyPlace_23 hl (by decide) rfl (fun ls hl => ?_)
    refine lp 3 0 rfl (by omega) ls H locs ?_ hh
    rw [show cla I i j (TT I i j).1 0 = 1 from if_pos c_6, show (tsa I (TT I) i j 0).2.2.1 = 1 from if_pos c_6]
    exact lv_sub hl [0, 1, 2, 3, 4, 5, 6] rfl
  · rw [show (if i = iN I ∧ j = iM I then (1 : Int32) else 0) = 0 from if_neg c_6]
    refine lv_if_eq (tgt := 15) X.x X.b dX1_tallyPlace_8 (by decide) (fun _ => ?_) (fun h9 => absurd (show _ by decide) h9)
    refine lv_iconst (v := nI 0) X.x X.b dX1_tallyPlace_15 (by decide) ?_
    refine lv_istore (lv' := [(4, .int (nI 0)), (3, .int (nI 0)), (0, .ref (gad G 85)), (1, .int (nI i)), (2, .int (nI j))]) X.x X.b dX1_tallyPlace_16 hl (by decide) rfl (fun ls hl => ?_)
    refine lv_iload X.x X.b dX1_tallyPlace_18 (lv_at hl 0 rfl) ?_
    refine lv_istore (lv' := [(5, .int (nI 0)), (4, .int (nI 0)), (3, .int (nI 0)), (0, .ref (gad G 85)), (1, .int (nI i)), (2, .int (nI j))]) X.x X.b dX1_tallyPlace_20 hl (by decide) rfl (fun ls hl => ?_)
    refine lv_iconst (v := nI 0) X.x X.b dX1_tallyPlace_22 (by decide) ?_
    refine lv_istore (lv' := [(6, .int (nI 0)), (5, .int (nI 0)), (4, .int (nI 0)), (3, .int (nI 0)), (0, .ref (gad G 85)), (1, .int (nI i)), (2, .int (nI j))]) X.x X.b dX1_tallyPlace_23 hl (by decide) rfl (fun ls hl => ?_)
    refine lp 3 0 rfl (by omega) ls H locs ?_ hh
    rw [show cla I i j (TT I i j).1 0 = 0 from if_neg c_6, show (tsa I (TT I) i j 0).2.2.1 = 0 from if_neg c_6]
    exact lv_sub hl [0, 1, 2, 3, 4, 5, 6] rfl
set_option maxHeartbeats 4000000 in
set_option maxRecDepth 100000 in
theorem c_tally (l : Launch) (G : GG) {σ : Mem} {I : LI} (hB : LB I) (hL : hasL I) (hM : LM σ I) (hW : WT σ I) : Cv l G yX1_tally cX1_tally 3 3 77 [.ref (gad G 85)] σ (fun τ => LM τ I ∧ WT τ I ∧ GT τ I ∧ Frt 104 134 σ τ) := by
  refine Cv.of (own := RX1) (by decide) rfl (Nat.le_of_ble_eq_true rfl) (fun p e s m args below meth c ls H locs X hl hh => ?_)
  have hb1 := hB.1
  have hb2 := hB.2.1
  have lpo : ∀ (k i : Nat), i = k → i ≤ iN I → ∀ (υ : Mem), (∀ a b, 1 ≤ a → a ≤ iN I → 1 ≤ b → b ≤ iM I → i < a → GP υ I a b) → Frt 104 134 σ υ → ∀ (ls : Array Slot) (H : Heap) (locs : List Loc), lv_has ls 3 [(1, .int (nI i)), (0, .ref (gad G 85))] → HH G s υ H locs → WV l G p e s m args below meth c 3 77 (fun τ => LM τ I ∧ WT τ I ∧ GT τ I ∧ Frt 104 134 σ τ) H locs (F0 m 8 ls []) := by
    intro km
    induction km using Nat.strongRecOn with
    | ind km ih =>
      intro i hk hi υ hv hf ls H locs hl hh
      rcases Nat.eq_zero_or_pos i with h0 | h0
      · subst h0
        refine lv_iload_n X.x X.b dX1_tally_8 rfl (lv_at hl 0 rfl) ?_
        refine lv_iconst (v := nI 1) X.x X.b dX1_tally_9 (by decide) ?_
        refine lv_icmp_lt (tgt := 44) X.x X.b dX1_tally_10 (by decide) (fun _ => ?_) (fun h9 => absurd (show _ by decide) h9)
        refine lv_aload_n X.x X.b dX1_tally_44 rfl (lv_at hl 1 rfl) ?_
        refine lv_iconst (v := nI 0) X.x X.b dX1_tally_45 (by decide) ?_
        refine lv_iconst (v := nI 0) X.x X.b dX1_tally_46 (by decide) ?_
        have hP9 : ∀ st, st < 3 → can I st 0 0 = true → GP υ I (0 + di st) (0 + dj st) := fun st hs hc => by
          have hn := dmn_next hs (Or.inr ⟨rfl, rfl⟩) hc
          exact hv _ _ hn.1 hn.2.1 hn.2.2.1 hn.2.2.2 (by omega)
        refine f_callv X hh (c_tallyPlace l G (i := 0) (j := 0) hB hL (hM.kt hf (by decide)) (hW.kt hf hB) (Or.inr ⟨rfl, rfl⟩) hP9) mf_yX1_tallyPlace ki_yX1_tallyPlace kl_yX1_tallyPlace km_X1_151 (sh_85 G _) (by decide) rfl rfl hl.1 [] rfl (Nat.le_of_ble_eq_true rfl) ⟨by decide, by decide⟩ ⟨Nat.zero_le _, Nat.zero_le _⟩ dX1_tally_47 (fun τ H locs hq hh => ?_)
        subst hq
        refine f_vret X hh ?_ dX1_tally_50
        refine ⟨hM.kt (gset_f hf (by decide)) (by decide), hW.kt (gset_f hf (by decide)) hB, fun a b hd => ?_, gset_f hf (by decide)⟩
        rcases hd with ⟨h1, h2, h3, h4⟩ | ⟨h1, h2⟩
        · exact gset_n (hv a b h1 h2 h3 h4 (by omega)) (by decide) (by omega) (by omega)
        · subst h1; subst h2; exact gset_s (by decide)
      · obtain ⟨i, rfl⟩ : ∃ z, i = z + 1 := ⟨i - 1, by omega⟩
        refine lv_iload_n X.x X.b dX1_tally_8 rfl (lv_at hl 0 rfl) ?_
        refine lv_iconst (v := nI 1) X.x X.b dX1_tally_9 (by decide) ?_
        refine lv_icmp_lt (tgt := 44) X.x X.b dX1_tally_10 (by decide) (fun h9 => absurd h9 (nI_nlt (by omega) (by omega))) (fun _ => ?_)
        refine lv_aload_n X.x X.b dX1_tally_13 rfl (lv_at hl 1 rfl) ?_
        refine f_get X hh (v := .ref (gad G 66)) (sh_85 G _) (by decide) rfl in_X1 1 (by decide) kf_X1_20 rfl dX1_tally_14 ?_
        refine f_geti X hh (x := nI (iM I)) (sh_66 G _) (by decide) rfl in_X3 3 (by decide) kf_X1_77 rfl (hM.kt hf (by decide)).2.1.1 dX1_tally_17 ?_
        refine lv_istore_n (lv' := [(2, .int (nI (iM I))), (1, .int (nI (i + 1))), (0, .ref (gad G 85))]) X.x X.b dX1_tally_20 rfl hl (by decide) rfl (fun ls hl => ?_)
        have lpi : ∀ (k j : Nat), j = k → j ≤ iM I → ∀ (ξ : Mem), (∀ a b, 1 ≤ a → a ≤ iN I → 1 ≤ b → b ≤ iM I → (i + 1 < a ∨ (a = i + 1 ∧ j < b)) → GP ξ I a b) → Frt 104 134 σ ξ → ∀ (ls : Array Slot) (H : Heap) (locs : List Loc), lv_has ls 3 [(2, .int (nI j)), (1, .int (nI (i + 1))), (0, .ref (gad G 85))] → HH G s ξ H locs → WV l G p e s m args below meth c 3 77 (fun τ => LM τ I ∧ WT τ I ∧ GT τ I ∧ Frt 104 134 σ τ) H locs (F0 m 21 ls []) := by
          intro km
          induction km using Nat.strongRecOn with
          | ind km ih2 =>
            intro j hk2 hj ξ hv2 hf2 ls H locs hl hh
            rcases Nat.eq_zero_or_pos j with h0 | h0
            · subst h0
              refine lv_iload_n X.x X.b dX1_tally_21 rfl (lv_at hl 0 rfl) ?_
              refine lv_iconst (v := nI 1) X.x X.b dX1_tally_22 (by decide) ?_
              refine lv_icmp_lt (tgt := 38) X.x X.b dX1_tally_23 (by decide) (fun _ => ?_) (fun h9 => absurd (show _ by decide) h9)
              refine lv_iinc (v := nI i) (lv' := [(1, .int (nI i)), (2, .int (nI 0)), (0, .ref (gad G 85))]) X.x X.b dX1_tally_38 hl (k := 1) rfl (pk_m1 i) (by decide) rfl (fun ls hl => ?_)
              refine lv_goto (tgt := 8) X.x X.b dX1_tally_41 (by decide) ?_
              refine ih i (by omega) i rfl (by omega) _ ?_ hf2 ls H locs (lv_sub hl [0, 2] rfl) hh
              intro a b h1 h2 h3 h4 h5
              exact hv2 a b h1 h2 h3 h4 (by omega)
            · obtain ⟨j, rfl⟩ : ∃ z, j = z + 1 := ⟨j - 1, by omega⟩
              refine lv_iload_n X.x X.b dX1_tally_21 rfl (lv_at hl 0 rfl) ?_
              refine lv_iconst (v := nI 1) X.x X.b dX1_tally_22 (by decide) ?_
              refine lv_icmp_lt (tgt := 38) X.x X.b dX1_tally_23 (by decide) (fun h9 => absurd h9 (nI_nlt (by omega) (by omega))) (fun _ => ?_)
              refine lv_aload_n X.x X.b dX1_tally_26 rfl (lv_at hl 2 rfl) ?_
              refine lv_iload_n X.x X.b dX1_tally_27 rfl (lv_at hl 1 rfl) ?_
              refine lv_iload_n X.x X.b dX1_tally_28 rfl (lv_at hl 0 rfl) ?_
              have hP9 : ∀ st, st < 3 → can I st (i + 1) (j + 1) = true → GP ξ I (i + 1 + di st) (j + 1 + dj st) := fun st hs hc => by
                have hn := can_next hs hc (by omega) (by omega)
                have hd := dij (st := st)
                exact hv2 _ _ (by omega) hn.1 (by omega) hn.2 (by omega)
              refine f_callv X hh (c_tallyPlace l G (i := i + 1) (j := j + 1) hB hL (hM.kt hf2 (by decide)) (hW.kt hf2 hB) (Or.inl ⟨by omega, by omega, by omega, by omega⟩) hP9) mf_yX1_tallyPlace ki_yX1_tallyPlace kl_yX1_tallyPlace km_X1_151 (sh_85 G _) (by decide) rfl rfl hl.1 [] rfl (Nat.le_of_ble_eq_true rfl) ⟨by decide, by decide⟩ ⟨Nat.zero_le _, Nat.zero_le _⟩ dX1_tally_29 (fun τ H locs hq hh => ?_)
              subst hq
              refine lv_iinc (v := nI j) (lv' := [(2, .int (nI j)), (1, .int (nI (i + 1))), (0, .ref (gad G 85))]) X.x X.b dX1_tally_32 hl (k := 0) rfl (pk_m1 j) (by decide) rfl (fun ls hl => ?_)
              refine lv_goto (tgt := 21) X.x X.b dX1_tally_35 (by decide) ?_
              refine ih2 j (by omega) j rfl (by omega) _ ?_ (gset_f hf2 (by omega)) ls H locs (lv_sub hl [0, 1, 2] rfl) hh
              intro a b h1 h2 h3 h4 h5
              by_cases e9 : a = i + 1 ∧ b = j + 1
              · rw [e9.1, e9.2]; exact gset_s (by omega)
              · exact gset_n (hv2 a b h1 h2 h3 h4 (by omega)) (by omega) (by omega) e9
        refine lpi (iM I) (iM I) rfl (Nat.le_refl _) _ ?_ hf ls H locs (lv_sub hl [0, 1, 2] rfl) hh
        intro a b h1 h2 h3 h4 h5
        exact hv a b h1 h2 h3 h4 (by omega)
  have hl : lv_has ls 3 [(0, .ref (gad G 85))] := hl
  refine lv_aload_n X.x X.b dX1_tally_0 rfl (lv_at hl 0 rfl) ?_
  refine f_get X hh (v := .ref (gad G 63)) (sh_85 G _) (by decide) rfl in_X1 0 (by decide) kf_X1_14 rfl dX1_tally_1 ?_
  refine f_geti X hh (x := nI (iN I)) (sh_63 G _) (by decide) rfl in_X3 3 (by decide) kf_X1_77 rfl hM.1.1 dX1_tally_4 ?_
  refine lv_istore_n (lv' := [(1, .int (nI (iN I))), (0, .ref (gad G 85))]) X.x X.b dX1_tally_7 rfl hl (by decide) rfl (fun ls hl => ?_)
  exact lpo (iN I) (iN I) rfl (Nat.le_refl _) σ (fun a b h1 h2 h3 h4 h5 => absurd h5 (by omega)) Frt.rf ls H locs (lv_sub hl [0, 1] rfl) hh
def sres (o : Option Nat) : Int32 := match o with
  | some st => nI st
  | none => -1
set_option maxHeartbeats 4000000 in
set_option maxRecDepth 100000 in
theorem c_leastStepFrom (l : Launch) (G : GG) {σ : Mem} {I : LI} {i j : Nat} (hB : LB I) (hM : LM σ I) (hW : WT σ I) (hd : dmn I i j) : Ci l G yX1_leastStepFrom cX1_leastStepFrom 5 (some .int) 2 48 [.ref (gad G 85), .int (nI i), .int (nI j)] σ (fun r τ => r = sres (snx I i j) ∧ τ = σ) := by
  refine Ci.of (own := RX1) (by decide) rfl (Nat.le_of_ble_eq_true rfl) (fun p e s m args below meth c ls H locs X hl hh => ?_)
  have hb1 := hB.1
  have hb2 := hB.2.1
  have hi := (dmn_le hd).1
  have hj := (dmn_le hd).2
  have hbb := TT_b hB hi hj
  have lp : ∀ (k st : Nat), (∀ k9, k9 < st → nxok I i j k9 = false) → 3 - st = k → st ≤ 3 → ∀ (ls : Array Slot) (H : Heap) (locs : List Loc), lv_has ls 5 [(3, .int (nI st)), (0, .ref (gad G 85)), (1, .int (nI i)), (2, .int (nI j))] → HH G s σ H locs → WI l G p e s m args below meth c 2 48 (fun r τ => r = sres (snx I i j) ∧ τ = σ) H locs (F0 m 2 ls []) := by
    intro km
    induction km using Nat.strongRecOn with
    | ind km ih =>
      intro st hb hk hst ls H locs hl hh
      refine lv_iload_n X.x X.b dX1_leastStepFrom_2 rfl (lv_at hl 0 rfl) ?_
      refine lv_iconst (v := nI 3) X.x X.b dX1_leastStepFrom_3 (by decide) ?_
      refine lv_icmp_ge (tgt := 68) X.x X.b dX1_leastStepFrom_4 (by decide) (fun c_1 => ?_) (fun c_1 => ?_)
      · have c_1 : 3 ≤ st := (nI_leI (a := 3) (b := st) (by omega) (by omega)).mp c_1
        refine lv_iconst (v := (-1)) X.x X.b dX1_leastStepFrom_68 (by decide) ?_
        exact f_iret X hh ⟨by rw [snx_n (fun k9 hk9 => hb k9 (by omega))]; rfl, rfl⟩ dX1_leastStepFrom_69
      · have c_1 : ¬ 3 ≤ st := fun q9 => c_1 ((nI_leI (a := 3) (b := st) (by omega) (by omega)).mpr q9)
        refine lv_aload_n X.x X.b dX1_leastStepFrom_7 rfl (lv_at hl 1 rfl) ?_
        refine lv_iload_n X.x X.b dX1_leastStepFrom_8 rfl (lv_at hl 0 rfl) ?_
        refine lv_iload_n X.x X.b dX1_leastStepFrom_9 rfl (lv_at hl 2 rfl) ?_
        refine lv_iload_n X.x X.b dX1_leastStepFrom_10 rfl (lv_at hl 3 rfl) ?_
        refine f_calli X hh (c_canStep l G (st := st) (i := i) (j := j) hB hM (by omega) (by omega) (by omega)) mf_yX1_canStep ki_yX1_canStep kl_yX1_canStep km_X1_98 (sh_85 G _) (by decide) rfl rfl hl.1 [] rfl (Nat.le_of_ble_eq_true rfl) ⟨by decide, by decide⟩ ⟨Nat.zero_le _, Nat.zero_le _⟩ dX1_leastStepFrom_11 (fun r τ H locs hq hh => ?_)
        obtain ⟨rfl, hτ⟩ := hq
        rw [hτ] at hh
        clear hτ
        by_cases c_2 : can I st i j = true
        · rw [show (if can I st i j = true then (1 : Int32) else 0) = 1 from if_pos c_2]
          have hnx := can_next (by omega) c_2 hi hj
          have hW9 := hW _ _ (dmn_d (by omega) hd c_2)
          have hb9 := TT_b hB hnx.1 hnx.2
          have hc9 := cst_le hB (by omega) c_2 hi hj
          refine lv_if_eq (tgt := 62) X.x X.b dX1_leastStepFrom_14 (by decide) (fun h9 => absurd h9 (by decide)) (fun _ => ?_)
          refine lv_aload_n X.x X.b dX1_leastStepFrom_17 rfl (lv_at hl 1 rfl) ?_
          refine f_get X hh (v := .ref (gad G 90)) (sh_85 G _) (by decide) rfl in_X1 3 (by decide) kf_X1_29 rfl dX1_leastStepFrom_18 ?_
          refine lv_iload_n X.x X.b dX1_leastStepFrom_21 rfl (lv_at hl 2 rfl) ?_
          refine f_get1 X hh dX1_leastStepFrom_22 ?_
          refine lv_iload_n X.x X.b dX1_leastStepFrom_25 rfl (lv_at hl 0 rfl) ?_
          refine f_ti1 X hh (j := st) rfl (by omega) (v := .int (nI (di st))) (sOn_di (by omega)) dX1_leastStepFrom_26 ?_
          refine f_iadd X (z := nI (i + di st)) (nI_add i (di st)) dX1_leastStepFrom_27 ?_
          refine f_aald X hh (j := i + di st) 4 (sh_90 G _) rfl rfl (by decide) rfl (by omega) (by decide) dX1_leastStepFrom_28 ?_
          refine lv_iload_n X.x X.b dX1_leastStepFrom_29 rfl (lv_at hl 3 rfl) ?_
          refine f_get2 X hh dX1_leastStepFrom_30 ?_
          refine lv_iload_n X.x X.b dX1_leastStepFrom_33 rfl (lv_at hl 0 rfl) ?_
          refine f_ti2 X hh (j := st) rfl (by omega) (v := .int (nI (dj st))) (nOn_dj (by omega)) dX1_leastStepFrom_34 ?_
          refine f_iadd X (z := nI (j + dj st)) (nI_add j (dj st)) dX1_leastStepFrom_35 ?_
          refine f_ialdx X hh (j := j + dj st) (y := nI ((TT I (i + di st) (j + dj st)).1)) (sh_in G (q := 0) (i := i + di st) (by omega) (by omega) _) (by omega) rfl (by omega) (by decide) hW9 dX1_leastStepFrom_36 ?_
          refine lv_istore (lv' := [(4, .int (nI ((TT I (i + di st) (j + dj st)).1))), (3, .int (nI st)), (0, .ref (gad G 85)), (1, .int (nI i)), (2, .int (nI j))]) X.x X.b dX1_leastStepFrom_37 hl (by decide) rfl (fun ls hl => ?_)
          refine lv_aload_n X.x X.b dX1_leastStepFrom_39 rfl (lv_at hl 2 rfl) ?_
          refine lv_iload_n X.x X.b dX1_leastStepFrom_40 rfl (lv_at hl 1 rfl) ?_
          refine lv_iload_n X.x X.b dX1_leastStepFrom_41 rfl (lv_at hl 3 rfl) ?_
          refine lv_iload_n X.x X.b dX1_leastStepFrom_42 rfl (lv_at hl 4 rfl) ?_
          refine f_calli X hh (c_stepCost l G (st := st) (i := i) (j := j) hB hM (by omega) c_2 (by omega) (by omega)) mf_yX1_stepCost ki_yX1_stepCost kl_yX1_stepCost km_X1_101 (sh_85 G _) (by decide) rfl rfl hl.1 [] rfl (Nat.le_of_ble_eq_true rfl) ⟨by decide, by decide⟩ ⟨Nat.zero_le _, Nat.zero_le _⟩ dX1_leastStepFrom_43 (fun r τ H locs hq hh => ?_)
          obtain ⟨rfl, hτ⟩ := hq
          rw [hτ] at hh
          clear hτ
          refine lv_iload X.x X.b dX1_leastStepFrom_46 (lv_at hl 0 rfl) ?_
          refine f_iadd X (z := nI (cst I st i j + (TT I (i + di st) (j + dj st)).1)) (nI_add (cst I st i j) ((TT I (i + di st) (j + dj st)).1)) dX1_leastStepFrom_48 ?_
          refine lv_aload_n X.x X.b dX1_leastStepFrom_49 rfl (lv_at hl 2 rfl) ?_
          refine f_get X hh (v := .ref (gad G 90)) (sh_85 G _) (by decide) rfl in_X1 3 (by decide) kf_X1_29 rfl dX1_leastStepFrom_50 ?_
          refine lv_iload_n X.x X.b dX1_leastStepFrom_53 rfl (lv_at hl 3 rfl) ?_
          refine f_aald X hh (j := i) 4 (sh_90 G _) rfl rfl (by decide) rfl (by omega) (by decide) dX1_leastStepFrom_54 ?_
          refine lv_iload_n X.x X.b dX1_leastStepFrom_55 rfl (lv_at hl 4 rfl) ?_
          refine f_ialdx X hh (j := j) (y := nI ((TT I i j).1)) (sh_in G (q := 0) (i := i) (by omega) (by omega) _) (by omega) rfl (by omega) (by decide) (hW _ _ hd) dX1_leastStepFrom_56 ?_
          refine lv_icmp_ne (tgt := 62) X.x X.b dX1_leastStepFrom_57 (by decide) (fun c_4 => ?_) (fun c_4 => ?_)
          · have c_4 : ¬ (cst I st i j + (TT I (i + di st) (j + dj st)).1) = ((TT I i j).1) := fun q9 => c_4 ((nI_eq (a := (cst I st i j + (TT I (i + di st) (j + dj st)).1)) (b := ((TT I i j).1)) (by omega) (by omega)).mpr q9)
            refine lv_iinc (v := nI (st + 1)) (lv' := [(3, .int (nI (st + 1))), (4, .int (nI ((TT I (i + di st) (j + dj st)).1))), (0, .ref (gad G 85)), (1, .int (nI i)), (2, .int (nI j))]) X.x X.b dX1_leastStepFrom_62 hl (k := 1) rfl (nI_1 st) (by decide) rfl (fun ls hl => ?_)
            refine lv_goto (tgt := 2) X.x X.b dX1_leastStepFrom_65 (by decide) ?_
            refine ih (3 - (st + 1)) (by omega) (st + 1) (fun k9 hk9 => ?_) rfl (by omega) ls H locs (lv_sub hl [0, 2, 3, 4] rfl) hh
            by_cases e9 : k9 = st
            · subst e9; simp [nxok, c_2]; omega
            · exact hb k9 (by omega)
          · have c_4 : (cst I st i j + (TT I (i + di st) (j + dj st)).1) = ((TT I i j).1) := (nI_eq (a := (cst I st i j + (TT I (i + di st) (j + dj st)).1)) (b := ((TT I i j).1)) (by omega) (by omega)).mp c_4
            refine lv_iload_n X.x X.b dX1_leastStepFrom_60 rfl (lv_at hl 1 rfl) ?_
            exact f_iret X hh ⟨by rw [snx_i (st := st) (by omega) (by simp [nxok, c_2]; omega) hb]; rfl, rfl⟩ dX1_leastStepFrom_61
        · rw [show (if can I st i j = true then (1 : Int32) else 0) = 0 from if_neg c_2]
          refine lv_if_eq (tgt := 62) X.x X.b dX1_leastStepFrom_14 (by decide) (fun _ => ?_) (fun h9 => absurd (show _ by decide) h9)
          refine lv_iinc (v := nI (st + 1)) (lv' := [(3, .int (nI (st + 1))), (0, .ref (gad G 85)), (1, .int (nI i)), (2, .int (nI j))]) X.x X.b dX1_leastStepFrom_62 hl (k := 0) rfl (nI_1 st) (by decide) rfl (fun ls hl => ?_)
          refine lv_goto (tgt := 2) X.x X.b dX1_leastStepFrom_65 (by decide) ?_
          refine ih (3 - (st + 1)) (by omega) (st + 1) (fun k9 hk9 => ?_) rfl (by omega) ls H locs (lv_sub hl [0, 1, 2, 3] rfl) hh
          by_cases e9 : k9 = st
          · subst e9; simp [nxok, c_2]
          · exact hb k9 (by omega)
  have hl : lv_has ls 5 [(0, .ref (gad G 85)), (1, .int (nI i)), (2, .int (nI j))] := hl
  refine lv_iconst (v := nI 0) X.x X.b dX1_leastStepFrom_0 (by decide) ?_
  refine lv_istore_n (lv' := [(3, .int (nI 0)), (0, .ref (gad G 85)), (1, .int (nI i)), (2, .int (nI j))]) X.x X.b dX1_leastStepFrom_1 rfl hl (by decide) rfl (fun ls hl => ?_)
  exact lp 3 0 (fun k9 hk9 => absurd hk9 (Nat.not_lt_zero _)) rfl (by omega) ls H locs (lv_sub hl [0, 1, 2, 3] rfl) hh
end
section
/-! the loom: trace, and what it tells -/
theorem nI_m1 {n : Nat} (h : n < 2 ^ 31) : ¬ nI n = -1 := by
  intro e
  have h1 := congrArg Int32.toInt e
  rw [nI_toInt h] at h1
  have h2 : (-1 : Int32).toInt = -1 := by decide
  omega
def fores (o : Option Nat) : Int32 := match o with
  | some a => nI a
  | none => -6
theorem fo_b {I : LI} (hB : LB I) {y : Nat} : ∀ {k a : Nat}, fo I y k = some a → a ≤ 9
  | 0, a, h => by cases h
  | k + 1, a, h => by
    unfold fo at h
    by_cases hc : (fo I y k).isNone ∧ (pth I (k + 1)).2 = y + 1
    · rw [if_pos hc] at h
      cases h
      have := (dmn_le (pth_d (I := I) (k + 1))).1
      have := hB.1
      omega
    · rw [if_neg hc] at h
      exact fo_b hB h
theorem fores_n {I : LI} (hB : LB I) {y k : Nat} (h : fores (fo I y k) = -6) : fo I y k = none := by
  cases hf : fo I y k with
  | none => rfl
  | some a =>
    rw [hf] at h
    have := fo_b hB hf
    exact absurd h (nI_m6 (by omega))
theorem fores_s {I : LI} {y k : Nat} (h : ¬ fores (fo I y k) = -6) : (fo I y k).isNone = false := by
  cases hf : fo I y k with
  | none => rw [hf] at h; exact absurd rfl h
  | some a => rfl
def TRI (σ : Mem) (I : LI) (t : Nat) : Prop := σ 85 8 = nI t ∧ (∀ x, x < t → σ 87 x = nI (sta I x)) ∧ ∀ y, y < 11 → σ 88 y = fores (fo I y t) ∧ σ 89 y = nI (ho I y t)
def Frs (σ τ : Mem) : Prop := ∀ k, (k < 85 ∨ k = 86 ∨ 134 ≤ k) → τ k = σ k
def Frq (σ τ : Mem) : Prop := ∀ k, k ≠ 85 → k ≠ 87 → k ≠ 88 → k ≠ 89 → τ k = σ k
theorem Frq.rf {σ : Mem} : Frq σ σ := fun _ _ _ _ _ => rfl
theorem Frq.set {σ τ : Mem} {k f : Nat} {x : Int32} (h : Frq σ τ) (hk : k = 85 ∨ k = 87 ∨ k = 88 ∨ k = 89) : Frq σ (mset τ k f x) := fun j a b c d => by rw [mset_n (by omega)]; exact h j a b c d
theorem Frq.s {σ τ : Mem} (h : Frq σ τ) : Frs σ τ := fun k hk => h k (by omega) (by omega) (by omega) (by omega)
theorem Frt.s {σ τ : Mem} {lo hi : Nat} (h : Frt lo hi σ τ) (h1 : 94 ≤ lo) (h2 : hi ≤ 134) : Frs σ τ := fun k hk => h k (by omega)
theorem Frs.tr {σ τ υ : Mem} (h : Frs σ τ) (g : Frs τ υ) : Frs σ υ := fun k a => (g k a).trans (h k a)
theorem Frs.rf {σ : Mem} : Frs σ σ := fun _ _ => rfl
theorem LM.kq {σ τ : Mem} {I : LI} (h : LM σ I) (f : Frq σ τ) : LM τ I := h.keep (fun k hk => f k (by omega) (by omega) (by omega) (by omega))
theorem LM.ks {σ τ : Mem} {I : LI} (h : LM σ I) (f : Frs σ τ) : LM τ I := h.keep (fun k hk => f k (by omega))
theorem WT.kq {σ τ : Mem} {I : LI} (h : WT σ I) (f : Frq σ τ) : WT τ I := fun a b hd => by rw [f _ (by omega) (by omega) (by omega) (by omega)]; exact h a b hd
theorem trc_a {υ : Mem} {I : LI} {t st : Nat} (hB : LB I) (hs : snx I (pth I t).1 (pth I t).2 = some st) (hv : TRI υ I t) (h1 : 1 ≤ (pth I t).2 + dj st) (hc : fores (fo I ((pth I t).2 + dj st - 1) t) = -6) : TRI (mset (mset (mset (mset υ 87 t (nI st)) 85 8 (nI (t + 1))) 88 ((pth I t).2 + dj st - 1) (nI ((pth I t).1 + di st - 1))) 89 ((pth I t).2 + dj st - 1) (nI (ho I ((pth I t).2 + dj st - 1) t + 1))) I (t + 1) := by
  have hp := pth_s hs
  obtain ⟨a1, a2, a3⟩ := hv
  refine ⟨?_, fun x hx => ?_, fun y hy => ⟨?_, ?_⟩⟩
  · rw [mset_n (by decide), mset_n (by decide), mset_ss]
  · rw [mset_n (by decide), mset_n (by decide), mset_n (by decide)]
    by_cases e : x = t
    · subst e; rw [mset_ss]; unfold sta; rw [hs]; rfl
    · rw [mset_sn e]; exact a2 x (by omega)
  · rw [mset_n (by decide)]
    have ef : fo I y (t + 1) = if (fo I y t).isNone ∧ (pth I (t + 1)).2 = y + 1 then some ((pth I (t + 1)).1 - 1) else fo I y t := rfl
    rw [ef, hp]
    by_cases e : y = (pth I t).2 + dj st - 1
    · subst e
      rw [mset_ss, if_pos ⟨by rw [fores_n hB hc]; rfl, by show (pth I t).2 + dj st = _; omega⟩]; rfl
    · rw [mset_sn e, mset_n (by decide), mset_n (by decide), if_neg (fun q => e (by have := q.2; simp only at this; omega))]
      exact (a3 y hy).1
  · have eh : ho I y (t + 1) = ho I y t + (if (pth I (t + 1)).2 = y + 1 then 1 else 0) := rfl
    rw [eh, hp]
    by_cases e : y = (pth I t).2 + dj st - 1
    · subst e
      rw [mset_ss, if_pos (by show (pth I t).2 + dj st = _; omega)]
    · rw [mset_sn e, mset_n (by decide), mset_n (by decide), mset_n (by decide), if_neg (fun q => e (by simp only at q; omega))]
      exact (a3 y hy).2
theorem trc_b {υ : Mem} {I : LI} {t st : Nat} (hs : snx I (pth I t).1 (pth I t).2 = some st) (hv : TRI υ I t) (h1 : 1 ≤ (pth I t).2 + dj st) (hc : ¬ fores (fo I ((pth I t).2 + dj st - 1) t) = -6) : TRI (mset (mset (mset υ 87 t (nI st)) 85 8 (nI (t + 1))) 89 ((pth I t).2 + dj st - 1) (nI (ho I ((pth I t).2 + dj st - 1) t + 1))) I (t + 1) := by
  have hp := pth_s hs
  obtain ⟨a1, a2, a3⟩ := hv
  refine ⟨?_, fun x hx => ?_, fun y hy => ⟨?_, ?_⟩⟩
  · rw [mset_n (by decide), mset_ss]
  · rw [mset_n (by decide), mset_n (by decide)]
    by_cases e : x = t
    · subst e; rw [mset_ss]; unfold sta; rw [hs]; rfl
    · rw [mset_sn e]; exact a2 x (by omega)
  · rw [mset_n (by decide), mset_n (by decide), mset_n (by decide)]
    have ef : fo I y (t + 1) = if (fo I y t).isNone ∧ (pth I (t + 1)).2 = y + 1 then some ((pth I (t + 1)).1 - 1) else fo I y t := rfl
    rw [ef, hp]
    by_cases e : y = (pth I t).2 + dj st - 1
    · subst e
      rw [if_neg (fun q => by rw [fores_s hc] at q; exact absurd q.1 (by decide))]
      exact (a3 _ hy).1
    · rw [if_neg (fun q => e (by have := q.2; simp only at this; omega))]
      exact (a3 y hy).1
  · have eh : ho I y (t + 1) = ho I y t + (if (pth I (t + 1)).2 = y + 1 then 1 else 0) := rfl
    rw [eh, hp]
    by_cases e : y = (pth I t).2 + dj st - 1
    · subst e
      rw [mset_ss, if_pos (by show (pth I t).2 + dj st = _; omega)]
    · rw [mset_sn e, mset_n (by decide), mset_n (by decide), if_neg (fun q => e (by simp only at q; omega))]
      exact (a3 y hy).2
def sN (x : Nat) : Nat := if x = 111 then 0 else if x = 104 then 1 else 2
theorem sN_lt (x : Nat) : sN x < 3 := by unfold sN; split; decide; split <;> decide
theorem stp_sN {x : Nat} (h : isS x = true) : stp x = nI (sN x) := by
  unfold stp sN
  by_cases h1 : x = 111
  · simp [h1]
  · by_cases h2 : x = 104
    · simp [h2]
    · by_cases h3 : x = 115
      · simp [h3]
      · simp [isS, h1, h2, h3] at h
/-- what a row of steps costs -/
def cofs (I : LI) (g : Nat → Nat) : Nat → Option (Nat × Nat × Nat)
  | 0 => some (0, 0, 0)
  | k + 1 => match cofs I g k with
    | none => none
    | some (i, j, s) => if can I (sN (g k)) i j = true then some (i + di (sN (g k)), j + dj (sN (g k)), s + cst I (sN (g k)) i j) else none
def cres (I : LI) (g : Nat → Nat) (n : Nat) : Int32 := match cofs I g n with
  | none => -5
  | some (i, j, s) => if i = iN I ∧ j = iM I then nI s else -5
theorem cofs_s {I : LI} {g : Nat → Nat} {k i j s : Nat} (h : cofs I g k = some (i, j, s)) (hc : can I (sN (g k)) i j = true) : cofs I g (k + 1) = some (i + di (sN (g k)), j + dj (sN (g k)), s + cst I (sN (g k)) i j) := by
  unfold cofs; rw [h]; simp [hc]
theorem cofs_n {I : LI} {g : Nat → Nat} {k i j s : Nat} (h : cofs I g k = some (i, j, s)) (hc : ¬ can I (sN (g k)) i j = true) : ∀ (d : Nat), cofs I g (k + 1 + d) = none
  | 0 => by show cofs I g (k + 1) = none; unfold cofs; rw [h]; simp [hc]
  | d + 1 => by
    show cofs I g (k + 1 + d + 1) = none
    unfold cofs; rw [cofs_n h hc d]
/-- is an int a place among n? -/
abbrev inR (x : Int32) (n : Nat) : Prop := 0 ≤ x.toInt ∧ x.toInt < n
theorem inR_of {x : Int32} {n : Nat} (h : inR x n) (hn : n < 2 ^ 31) : ∃ j, j < n ∧ x = nI j := vp_in_of (vp_in_iff.mpr h) hn
theorem inR_nI {k n : Nat} (hk : k < 2 ^ 31) : inR (nI k) n ↔ k < n := by
  unfold inR
  rw [nI_toInt hk]
  omega
theorem inR_w (x : Int32) {n : Nat} (hn : n < 2 ^ 30) : (nI 0 ≤ x ∧ x ≤ nI n - nI 1) = inR x n := by
  have h1 : (nI n - nI 1).toInt = (n : Int) - 1 := pk_sub_toInt hn (by decide)
  have h0 : (nI 0).toInt = 0 := by decide
  rw [Int32.le_iff_toInt_le, Int32.le_iff_toInt_le, h1, h0]
  unfold inR
  exact propext ⟨fun h => ⟨h.1, by omega⟩, fun h => ⟨h.1, by omega⟩⟩
theorem c_withinR (l : Launch) (G : GG) {σ : Mem} (x : Int32) {n : Nat} (hn : n < 2 ^ 30) : Ci l G yX4_isWithin cX4_isWithin 3 (some .boolean) 0 0 [.int x, .int (nI 0), .int (nI n - nI 1)] σ (fun r τ => r = (if inR x n then 1 else 0) ∧ τ = σ) := by
  have h := c_isWithin l G (σ := σ) x (nI 0) (nI n - nI 1)
  simp only [inR_w x hn] at h
  exact h
set_option maxHeartbeats 4000000 in
set_option maxRecDepth 100000 in
theorem c_trace (l : Launch) (G : GG) {σ : Mem} {I : LI} (hB : LB I) (hL : hasL I) (hM : LM σ I) (hW : WT σ I) : Cv l G yX1_trace cX1_trace 5 3 72 [.ref (gad G 85)] σ (fun τ => TRI τ I (tln I) ∧ Frq σ τ) := by
  refine Cv.of (own := RX1) (by decide) rfl (Nat.le_of_ble_eq_true rfl) (fun p e s m args below meth c ls H locs X hl hh => ?_)
  have hb1 := hB.1
  have hb2 := hB.2.1
  have lp : ∀ (k t : Nat), 20 - t = k → t ≤ 20 → (∀ x, x < t → snx I (pth I x).1 (pth I x).2 ≠ none) → ∀ (υ : Mem), TRI υ I t → Frq σ υ → ∀ (ls : Array Slot) (H : Heap) (locs : List Loc), lv_has ls 5 [(3, .int (nI t)), (2, .int (nI ((pth I t).2))), (1, .int (nI ((pth I t).1))), (0, .ref (gad G 85))] → HH G s υ H locs → WV l G p e s m args below meth c 3 72 (fun τ => TRI τ I (tln I) ∧ Frq σ τ) H locs (F0 m 40 ls []) := by
    intro km
    induction km using Nat.strongRecOn with
    | ind km ih =>
      intro t hk ht hx υ hv hf ls H locs hl hh
      have hpd := dmn_le (pth_d (I := I) t)
      refine lv_iload_n X.x X.b dX1_trace_40 rfl (lv_at hl 0 rfl) ?_
      refine lv_bipush (v := nI 20) X.x X.b dX1_trace_41 (by decide) ?_
      refine lv_icmp_ge (tgt := 139) X.x X.b dX1_trace_43 (by decide) (fun c_1 => ?_) (fun c_1 => ?_)
      · have c_1 : 20 ≤ t := (nI_leI (a := 20) (b := t) (by omega) (by omega)).mp c_1
        exact f_vret X hh (by have e9 : snx I (pth I t).1 (pth I t).2 = none := Classical.byContradiction (fun q9 => absurd (pth_end hB (k := t + 1) (fun x h9 => if e8 : x = t then (by subst e8; exact q9) else hx x (by omega))) (by omega)); rw [tln_at (by omega) hx e9]; exact ⟨hv, hf⟩) dX1_trace_139
      · have c_1 : ¬ 20 ≤ t := fun q9 => c_1 ((nI_leI (a := 20) (b := t) (by omega) (by omega)).mpr q9)
        refine lv_aload_n X.x X.b dX1_trace_46 rfl (lv_at hl 3 rfl) ?_
        refine lv_iload_n X.x X.b dX1_trace_47 rfl (lv_at hl 2 rfl) ?_
        refine lv_iload_n X.x X.b dX1_trace_48 rfl (lv_at hl 1 rfl) ?_
        refine f_calli X hh (c_leastStepFrom l G (i := (pth I t).1) (j := (pth I t).2) hB (hM.kq hf) (hW.kq hf) (pth_d t)) mf_yX1_leastStepFrom ki_yX1_leastStepFrom kl_yX1_leastStepFrom km_X1_158 (sh_85 G _) (by decide) rfl rfl hl.1 [] rfl (Nat.le_of_ble_eq_true rfl) ⟨by decide, by decide⟩ ⟨Nat.zero_le _, Nat.zero_le _⟩ dX1_trace_49 (fun r τ H locs hq hh => ?_)
        obtain ⟨rfl, hτ⟩ := hq
        rw [hτ] at hh
        clear hτ
        rcases hs9 : snx I (pth I t).1 (pth I t).2 with _ | st
        · have hl9 : tln I = t := tln_at (by omega) hx hs9
          refine lv_istore (lv' := [(4, .int ((-1))), (3, .int (nI t)), (2, .int (nI ((pth I t).2))), (1, .int (nI ((pth I t).1))), (0, .ref (gad G 85))]) X.x X.b dX1_trace_52 hl (by decide) rfl (fun ls hl => ?_)
          refine lv_iload X.x X.b dX1_trace_54 (lv_at hl 0 rfl) ?_
          refine lv_iconst (v := (-1)) X.x X.b dX1_trace_56 (by decide) ?_
          refine lv_icmp_ne (tgt := 61) X.x X.b dX1_trace_57 (by decide) (fun h9 => absurd (show _ by decide) h9) (fun _ => ?_)
          exact f_vret X hh (by rw [hl9]; exact ⟨hv, hf⟩) dX1_trace_60
        · have hs8 := snx_s hs9
          have hd8 := dmn_next hs8.1 (pth_d t) hs8.2.1
          refine lv_istore (lv' := [(4, .int (nI st)), (3, .int (nI t)), (2, .int (nI ((pth I t).2))), (1, .int (nI ((pth I t).1))), (0, .ref (gad G 85))]) X.x X.b dX1_trace_52 hl (by decide) rfl (fun ls hl => ?_)
          refine lv_iload X.x X.b dX1_trace_54 (lv_at hl 0 rfl) ?_
          refine lv_iconst (v := (-1)) X.x X.b dX1_trace_56 (by decide) ?_
          refine lv_icmp_ne (tgt := 61) X.x X.b dX1_trace_57 (by decide) (fun _ => ?_) (fun h9 => absurd h9 (nI_m1 (by omega)))
          refine lv_iload_n X.x X.b dX1_trace_61 rfl (lv_at hl 3 rfl) ?_
          refine f_get1 X hh dX1_trace_62 ?_
          refine lv_iload X.x X.b dX1_trace_65 (lv_at hl 0 rfl) ?_
          refine f_ti1 X hh (j := st) rfl (by omega) (v := .int (nI (di st))) (sOn_di (by omega)) dX1_trace_67 ?_
          refine f_iadd X (z := nI ((pth I t).1 + di st)) (nI_add ((pth I t).1) (di st)) dX1_trace_68 ?_
          refine lv_istore_n (lv' := [(1, .int (nI ((pth I t).1 + di st))), (4, .int (nI st)), (3, .int (nI t)), (2, .int (nI ((pth I t).2))), (0, .ref (gad G 85))]) X.x X.b dX1_trace_69 rfl hl (by decide) rfl (fun ls hl => ?_)
          refine lv_iload_n X.x X.b dX1_trace_70 rfl (lv_at hl 3 rfl) ?_
          refine f_get2 X hh dX1_trace_71 ?_
          refine lv_iload X.x X.b dX1_trace_74 (lv_at hl 1 rfl) ?_
          refine f_ti2 X hh (j := st) rfl (by omega) (v := .int (nI (dj st))) (nOn_dj (by omega)) dX1_trace_76 ?_
          refine f_iadd X (z := nI ((pth I t).2 + dj st)) (nI_add ((pth I t).2) (dj st)) dX1_trace_77 ?_
          refine lv_istore_n (lv' := [(2, .int (nI ((pth I t).2 + dj st))), (1, .int (nI ((pth I t).1 + di st))), (4, .int (nI st)), (3, .int (nI t)), (0, .ref (gad G 85))]) X.x X.b dX1_trace_78 rfl hl (by decide) rfl (fun ls hl => ?_)
          refine lv_aload_n X.x X.b dX1_trace_79 rfl (lv_at hl 4 rfl) ?_
          refine f_get X hh (v := .ref (gad G 87)) (sh_85 G _) (by decide) rfl in_X1 7 (by decide) kf_X1_41 rfl dX1_trace_80 ?_
          refine lv_iload_n X.x X.b dX1_trace_83 rfl (lv_at hl 3 rfl) ?_
          refine lv_iload X.x X.b dX1_trace_84 (lv_at hl 2 rfl) ?_
          refine f_iast X hh (j := t) (sh_87 G) (by decide) rfl (by omega) (by decide) dX1_trace_86 (fun H locs hh => ?_)
          refine lv_aload_n X.x X.b dX1_trace_87 rfl (lv_at hl 4 rfl) ?_
          refine lv_dup X.x X.b dX1_trace_88 rfl ?_
          refine f_geti X hh (x := nI t) (sh_85 G _) (by decide) rfl in_X1 8 (by decide) kf_X1_44 rfl (by rw [mset_n (show 85 ≠ 87 by omega)]; exact hv.1) dX1_trace_89 ?_
          refine lv_iconst (v := nI 1) X.x X.b dX1_trace_92 (by decide) ?_
          refine f_iadd X (z := nI (t + 1)) (nI_add t 1) dX1_trace_93 ?_
          refine f_put X hh (x := nI (t + 1)) (sh_85 G _) (by decide) rfl in_X1 8 (sh_85 G _) tyX1 tyX1_ok nmX1 (by decide) kf_X1_44 rfl (by decide +kernel) (Nat.le_of_ble_eq_true rfl) dX1_trace_94 (fun H locs hh => ?_)
          refine lv_aload_n X.x X.b dX1_trace_97 rfl (lv_at hl 4 rfl) ?_
          refine f_get X hh (v := .ref (gad G 88)) (sh_85 G _) (by decide) rfl in_X1 9 (by decide) kf_X1_48 rfl dX1_trace_98 ?_
          refine lv_iload_n X.x X.b dX1_trace_101 rfl (lv_at hl 0 rfl) ?_
          refine lv_iconst (v := nI 1) X.x X.b dX1_trace_102 (by decide) ?_
          refine f_isub X (z := nI (((pth I t).2 + dj st) - 1)) (pk_sub (a := (pth I t).2 + dj st) (b := 1) (by omega)) dX1_trace_103 ?_
          refine f_ialdx X hh (j := ((pth I t).2 + dj st) - 1) (y := fores (fo I ((pth I t).2 + dj st - 1) t)) (sh_88 G _) (by decide) rfl (by omega) (by decide) (by rw [mset_n (show 88 ≠ 85 by omega), mset_n (show 88 ≠ 87 by omega)]; exact (hv.2.2 _ (by omega)).1) dX1_trace_104 ?_
          refine lv_bipush (v := (-6)) X.x X.b dX1_trace_105 (by decide) ?_
          refine lv_icmp_ne (tgt := 121) X.x X.b dX1_trace_107 (by decide) (fun c_4 => ?_) (fun c_4 => ?_)
          · refine lv_aload_n X.x X.b dX1_trace_121 rfl (lv_at hl 4 rfl) ?_
            refine f_get X hh (v := .ref (gad G 89)) (sh_85 G _) (by decide) rfl in_X1 10 (by decide) kf_X1_51 rfl dX1_trace_122 ?_
            refine lv_iload_n X.x X.b dX1_trace_125 rfl (lv_at hl 0 rfl) ?_
            refine lv_iconst (v := nI 1) X.x X.b dX1_trace_126 (by decide) ?_
            refine f_isub X (z := nI (((pth I t).2 + dj st) - 1)) (pk_sub (a := (pth I t).2 + dj st) (b := 1) (by omega)) dX1_trace_127 ?_
            refine lv_dup2_11 X.x X.b dX1_trace_128 rfl rfl ?_
            refine f_ialdx X hh (j := ((pth I t).2 + dj st) - 1) (y := nI (ho I ((pth I t).2 + dj st - 1) t)) (sh_89 G _) (by decide) rfl (by omega) (by decide) (by rw [mset_n (show 89 ≠ 85 by omega), mset_n (show 89 ≠ 87 by omega)]; exact (hv.2.2 _ (by omega)).2) dX1_trace_129 ?_
            refine lv_iconst (v := nI 1) X.x X.b dX1_trace_130 (by decide) ?_
            refine f_iadd X (z := nI (ho I ((pth I t).2 + dj st - 1) t + 1)) (nI_add (ho I ((pth I t).2 + dj st - 1) t) 1) dX1_trace_131 ?_
            refine f_iast X hh (j := ((pth I t).2 + dj st) - 1) (sh_89 G) (by decide) rfl (by omega) (by decide) dX1_trace_132 (fun H locs hh => ?_)
            refine lv_iinc (v := nI (t + 1)) (lv' := [(3, .int (nI (t + 1))), (2, .int (nI ((pth I t).2 + dj st))), (1, .int (nI ((pth I t).1 + di st))), (4, .int (nI st)), (0, .ref (gad G 85))]) X.x X.b dX1_trace_133 hl (k := 3) rfl (nI_1 t) (by decide) rfl (fun ls hl => ?_)
            refine lv_goto (tgt := 40) X.x X.b dX1_trace_136 (by decide) ?_
            refine ih (20 - (t + 1)) (by omega) (t + 1) rfl (by omega) (fun x h9 => ?_) _ (trc_b hs9 hv (by omega) c_4) (((hf.set (by omega)).set (by omega)).set (by omega)) ls H locs ?_ hh
            · by_cases e8 : x = t
              · subst e8; rw [hs9]; intro q9; cases q9
              · exact hx x (by omega)
            · rw [pth_s hs9]; exact lv_sub hl [0, 1, 2, 4] rfl
          · refine lv_aload_n X.x X.b dX1_trace_110 rfl (lv_at hl 4 rfl) ?_
            refine f_get X hh (v := .ref (gad G 88)) (sh_85 G _) (by decide) rfl in_X1 9 (by decide) kf_X1_48 rfl dX1_trace_111 ?_
            refine lv_iload_n X.x X.b dX1_trace_114 rfl (lv_at hl 0 rfl) ?_
            refine lv_iconst (v := nI 1) X.x X.b dX1_trace_115 (by decide) ?_
            refine f_isub X (z := nI (((pth I t).2 + dj st) - 1)) (pk_sub (a := (pth I t).2 + dj st) (b := 1) (by omega)) dX1_trace_116 ?_
            refine lv_iload_n X.x X.b dX1_trace_117 rfl (lv_at hl 1 rfl) ?_
            refine lv_iconst (v := nI 1) X.x X.b dX1_trace_118 (by decide) ?_
            refine f_isub X (z := nI (((pth I t).1 + di st) - 1)) (pk_sub (a := (pth I t).1 + di st) (b := 1) (by omega)) dX1_trace_119 ?_
            refine f_iast X hh (j := ((pth I t).2 + dj st) - 1) (sh_88 G) (by decide) rfl (by omega) (by decide) dX1_trace_120 (fun H locs hh => ?_)
            refine lv_aload_n X.x X.b dX1_trace_121 rfl (lv_at hl 4 rfl) ?_
            refine f_get X hh (v := .ref (gad G 89)) (sh_85 G _) (by decide) rfl in_X1 10 (by decide) kf_X1_51 rfl dX1_trace_122 ?_
            refine lv_iload_n X.x X.b dX1_trace_125 rfl (lv_at hl 0 rfl) ?_
            refine lv_iconst (v := nI 1) X.x X.b dX1_trace_126 (by decide) ?_
            refine f_isub X (z := nI (((pth I t).2 + dj st) - 1)) (pk_sub (a := (pth I t).2 + dj st) (b := 1) (by omega)) dX1_trace_127 ?_
            refine lv_dup2_11 X.x X.b dX1_trace_128 rfl rfl ?_
            refine f_ialdx X hh (j := ((pth I t).2 + dj st) - 1) (y := nI (ho I ((pth I t).2 + dj st - 1) t)) (sh_89 G _) (by decide) rfl (by omega) (by decide) (by rw [mset_n (show 89 ≠ 88 by omega), mset_n (show 89 ≠ 85 by omega), mset_n (show 89 ≠ 87 by omega)]; exact (hv.2.2 _ (by omega)).2) dX1_trace_129 ?_
            refine lv_iconst (v := nI 1) X.x X.b dX1_trace_130 (by decide) ?_
            refine f_iadd X (z := nI (ho I ((pth I t).2 + dj st - 1) t + 1)) (nI_add (ho I ((pth I t).2 + dj st - 1) t) 1) dX1_trace_131 ?_
            refine f_iast X hh (j := ((pth I t).2 + dj st) - 1) (sh_89 G) (by decide) rfl (by omega) (by decide) dX1_trace_132 (fun H locs hh => ?_)
            refine lv_iinc (v := nI (t + 1)) (lv' := [(3, .int (nI (t + 1))), (2, .int (nI ((pth I t).2 + dj st))), (1, .int (nI ((pth I t).1 + di st))), (4, .int (nI st)), (0, .ref (gad G 85))]) X.x X.b dX1_trace_133 hl (k := 3) rfl (nI_1 t) (by decide) rfl (fun ls hl => ?_)
            refine lv_goto (tgt := 40) X.x X.b dX1_trace_136 (by decide) ?_
            refine ih (20 - (t + 1)) (by omega) (t + 1) rfl (by omega) (fun x h9 => ?_) _ (trc_a hB hs9 hv (by omega) c_4) ((((hf.set (by omega)).set (by omega)).set (by omega)).set (by omega)) ls H locs ?_ hh
            · by_cases e8 : x = t
              · subst e8; rw [hs9]; intro q9; cases q9
              · exact hx x (by omega)
            · rw [pth_s hs9]; exact lv_sub hl [0, 1, 2, 4] rfl
  have lp1 : ∀ (k i : Nat), 11 - i = k → i ≤ 11 → ∀ (υ : Mem), (∀ y, y < i → υ 88 y = -6 ∧ υ 89 y = nI 0) → Frq σ υ → ∀ (ls : Array Slot) (H : Heap) (locs : List Loc), lv_has ls 5 [(1, .int (nI i)), (0, .ref (gad G 85))] → HH G s υ H locs → WV l G p e s m args below meth c 3 72 (fun τ => TRI τ I (tln I) ∧ Frq σ τ) H locs (F0 m 2 ls []) := by
    intro km
    induction km using Nat.strongRecOn with
    | ind km ih =>
      intro i hk hi υ hv hf ls H locs hl hh
      refine lv_iload_n X.x X.b dX1_trace_2 rfl (lv_at hl 0 rfl) ?_
      refine lv_bipush (v := nI 11) X.x X.b dX1_trace_3 (by decide) ?_
      refine lv_icmp_ge (tgt := 29) X.x X.b dX1_trace_5 (by decide) (fun c_5 => ?_) (fun c_5 => ?_)
      · have c_5 : 11 ≤ i := (nI_leI (a := 11) (b := i) (by omega) (by omega)).mp c_5
        refine lv_aload_n X.x X.b dX1_trace_29 rfl (lv_at hl 1 rfl) ?_
        refine lv_iconst (v := nI 0) X.x X.b dX1_trace_30 (by decide) ?_
        refine f_put X hh (x := nI 0) (sh_85 G _) (by decide) rfl in_X1 8 (sh_85 G _) tyX1 tyX1_ok nmX1 (by decide) kf_X1_44 rfl (by decide +kernel) (Nat.le_of_ble_eq_true rfl) dX1_trace_31 (fun H locs hh => ?_)
        refine lv_iconst (v := nI 0) X.x X.b dX1_trace_34 (by decide) ?_
        refine lv_istore_n (lv' := [(1, .int (nI 0)), (0, .ref (gad G 85))]) X.x X.b dX1_trace_35 rfl hl (by decide) rfl (fun ls hl => ?_)
        refine lv_iconst (v := nI 0) X.x X.b dX1_trace_36 (by decide) ?_
        refine lv_istore_n (lv' := [(2, .int (nI 0)), (1, .int (nI 0)), (0, .ref (gad G 85))]) X.x X.b dX1_trace_37 rfl hl (by decide) rfl (fun ls hl => ?_)
        refine lv_iconst (v := nI 0) X.x X.b dX1_trace_38 (by decide) ?_
        refine lv_istore_n (lv' := [(3, .int (nI 0)), (2, .int (nI 0)), (1, .int (nI 0)), (0, .ref (gad G 85))]) X.x X.b dX1_trace_39 rfl hl (by decide) rfl (fun ls hl => ?_)
        refine lp 20 0 rfl (by omega) (fun x h9 => absurd h9 (Nat.not_lt_zero _)) _ ⟨mset_ss, fun x h9 => absurd h9 (Nat.not_lt_zero _), fun y hy => ⟨?_, ?_⟩⟩ (hf.set (by omega)) ls H locs (lv_sub hl [0, 1, 2, 3] rfl) hh
        · rw [mset_n (by decide)]; exact (hv y (by omega)).1
        · rw [mset_n (by decide)]; exact (hv y (by omega)).2
      · have c_5 : ¬ 11 ≤ i := fun q9 => c_5 ((nI_leI (a := 11) (b := i) (by omega) (by omega)).mpr q9)
        refine lv_aload_n X.x X.b dX1_trace_8 rfl (lv_at hl 1 rfl) ?_
        refine f_get X hh (v := .ref (gad G 88)) (sh_85 G _) (by decide) rfl in_X1 9 (by decide) kf_X1_48 rfl dX1_trace_9 ?_
        refine lv_iload_n X.x X.b dX1_trace_12 rfl (lv_at hl 0 rfl) ?_
        refine lv_bipush (v := (-6)) X.x X.b dX1_trace_13 (by decide) ?_
        refine f_iast X hh (j := i) (sh_88 G) (by decide) rfl (by omega) (by decide) dX1_trace_15 (fun H locs hh => ?_)
        refine lv_aload_n X.x X.b dX1_trace_16 rfl (lv_at hl 1 rfl) ?_
        refine f_get X hh (v := .ref (gad G 89)) (sh_85 G _) (by decide) rfl in_X1 10 (by decide) kf_X1_51 rfl dX1_trace_17 ?_
        refine lv_iload_n X.x X.b dX1_trace_20 rfl (lv_at hl 0 rfl) ?_
        refine lv_iconst (v := nI 0) X.x X.b dX1_trace_21 (by decide) ?_
        refine f_iast X hh (j := i) (sh_89 G) (by decide) rfl (by omega) (by decide) dX1_trace_22 (fun H locs hh => ?_)
        refine lv_iinc (v := nI (i + 1)) (lv' := [(1, .int (nI (i + 1))), (0, .ref (gad G 85))]) X.x X.b dX1_trace_23 hl (k := 0) rfl (nI_1 i) (by decide) rfl (fun ls hl => ?_)
        refine lv_goto (tgt := 2) X.x X.b dX1_trace_26 (by decide) ?_
        refine ih (11 - (i + 1)) (by omega) (i + 1) rfl (by omega) _ (fun y hy => ?_) ((hf.set (by omega)).set (by omega)) ls H locs (lv_sub hl [0, 1] rfl) hh
        by_cases e9 : y = i
        · subst e9; exact ⟨by rw [mset_n (by decide), mset_ss], mset_ss⟩
        · exact ⟨by rw [mset_n (by decide), mset_sn e9]; exact (hv y (by omega)).1, by rw [mset_sn e9, mset_n (by decide)]; exact (hv y (by omega)).2⟩
  have hl : lv_has ls 5 [(0, .ref (gad G 85))] := hl
  refine lv_iconst (v := nI 0) X.x X.b dX1_trace_0 (by decide) ?_
  refine lv_istore_n (lv' := [(1, .int (nI 0)), (0, .ref (gad G 85))]) X.x X.b dX1_trace_1 rfl hl (by decide) rfl (fun ls hl => ?_)
  exact lp1 11 0 rfl (by omega) σ (fun y hy => absurd hy (Nat.not_lt_zero _)) Frq.rf ls H locs (lv_sub hl [0, 1] rfl) hh
set_option maxHeartbeats 4000000 in
set_option maxRecDepth 100000 in
theorem c_costOf (l : Launch) (G : GG) {σ : Mem} {I : LI} {n : Nat} {g : Nat → Nat} (hB : LB I) (hM : LM σ I) (hp : PD σ n g) (hS : ∀ i, i < n → isS (g i) = true) : Ci l G yX1_costOf cX1_costOf 7 (some .int) 2 48 [.ref (gad G 85), .ref (gad G 83)] σ (fun r τ => r = cres I g n ∧ τ = σ) := by
  refine Ci.of (own := RX1) (by decide) rfl (Nat.le_of_ble_eq_true rfl) (fun p e s m args below meth c ls H locs X hl hh => ?_)
  have hb1 := hB.1
  have hb2 := hB.2.1
  have hn := hp.2.1
  have lp : ∀ (k t i j q : Nat), n - t = k → t ≤ n → cofs I g t = some (i, j, q) → i ≤ iN I → j ≤ iM I → ∀ (ls : Array Slot) (H : Heap) (locs : List Loc), lv_has ls 7 [(5, .int (nI t)), (4, .int (nI q)), (3, .int (nI j)), (2, .int (nI i)), (0, .ref (gad G 85)), (1, .ref (gad G 83))] → HH G s σ H locs → WI l G p e s m args below meth c 2 48 (fun r τ => r = cres I g n ∧ τ = σ) H locs (F0 m 10 ls []) := by
    intro km
    induction km using Nat.strongRecOn with
    | ind km ih =>
      intro t i j q hk ht hc hi hj ls H locs hl hh
      refine lv_iload X.x X.b dX1_costOf_10 (lv_at hl 0 rfl) ?_
      refine lv_aload_n X.x X.b dX1_costOf_12 rfl (lv_at hl 5 rfl) ?_
      refine f_geti X hh (x := nI n) (sh_83 G _) (by decide) rfl in_X2 1 (by decide) kf_X1_91 rfl hp.1 dX1_costOf_13 ?_
      refine lv_icmp_ge (tgt := 78) X.x X.b dX1_costOf_16 (by decide) (fun c_1 => ?_) (fun c_1 => ?_)
      · have c_1 : n ≤ t := (nI_leI (a := n) (b := t) (by omega) (by omega)).mp c_1
        refine lv_aload_n X.x X.b dX1_costOf_78 rfl (lv_at hl 4 rfl) ?_
        refine lv_iload_n X.x X.b dX1_costOf_79 rfl (lv_at hl 3 rfl) ?_
        refine lv_iload_n X.x X.b dX1_costOf_80 rfl (lv_at hl 2 rfl) ?_
        refine f_calli X hh (c_isEnd l G (i := i) (j := j) hB hM (by omega) (by omega)) mf_yX1_isEnd ki_yX1_isEnd kl_yX1_isEnd km_X1_111 (sh_85 G _) (by decide) rfl rfl hl.1 [] rfl (Nat.le_of_ble_eq_true rfl) ⟨by decide, by decide⟩ ⟨Nat.zero_le _, Nat.zero_le _⟩ dX1_costOf_81 (fun r τ H locs hq hh => ?_)
        obtain ⟨rfl, hτ⟩ := hq
        rw [hτ] at hh
        clear hτ
        by_cases c_2 : i = iN I ∧ j = iM I
        · rw [show (if i = iN I ∧ j = iM I then (1 : Int32) else 0) = 1 from if_pos c_2]
          refine lv_if_eq (tgt := 92) X.x X.b dX1_costOf_84 (by decide) (fun h9 => absurd h9 (by decide)) (fun _ => ?_)
          refine lv_iload X.x X.b dX1_costOf_87 (lv_at hl 1 rfl) ?_
          refine lv_goto (tgt := 94) X.x X.b dX1_costOf_89 (by decide) ?_
          exact f_iret X hh ⟨by obtain rfl : t = n := (by omega); unfold cres; rw [hc]; exact (if_pos c_2).symm, rfl⟩ dX1_costOf_94
        · rw [show (if i = iN I ∧ j = iM I then (1 : Int32) else 0) = 0 from if_neg c_2]
          refine lv_if_eq (tgt := 92) X.x X.b dX1_costOf_84 (by decide) (fun _ => ?_) (fun h9 => absurd (show _ by decide) h9)
          refine lv_bipush (v := (-5)) X.x X.b dX1_costOf_92 (by decide) ?_
          exact f_iret X hh ⟨by obtain rfl : t = n := (by omega); unfold cres; rw [hc]; exact (if_neg c_2).symm, rfl⟩ dX1_costOf_94
      · have c_1 : ¬ n ≤ t := fun q9 => c_1 ((nI_leI (a := n) (b := t) (by omega) (by omega)).mpr q9)
        refine lv_aload_n X.x X.b dX1_costOf_19 rfl (lv_at hl 5 rfl) ?_
        refine lv_iload X.x X.b dX1_costOf_20 (lv_at hl 0 rfl) ?_
        refine f_calli X hh (c_stepAt l G (i := t) hp (by omega)) mf_yX2_stepAt ki_yX2_stepAt kl_yX2_stepAt km_X1_94 (sh_83 G _) (by decide) rfl rfl hl.1 [] rfl (Nat.le_of_ble_eq_true rfl) ⟨by decide, by decide⟩ ⟨Nat.zero_le _, Nat.zero_le _⟩ dX1_costOf_22 (fun r τ H locs hq hh => ?_)
        obtain ⟨rfl, hτ⟩ := hq
        rw [hτ] at hh
        clear hτ
        rw [stp_sN (hS t (by omega))]
        have hsl := sN_lt (g t)
        refine lv_istore (lv' := [(6, .int (nI (sN (g t)))), (5, .int (nI t)), (4, .int (nI q)), (3, .int (nI j)), (2, .int (nI i)), (0, .ref (gad G 85)), (1, .ref (gad G 83))]) X.x X.b dX1_costOf_25 hl (by decide) rfl (fun ls hl => ?_)
        refine lv_aload_n X.x X.b dX1_costOf_27 rfl (lv_at hl 5 rfl) ?_
        refine lv_iload X.x X.b dX1_costOf_28 (lv_at hl 0 rfl) ?_
        refine lv_iload_n X.x X.b dX1_costOf_30 rfl (lv_at hl 4 rfl) ?_
        refine lv_iload_n X.x X.b dX1_costOf_31 rfl (lv_at hl 3 rfl) ?_
        refine f_calli X hh (c_canStep l G (st := sN (g t)) (i := i) (j := j) hB hM (by omega) (by omega) (by omega)) mf_yX1_canStep ki_yX1_canStep kl_yX1_canStep km_X1_98 (sh_85 G _) (by decide) rfl rfl hl.1 [] rfl (Nat.le_of_ble_eq_true rfl) ⟨by decide, by decide⟩ ⟨Nat.zero_le _, Nat.zero_le _⟩ dX1_costOf_32 (fun r τ H locs hq hh => ?_)
        obtain ⟨rfl, hτ⟩ := hq
        rw [hτ] at hh
        clear hτ
        by_cases c_5 : can I (sN (g t)) i j = true
        · rw [show (if can I (sN (g t)) i j = true then (1 : Int32) else 0) = 1 from if_pos c_5]
          have hnx := can_next (by omega) c_5 hi hj
          refine lv_if_ne (tgt := 41) X.x X.b dX1_costOf_35 (by decide) (fun _ => ?_) (fun h9 => absurd h9 (by decide))
          refine lv_iload X.x X.b dX1_costOf_41 (lv_at hl 2 rfl) ?_
          refine lv_aload_n X.x X.b dX1_costOf_43 rfl (lv_at hl 5 rfl) ?_
          refine lv_iload X.x X.b dX1_costOf_44 (lv_at hl 0 rfl) ?_
          refine lv_iload_n X.x X.b dX1_costOf_46 rfl (lv_at hl 4 rfl) ?_
          refine lv_iload_n X.x X.b dX1_costOf_47 rfl (lv_at hl 3 rfl) ?_
          refine f_calli X hh (c_stepCost l G (st := sN (g t)) (i := i) (j := j) hB hM (by omega) c_5 (by omega) (by omega)) mf_yX1_stepCost ki_yX1_stepCost kl_yX1_stepCost km_X1_101 (sh_85 G _) (by decide) rfl rfl hl.1 [.int (nI q)] rfl (Nat.le_of_ble_eq_true rfl) ⟨by decide, by decide⟩ ⟨Nat.zero_le _, Nat.zero_le _⟩ dX1_costOf_48 (fun r τ H locs hq hh => ?_)
          obtain ⟨rfl, hτ⟩ := hq
          rw [hτ] at hh
          clear hτ
          refine f_iadd X (z := nI (q + cst I (sN (g t)) i j)) (nI_add q (cst I (sN (g t)) i j)) dX1_costOf_51 ?_
          refine lv_istore (lv' := [(4, .int (nI (q + cst I (sN (g t)) i j))), (6, .int (nI (sN (g t)))), (5, .int (nI t)), (3, .int (nI j)), (2, .int (nI i)), (0, .ref (gad G 85)), (1, .ref (gad G 83))]) X.x X.b dX1_costOf_52 hl (by decide) rfl (fun ls hl => ?_)
          refine lv_iload_n X.x X.b dX1_costOf_54 rfl (lv_at hl 4 rfl) ?_
          refine f_get1 X hh dX1_costOf_55 ?_
          refine lv_iload X.x X.b dX1_costOf_58 (lv_at hl 1 rfl) ?_
          refine f_ti1 X hh (j := sN (g t)) rfl (by omega) (v := .int (nI (di (sN (g t))))) (sOn_di (by omega)) dX1_costOf_60 ?_
          refine f_iadd X (z := nI (i + di (sN (g t)))) (nI_add i (di (sN (g t)))) dX1_costOf_61 ?_
          refine lv_istore_n (lv' := [(2, .int (nI (i + di (sN (g t))))), (4, .int (nI (q + cst I (sN (g t)) i j))), (6, .int (nI (sN (g t)))), (5, .int (nI t)), (3, .int (nI j)), (0, .ref (gad G 85)), (1, .ref (gad G 83))]) X.x X.b dX1_costOf_62 rfl hl (by decide) rfl (fun ls hl => ?_)
          refine lv_iload_n X.x X.b dX1_costOf_63 rfl (lv_at hl 4 rfl) ?_
          refine f_get2 X hh dX1_costOf_64 ?_
          refine lv_iload X.x X.b dX1_costOf_67 (lv_at hl 2 rfl) ?_
          refine f_ti2 X hh (j := sN (g t)) rfl (by omega) (v := .int (nI (dj (sN (g t))))) (nOn_dj (by omega)) dX1_costOf_69 ?_
          refine f_iadd X (z := nI (j + dj (sN (g t)))) (nI_add j (dj (sN (g t)))) dX1_costOf_70 ?_
          refine lv_istore_n (lv' := [(3, .int (nI (j + dj (sN (g t))))), (2, .int (nI (i + di (sN (g t))))), (4, .int (nI (q + cst I (sN (g t)) i j))), (6, .int (nI (sN (g t)))), (5, .int (nI t)), (0, .ref (gad G 85)), (1, .ref (gad G 83))]) X.x X.b dX1_costOf_71 rfl hl (by decide) rfl (fun ls hl => ?_)
          refine lv_iinc (v := nI (t + 1)) (lv' := [(5, .int (nI (t + 1))), (3, .int (nI (j + dj (sN (g t))))), (2, .int (nI (i + di (sN (g t))))), (4, .int (nI (q + cst I (sN (g t)) i j))), (6, .int (nI (sN (g t)))), (0, .ref (gad G 85)), (1, .ref (gad G 83))]) X.x X.b dX1_costOf_72 hl (k := 4) rfl (nI_1 t) (by decide) rfl (fun ls hl => ?_)
          refine lv_goto (tgt := 10) X.x X.b dX1_costOf_75 (by decide) ?_
          exact ih (n - (t + 1)) (by omega) (t + 1) _ _ _ rfl (by omega) (cofs_s hc c_5) hnx.1 hnx.2 ls H locs (lv_sub hl [0, 3, 1, 2, 5, 6] rfl) hh
        · rw [show (if can I (sN (g t)) i j = true then (1 : Int32) else 0) = 0 from if_neg c_5]
          refine lv_if_ne (tgt := 41) X.x X.b dX1_costOf_35 (by decide) (fun h9 => absurd (show _ by decide) h9) (fun _ => ?_)
          refine lv_bipush (v := (-5)) X.x X.b dX1_costOf_38 (by decide) ?_
          exact f_iret X hh ⟨by unfold cres; have e9 := cofs_n hc c_5 (n - (t + 1)); rw [show t + 1 + (n - (t + 1)) = n by omega] at e9; rw [e9], rfl⟩ dX1_costOf_40
  have hl : lv_has ls 7 [(0, .ref (gad G 85)), (1, .ref (gad G 83))] := hl
  refine lv_iconst (v := nI 0) X.x X.b dX1_costOf_0 (by decide) ?_
  refine lv_istore_n (lv' := [(2, .int (nI 0)), (0, .ref (gad G 85)), (1, .ref (gad G 83))]) X.x X.b dX1_costOf_1 rfl hl (by decide) rfl (fun ls hl => ?_)
  refine lv_iconst (v := nI 0) X.x X.b dX1_costOf_2 (by decide) ?_
  refine lv_istore_n (lv' := [(3, .int (nI 0)), (2, .int (nI 0)), (0, .ref (gad G 85)), (1, .ref (gad G 83))]) X.x X.b dX1_costOf_3 rfl hl (by decide) rfl (fun ls hl => ?_)
  refine lv_iconst (v := nI 0) X.x X.b dX1_costOf_4 (by decide) ?_
  refine lv_istore (lv' := [(4, .int (nI 0)), (3, .int (nI 0)), (2, .int (nI 0)), (0, .ref (gad G 85)), (1, .ref (gad G 83))]) X.x X.b dX1_costOf_5 hl (by decide) rfl (fun ls hl => ?_)
  refine lv_iconst (v := nI 0) X.x X.b dX1_costOf_7 (by decide) ?_
  refine lv_istore (lv' := [(5, .int (nI 0)), (4, .int (nI 0)), (3, .int (nI 0)), (2, .int (nI 0)), (0, .ref (gad G 85)), (1, .ref (gad G 83))]) X.x X.b dX1_costOf_8 hl (by decide) rfl (fun ls hl => ?_)
  exact lp n 0 0 0 0 rfl (by omega) rfl (by omega) (by omega) ls H locs (lv_sub hl [0, 1, 2, 3, 4, 5] rfl) hh

def lcN (I : LI) : Int32 := if (iN I = 0 ↔ iM I = 0) then nI (TT I 0 0).1 else -6
set_option maxHeartbeats 4000000 in
set_option maxRecDepth 100000 in
theorem c_leastCost (l : Launch) (G : GG) {σ : Mem} {I : LI} (hB : LB I) (hM : LM σ I) : Ci l G yX1_leastCost cX1_leastCost 1 (some .int) 4 96 [.ref (gad G 85)] σ (fun r τ => r = lcN I ∧ Frs σ τ) := by
  refine Ci.of (own := RX1) (by decide) rfl (Nat.le_of_ble_eq_true rfl) (fun p e s m args below meth c ls H locs X hl hh => ?_)
  have hl : lv_has ls 1 [(0, .ref (gad G 85))] := hl
  refine lv_aload_n X.x X.b dX1_leastCost_0 rfl (lv_at hl 0 rfl) ?_
  refine f_calli X hh (c_hasLaying l G hB hM) mf_yX1_hasLaying ki_yX1_hasLaying kl_yX1_hasLaying km_X1_115 (sh_85 G _) (by decide) rfl rfl hl.1 [] rfl (Nat.le_of_ble_eq_true rfl) ⟨by decide, by decide⟩ ⟨Nat.zero_le _, Nat.zero_le _⟩ dX1_leastCost_1 (fun r τ H locs hq hh => ?_)
  obtain ⟨rfl, hτ⟩ := hq
  rw [hτ] at hh
  clear hτ
  by_cases c_1 : iN I = 0 ↔ iM I = 0
  · rw [show (if iN I = 0 ↔ iM I = 0 then (1 : Int32) else 0) = 1 from if_pos c_1]
    refine lv_if_ne (tgt := 10) X.x X.b dX1_leastCost_4 (by decide) (fun _ => ?_) (fun h9 => absurd h9 (by decide))
    refine lv_aload_n X.x X.b dX1_leastCost_10 rfl (lv_at hl 0 rfl) ?_
    refine f_callv X hh (c_weigh l G hB c_1 hM) mf_yX1_weigh ki_yX1_weigh kl_yX1_weigh km_X1_119 (sh_85 G _) (by decide) rfl rfl hl.1 [] rfl (Nat.le_of_ble_eq_true rfl) ⟨by decide, by decide⟩ ⟨Nat.zero_le _, Nat.zero_le _⟩ dX1_leastCost_11 (fun τ H locs hq hh => ?_)
    obtain ⟨hM1, hW1, hf1⟩ := hq
    refine lv_aload_n X.x X.b dX1_leastCost_14 rfl (lv_at hl 0 rfl) ?_
    refine f_get X hh (v := .ref (gad G 90)) (sh_85 G _) (by decide) rfl in_X1 3 (by decide) kf_X1_29 rfl dX1_leastCost_15 ?_
    refine lv_iconst (v := nI 0) X.x X.b dX1_leastCost_18 (by decide) ?_
    refine f_aald X hh (j := 0) 4 (sh_90 G _) rfl rfl (by decide) rfl (by omega) (by decide) dX1_leastCost_19 ?_
    refine lv_iconst (v := nI 0) X.x X.b dX1_leastCost_20 (by decide) ?_
    refine f_ialdx X hh (j := 0) (y := nI ((TT I 0 0).1)) (sh_in G (q := 0) (i := 0) (by omega) (by omega) _) (by omega) rfl (by omega) (by decide) (hW1 0 0 (Or.inr ⟨rfl, rfl⟩)) dX1_leastCost_21 ?_
    exact f_iret X hh ⟨(if_pos c_1).symm, hf1.s (by decide) (by decide)⟩ dX1_leastCost_22
  · rw [show (if iN I = 0 ↔ iM I = 0 then (1 : Int32) else 0) = 0 from if_neg c_1]
    refine lv_if_ne (tgt := 10) X.x X.b dX1_leastCost_4 (by decide) (fun h9 => absurd (show _ by decide) h9) (fun _ => ?_)
    refine lv_bipush (v := (-6)) X.x X.b dX1_leastCost_7 (by decide) ?_
    exact f_iret X hh ⟨(if_neg c_1).symm, Frs.rf⟩ dX1_leastCost_9
set_option maxHeartbeats 4000000 in
set_option maxRecDepth 100000 in
theorem c_tallied1 (l : Launch) (G : GG) {σ : Mem} {I : LI} (hB : LB I) (hM : LM σ I) (x : Int32) : Ci l G yX1_tallied cX1_tallied 3 (some .int) 4 99 [.ref (gad G 85), .ref (gad G 91), .int x] σ (fun r τ => r = (if (iN I = 0 ↔ iM I = 0) then nI (TT I 0 0).2.1 else x) ∧ Frs σ τ) := by
  refine Ci.of (own := RX1) (by decide) rfl (Nat.le_of_ble_eq_true rfl) (fun p e s m args below meth c ls H locs X hl hh => ?_)
  have hl : lv_has ls 3 [(0, .ref (gad G 85)), (1, .ref (gad G 91)), (2, .int x)] := hl
  refine lv_aload_n X.x X.b dX1_tallied_0 rfl (lv_at hl 0 rfl) ?_
  refine f_calli X hh (c_hasLaying l G hB hM) mf_yX1_hasLaying ki_yX1_hasLaying kl_yX1_hasLaying km_X1_115 (sh_85 G _) (by decide) rfl rfl hl.1 [] rfl (Nat.le_of_ble_eq_true rfl) ⟨by decide, by decide⟩ ⟨Nat.zero_le _, Nat.zero_le _⟩ dX1_tallied_1 (fun r τ H locs hq hh => ?_)
  obtain ⟨rfl, hτ⟩ := hq
  rw [hτ] at hh
  clear hτ
  by_cases c_1 : iN I = 0 ↔ iM I = 0
  · rw [show (if iN I = 0 ↔ iM I = 0 then (1 : Int32) else 0) = 1 from if_pos c_1]
    refine lv_if_ne (tgt := 9) X.x X.b dX1_tallied_4 (by decide) (fun _ => ?_) (fun h9 => absurd h9 (by decide))
    refine lv_aload_n X.x X.b dX1_tallied_9 rfl (lv_at hl 0 rfl) ?_
    refine f_callv X hh (c_weigh l G hB c_1 hM) mf_yX1_weigh ki_yX1_weigh kl_yX1_weigh km_X1_119 (sh_85 G _) (by decide) rfl rfl hl.1 [] rfl (Nat.le_of_ble_eq_true rfl) ⟨by decide, by decide⟩ ⟨Nat.zero_le _, Nat.zero_le _⟩ dX1_tallied_10 (fun τ H locs hq hh => ?_)
    obtain ⟨hM1, hW1, hf1⟩ := hq
    refine lv_aload_n X.x X.b dX1_tallied_13 rfl (lv_at hl 0 rfl) ?_
    refine f_callv X hh (c_tally l G hB c_1 hM1 hW1) mf_yX1_tally ki_yX1_tally kl_yX1_tally km_X1_126 (sh_85 G _) (by decide) rfl rfl hl.1 [] rfl (Nat.le_of_ble_eq_true rfl) ⟨by decide, by decide⟩ ⟨Nat.zero_le _, Nat.zero_le _⟩ dX1_tallied_14 (fun τ H locs hq hh => ?_)
    obtain ⟨hM2, hW2, hG2, hf2⟩ := hq
    refine lv_aload_n X.x X.b dX1_tallied_17 rfl (lv_at hl 1 rfl) ?_
    refine lv_iconst (v := nI 0) X.x X.b dX1_tallied_18 (by decide) ?_
    refine f_aald X hh (j := 0) 4 (sh_91 G _) rfl rfl (by decide) rfl (by omega) (by decide) dX1_tallied_19 ?_
    refine lv_iconst (v := nI 0) X.x X.b dX1_tallied_20 (by decide) ?_
    refine f_ialdx X hh (j := 0) (y := nI ((TT I 0 0).2.1)) (sh_in G (q := 1) (i := 0) (by omega) (by omega) _) (by omega) rfl (by omega) (by decide) (hG2 0 0 (Or.inr ⟨rfl, rfl⟩)).1 dX1_tallied_21 ?_
    exact f_iret X hh ⟨(if_pos c_1).symm, (hf1.s (by decide) (by decide)).tr (hf2.s (by decide) (by decide))⟩ dX1_tallied_22
  · rw [show (if iN I = 0 ↔ iM I = 0 then (1 : Int32) else 0) = 0 from if_neg c_1]
    refine lv_if_ne (tgt := 9) X.x X.b dX1_tallied_4 (by decide) (fun h9 => absurd (show _ by decide) h9) (fun _ => ?_)
    refine lv_iload_n X.x X.b dX1_tallied_7 rfl (lv_at hl 2 rfl) ?_
    exact f_iret X hh ⟨(if_neg c_1).symm, Frs.rf⟩ dX1_tallied_8
set_option maxHeartbeats 4000000 in
set_option maxRecDepth 100000 in
theorem c_greatestCost (l : Launch) (G : GG) {σ : Mem} {I : LI} (hB : LB I) (hM : LM σ I) : Ci l G yX1_greatestCost cX1_greatestCost 1 (some .int) 5 121 [.ref (gad G 85)] σ (fun r τ => r = (if (iN I = 0 ↔ iM I = 0) then nI (TT I 0 0).2.1 else (-6)) ∧ Frs σ τ) := by
  refine Ci.of (own := RX1) (by decide) rfl (Nat.le_of_ble_eq_true rfl) (fun p e s m args below meth c ls H locs X hl hh => ?_)
  have hl : lv_has ls 1 [(0, .ref (gad G 85))] := hl
  refine lv_aload_n X.x X.b dX1_greatestCost_0 rfl (lv_at hl 0 rfl) ?_
  refine lv_aload_n X.x X.b dX1_greatestCost_1 rfl (lv_at hl 0 rfl) ?_
  refine f_get X hh (v := .ref (gad G 91)) (sh_85 G _) (by decide) rfl in_X1 4 (by decide) kf_X1_32 rfl dX1_greatestCost_2 ?_
  refine lv_bipush (v := (-6)) X.x X.b dX1_greatestCost_5 (by decide) ?_
  refine f_calli X hh (c_tallied1 l G hB hM ((-6))) mf_yX1_tallied ki_yX1_tallied kl_yX1_tallied km_X1_122 (sh_85 G _) (by decide) rfl rfl hl.1 [] rfl (Nat.le_of_ble_eq_true rfl) ⟨by decide, by decide⟩ ⟨Nat.zero_le _, Nat.zero_le _⟩ dX1_greatestCost_7 (fun r τ H locs hq hh => ?_)
  obtain ⟨rfl, hf1⟩ := hq
  exact f_iret X hh ⟨rfl, hf1⟩ dX1_greatestCost_10
set_option maxHeartbeats 4000000 in
set_option maxRecDepth 100000 in
theorem c_tallied2 (l : Launch) (G : GG) {σ : Mem} {I : LI} (hB : LB I) (hM : LM σ I) (x : Int32) : Ci l G yX1_tallied cX1_tallied 3 (some .int) 4 99 [.ref (gad G 85), .ref (gad G 92), .int x] σ (fun r τ => r = (if (iN I = 0 ↔ iM I = 0) then nI (TT I 0 0).2.2.1 else x) ∧ Frs σ τ) := by
  refine Ci.of (own := RX1) (by decide) rfl (Nat.le_of_ble_eq_true rfl) (fun p e s m args below meth c ls H locs X hl hh => ?_)
  have hl : lv_has ls 3 [(0, .ref (gad G 85)), (1, .ref (gad G 92)), (2, .int x)] := hl
  refine lv_aload_n X.x X.b dX1_tallied_0 rfl (lv_at hl 0 rfl) ?_
  refine f_calli X hh (c_hasLaying l G hB hM) mf_yX1_hasLaying ki_yX1_hasLaying kl_yX1_hasLaying km_X1_115 (sh_85 G _) (by decide) rfl rfl hl.1 [] rfl (Nat.le_of_ble_eq_true rfl) ⟨by decide, by decide⟩ ⟨Nat.zero_le _, Nat.zero_le _⟩ dX1_tallied_1 (fun r τ H locs hq hh => ?_)
  obtain ⟨rfl, hτ⟩ := hq
  rw [hτ] at hh
  clear hτ
  by_cases c_1 : iN I = 0 ↔ iM I = 0
  · rw [show (if iN I = 0 ↔ iM I = 0 then (1 : Int32) else 0) = 1 from if_pos c_1]
    refine lv_if_ne (tgt := 9) X.x X.b dX1_tallied_4 (by decide) (fun _ => ?_) (fun h9 => absurd h9 (by decide))
    refine lv_aload_n X.x X.b dX1_tallied_9 rfl (lv_at hl 0 rfl) ?_
    refine f_callv X hh (c_weigh l G hB c_1 hM) mf_yX1_weigh ki_yX1_weigh kl_yX1_weigh km_X1_119 (sh_85 G _) (by decide) rfl rfl hl.1 [] rfl (Nat.le_of_ble_eq_true rfl) ⟨by decide, by decide⟩ ⟨Nat.zero_le _, Nat.zero_le _⟩ dX1_tallied_10 (fun τ H locs hq hh => ?_)
    obtain ⟨hM1, hW1, hf1⟩ := hq
    refine lv_aload_n X.x X.b dX1_tallied_13 rfl (lv_at hl 0 rfl) ?_
    refine f_callv X hh (c_tally l G hB c_1 hM1 hW1) mf_yX1_tally ki_yX1_tally kl_yX1_tally km_X1_126 (sh_85 G _) (by decide) rfl rfl hl.1 [] rfl (Nat.le_of_ble_eq_true rfl) ⟨by decide, by decide⟩ ⟨Nat.zero_le _, Nat.zero_le _⟩ dX1_tallied_14 (fun τ H locs hq hh => ?_)
    obtain ⟨hM2, hW2, hG2, hf2⟩ := hq
    refine lv_aload_n X.x X.b dX1_tallied_17 rfl (lv_at hl 1 rfl) ?_
    refine lv_iconst (v := nI 0) X.x X.b dX1_tallied_18 (by decide) ?_
    refine f_aald X hh (j := 0) 4 (sh_92 G _) rfl rfl (by decide) rfl (by omega) (by decide) dX1_tallied_19 ?_
    refine lv_iconst (v := nI 0) X.x X.b dX1_tallied_20 (by decide) ?_
    refine f_ialdx X hh (j := 0) (y := nI ((TT I 0 0).2.2.1)) (sh_in G (q := 2) (i := 0) (by omega) (by omega) _) (by omega) rfl (by omega) (by decide) (hG2 0 0 (Or.inr ⟨rfl, rfl⟩)).2.1 dX1_tallied_21 ?_
    exact f_iret X hh ⟨(if_pos c_1).symm, (hf1.s (by decide) (by decide)).tr (hf2.s (by decide) (by decide))⟩ dX1_tallied_22
  · rw [show (if iN I = 0 ↔ iM I = 0 then (1 : Int32) else 0) = 0 from if_neg c_1]
    refine lv_if_ne (tgt := 9) X.x X.b dX1_tallied_4 (by decide) (fun h9 => absurd (show _ by decide) h9) (fun _ => ?_)
    refine lv_iload_n X.x X.b dX1_tallied_7 rfl (lv_at hl 2 rfl) ?_
    exact f_iret X hh ⟨(if_neg c_1).symm, Frs.rf⟩ dX1_tallied_8
set_option maxHeartbeats 4000000 in
set_option maxRecDepth 100000 in
theorem c_howManyLayings (l : Launch) (G : GG) {σ : Mem} {I : LI} (hB : LB I) (hM : LM σ I) : Ci l G yX1_howManyLayings cX1_howManyLayings 1 (some .int) 5 121 [.ref (gad G 85)] σ (fun r τ => r = (if (iN I = 0 ↔ iM I = 0) then nI (TT I 0 0).2.2.1 else nI 0) ∧ Frs σ τ) := by
  refine Ci.of (own := RX1) (by decide) rfl (Nat.le_of_ble_eq_true rfl) (fun p e s m args below meth c ls H locs X hl hh => ?_)
  have hl : lv_has ls 1 [(0, .ref (gad G 85))] := hl
  refine lv_aload_n X.x X.b dX1_howManyLayings_0 rfl (lv_at hl 0 rfl) ?_
  refine lv_aload_n X.x X.b dX1_howManyLayings_1 rfl (lv_at hl 0 rfl) ?_
  refine f_get X hh (v := .ref (gad G 92)) (sh_85 G _) (by decide) rfl in_X1 5 (by decide) kf_X1_35 rfl dX1_howManyLayings_2 ?_
  refine lv_iconst (v := nI 0) X.x X.b dX1_howManyLayings_5 (by decide) ?_
  refine f_calli X hh (c_tallied2 l G hB hM (nI 0)) mf_yX1_tallied ki_yX1_tallied kl_yX1_tallied km_X1_122 (sh_85 G _) (by decide) rfl rfl hl.1 [] rfl (Nat.le_of_ble_eq_true rfl) ⟨by decide, by decide⟩ ⟨Nat.zero_le _, Nat.zero_le _⟩ dX1_howManyLayings_6 (fun r τ H locs hq hh => ?_)
  obtain ⟨rfl, hf1⟩ := hq
  exact f_iret X hh ⟨rfl, hf1⟩ dX1_howManyLayings_9
set_option maxHeartbeats 4000000 in
set_option maxRecDepth 100000 in
theorem c_tallied3 (l : Launch) (G : GG) {σ : Mem} {I : LI} (hB : LB I) (hM : LM σ I) (x : Int32) : Ci l G yX1_tallied cX1_tallied 3 (some .int) 4 99 [.ref (gad G 85), .ref (gad G 93), .int x] σ (fun r τ => r = (if (iN I = 0 ↔ iM I = 0) then nI (TT I 0 0).2.2.2 else x) ∧ Frs σ τ) := by
  refine Ci.of (own := RX1) (by decide) rfl (Nat.le_of_ble_eq_true rfl) (fun p e s m args below meth c ls H locs X hl hh => ?_)
  have hl : lv_has ls 3 [(0, .ref (gad G 85)), (1, .ref (gad G 93)), (2, .int x)] := hl
  refine lv_aload_n X.x X.b dX1_tallied_0 rfl (lv_at hl 0 rfl) ?_
  refine f_calli X hh (c_hasLaying l G hB hM) mf_yX1_hasLaying ki_yX1_hasLaying kl_yX1_hasLaying km_X1_115 (sh_85 G _) (by decide) rfl rfl hl.1 [] rfl (Nat.le_of_ble_eq_true rfl) ⟨by decide, by decide⟩ ⟨Nat.zero_le _, Nat.zero_le _⟩ dX1_tallied_1 (fun r τ H locs hq hh => ?_)
  obtain ⟨rfl, hτ⟩ := hq
  rw [hτ] at hh
  clear hτ
  by_cases c_1 : iN I = 0 ↔ iM I = 0
  · rw [show (if iN I = 0 ↔ iM I = 0 then (1 : Int32) else 0) = 1 from if_pos c_1]
    refine lv_if_ne (tgt := 9) X.x X.b dX1_tallied_4 (by decide) (fun _ => ?_) (fun h9 => absurd h9 (by decide))
    refine lv_aload_n X.x X.b dX1_tallied_9 rfl (lv_at hl 0 rfl) ?_
    refine f_callv X hh (c_weigh l G hB c_1 hM) mf_yX1_weigh ki_yX1_weigh kl_yX1_weigh km_X1_119 (sh_85 G _) (by decide) rfl rfl hl.1 [] rfl (Nat.le_of_ble_eq_true rfl) ⟨by decide, by decide⟩ ⟨Nat.zero_le _, Nat.zero_le _⟩ dX1_tallied_10 (fun τ H locs hq hh => ?_)
    obtain ⟨hM1, hW1, hf1⟩ := hq
    refine lv_aload_n X.x X.b dX1_tallied_13 rfl (lv_at hl 0 rfl) ?_
    refine f_callv X hh (c_tally l G hB c_1 hM1 hW1) mf_yX1_tally ki_yX1_tally kl_yX1_tally km_X1_126 (sh_85 G _) (by decide) rfl rfl hl.1 [] rfl (Nat.le_of_ble_eq_true rfl) ⟨by decide, by decide⟩ ⟨Nat.zero_le _, Nat.zero_le _⟩ dX1_tallied_14 (fun τ H locs hq hh => ?_)
    obtain ⟨hM2, hW2, hG2, hf2⟩ := hq
    refine lv_aload_n X.x X.b dX1_tallied_17 rfl (lv_at hl 1 rfl) ?_
    refine lv_iconst (v := nI 0) X.x X.b dX1_tallied_18 (by decide) ?_
    refine f_aald X hh (j := 0) 4 (sh_93 G _) rfl rfl (by decide) rfl (by omega) (by decide) dX1_tallied_19 ?_
    refine lv_iconst (v := nI 0) X.x X.b dX1_tallied_20 (by decide) ?_
    refine f_ialdx X hh (j := 0) (y := nI ((TT I 0 0).2.2.2)) (sh_in G (q := 3) (i := 0) (by omega) (by omega) _) (by omega) rfl (by omega) (by decide) (hG2 0 0 (Or.inr ⟨rfl, rfl⟩)).2.2 dX1_tallied_21 ?_
    exact f_iret X hh ⟨(if_pos c_1).symm, (hf1.s (by decide) (by decide)).tr (hf2.s (by decide) (by decide))⟩ dX1_tallied_22
  · rw [show (if iN I = 0 ↔ iM I = 0 then (1 : Int32) else 0) = 0 from if_neg c_1]
    refine lv_if_ne (tgt := 9) X.x X.b dX1_tallied_4 (by decide) (fun h9 => absurd (show _ by decide) h9) (fun _ => ?_)
    refine lv_iload_n X.x X.b dX1_tallied_7 rfl (lv_at hl 2 rfl) ?_
    exact f_iret X hh ⟨(if_neg c_1).symm, Frs.rf⟩ dX1_tallied_8
set_option maxHeartbeats 4000000 in
set_option maxRecDepth 100000 in
theorem c_howManyLeast (l : Launch) (G : GG) {σ : Mem} {I : LI} (hB : LB I) (hM : LM σ I) : Ci l G yX1_howManyLeast cX1_howManyLeast 1 (some .int) 5 121 [.ref (gad G 85)] σ (fun r τ => r = (if (iN I = 0 ↔ iM I = 0) then nI (TT I 0 0).2.2.2 else nI 0) ∧ Frs σ τ) := by
  refine Ci.of (own := RX1) (by decide) rfl (Nat.le_of_ble_eq_true rfl) (fun p e s m args below meth c ls H locs X hl hh => ?_)
  have hl : lv_has ls 1 [(0, .ref (gad G 85))] := hl
  refine lv_aload_n X.x X.b dX1_howManyLeast_0 rfl (lv_at hl 0 rfl) ?_
  refine lv_aload_n X.x X.b dX1_howManyLeast_1 rfl (lv_at hl 0 rfl) ?_
  refine f_get X hh (v := .ref (gad G 93)) (sh_85 G _) (by decide) rfl in_X1 6 (by decide) kf_X1_38 rfl dX1_howManyLeast_2 ?_
  refine lv_iconst (v := nI 0) X.x X.b dX1_howManyLeast_5 (by decide) ?_
  refine f_calli X hh (c_tallied3 l G hB hM (nI 0)) mf_yX1_tallied ki_yX1_tallied kl_yX1_tallied km_X1_122 (sh_85 G _) (by decide) rfl rfl hl.1 [] rfl (Nat.le_of_ble_eq_true rfl) ⟨by decide, by decide⟩ ⟨Nat.zero_le _, Nat.zero_le _⟩ dX1_howManyLeast_6 (fun r τ H locs hq hh => ?_)
  obtain ⟨rfl, hf1⟩ := hq
  exact f_iret X hh ⟨rfl, hf1⟩ dX1_howManyLeast_9
def lsN (I : LI) (a : Nat) : Int32 := if (iN I = 0 ↔ iM I = 0) then (if a < tln I then nI (sta I a) else -6) else -6
theorem tln_le {I : LI} (hB : LB I) (hL : hasL I) : tln I ≤ 20 := by
  unfold tln
  cases h : ffst (fun k => (snx I (pth I k).1 (pth I k).2).isSome) 21 with
  | some k => have := ffst_lt h; show k ≤ 20; omega
  | none =>
    have h1 := ffst_all h
    have := pth_end hB (k := 21) (fun x hx e => by have := h1 x hx; rw [e] at this; cases this)
    omega
set_option maxHeartbeats 4000000 in
set_option maxRecDepth 100000 in
theorem c_leastStep (l : Launch) (G : GG) {σ : Mem} {I : LI} {a : Nat} (hB : LB I) (hM : LM σ I) (ha : a < 2 ^ 31) : Ci l G yX1_leastStep cX1_leastStep 2 (some .int) 4 96 [.ref (gad G 85), .int (nI a)] σ (fun r τ => r = lsN I a ∧ Frs σ τ) := by
  refine Ci.of (own := RX1) (by decide) rfl (Nat.le_of_ble_eq_true rfl) (fun p e s m args below meth c ls H locs X hl hh => ?_)
  have hl : lv_has ls 2 [(0, .ref (gad G 85)), (1, .int (nI a))] := hl
  refine lv_aload_n X.x X.b dX1_leastStep_0 rfl (lv_at hl 0 rfl) ?_
  refine f_calli X hh (c_hasLaying l G hB hM) mf_yX1_hasLaying ki_yX1_hasLaying kl_yX1_hasLaying km_X1_115 (sh_85 G _) (by decide) rfl rfl hl.1 [] rfl (Nat.le_of_ble_eq_true rfl) ⟨by decide, by decide⟩ ⟨Nat.zero_le _, Nat.zero_le _⟩ dX1_leastStep_1 (fun r τ H locs hq hh => ?_)
  obtain ⟨rfl, hτ⟩ := hq
  rw [hτ] at hh
  clear hτ
  by_cases c_1 : iN I = 0 ↔ iM I = 0
  · rw [show (if iN I = 0 ↔ iM I = 0 then (1 : Int32) else 0) = 1 from if_pos c_1]
    refine lv_if_ne (tgt := 10) X.x X.b dX1_leastStep_4 (by decide) (fun _ => ?_) (fun h9 => absurd h9 (by decide))
    refine lv_aload_n X.x X.b dX1_leastStep_10 rfl (lv_at hl 0 rfl) ?_
    refine f_callv X hh (c_weigh l G hB c_1 hM) mf_yX1_weigh ki_yX1_weigh kl_yX1_weigh km_X1_119 (sh_85 G _) (by decide) rfl rfl hl.1 [] rfl (Nat.le_of_ble_eq_true rfl) ⟨by decide, by decide⟩ ⟨Nat.zero_le _, Nat.zero_le _⟩ dX1_leastStep_11 (fun τ H locs hq hh => ?_)
    obtain ⟨hM1, hW1, hf1⟩ := hq
    refine lv_aload_n X.x X.b dX1_leastStep_14 rfl (lv_at hl 0 rfl) ?_
    refine f_callv X hh (c_trace l G hB c_1 hM1 hW1) mf_yX1_trace ki_yX1_trace kl_yX1_trace km_X1_129 (sh_85 G _) (by decide) rfl rfl hl.1 [] rfl (Nat.le_of_ble_eq_true rfl) ⟨by decide, by decide⟩ ⟨Nat.zero_le _, Nat.zero_le _⟩ dX1_leastStep_15 (fun τ H locs hq hh => ?_)
    obtain ⟨hR2, hf2⟩ := hq
    refine lv_iload_n X.x X.b dX1_leastStep_18 rfl (lv_at hl 1 rfl) ?_
    refine lv_iconst (v := nI 0) X.x X.b dX1_leastStep_19 (by decide) ?_
    refine lv_aload_n X.x X.b dX1_leastStep_20 rfl (lv_at hl 0 rfl) ?_
    refine f_geti X hh (x := nI (tln I)) (sh_85 G _) (by decide) rfl in_X1 8 (by decide) kf_X1_44 rfl hR2.1 dX1_leastStep_21 ?_
    refine lv_iconst (v := nI 1) X.x X.b dX1_leastStep_24 (by decide) ?_
    refine f_isub X (z := nI (tln I) - nI 1) rfl dX1_leastStep_25 ?_
    have hl9 := tln_le hB c_1
    refine f_ncalli X hh (c_withinR l G (nI a) (n := tln I) (by omega)) mf_yX4_isWithin ks_yX4_isWithin X.2.2.2.2.2.2.2.2.2.1 rfl hl.1 [] rfl (Nat.le_of_ble_eq_true rfl) ⟨by decide, by decide⟩ ⟨Nat.zero_le _, Nat.zero_le _⟩ dX1_leastStep_26 (fun r τ H locs hq hh => ?_)
    obtain ⟨rfl, hτ⟩ := hq
    rw [hτ] at hh
    clear hτ
    by_cases c_3 : inR (nI a) (tln I)
    · rw [show (if inR (nI a) (tln I) then (1 : Int32) else 0) = 1 from if_pos c_3]
      rw [inR_nI ha] at c_3
      refine lv_if_eq (tgt := 41) X.x X.b dX1_leastStep_29 (by decide) (fun h9 => absurd h9 (by decide)) (fun _ => ?_)
      refine lv_aload_n X.x X.b dX1_leastStep_32 rfl (lv_at hl 0 rfl) ?_
      refine f_get X hh (v := .ref (gad G 87)) (sh_85 G _) (by decide) rfl in_X1 7 (by decide) kf_X1_41 rfl dX1_leastStep_33 ?_
      refine lv_iload_n X.x X.b dX1_leastStep_36 rfl (lv_at hl 1 rfl) ?_
      refine f_ialdx X hh (j := a) (y := nI (sta I a)) (sh_87 G _) (by decide) rfl (by omega) (by decide) (hR2.2.1 _ (by omega)) dX1_leastStep_37 ?_
      refine lv_goto (tgt := 43) X.x X.b dX1_leastStep_38 (by decide) ?_
      exact f_iret X hh ⟨by unfold lsN; rw [if_pos c_1, if_pos c_3], (hf1.s (by decide) (by decide)).tr hf2.s⟩ dX1_leastStep_43
    · rw [show (if inR (nI a) (tln I) then (1 : Int32) else 0) = 0 from if_neg c_3]
      rw [inR_nI ha] at c_3
      refine lv_if_eq (tgt := 41) X.x X.b dX1_leastStep_29 (by decide) (fun _ => ?_) (fun h9 => absurd (show _ by decide) h9)
      refine lv_bipush (v := (-6)) X.x X.b dX1_leastStep_41 (by decide) ?_
      exact f_iret X hh ⟨by unfold lsN; rw [if_pos c_1, if_neg c_3], (hf1.s (by decide) (by decide)).tr hf2.s⟩ dX1_leastStep_43
  · rw [show (if iN I = 0 ↔ iM I = 0 then (1 : Int32) else 0) = 0 from if_neg c_1]
    refine lv_if_ne (tgt := 10) X.x X.b dX1_leastStep_4 (by decide) (fun h9 => absurd (show _ by decide) h9) (fun _ => ?_)
    refine lv_bipush (v := (-6)) X.x X.b dX1_leastStep_7 (by decide) ?_
    exact f_iret X hh ⟨(if_neg c_1).symm, Frs.rf⟩ dX1_leastStep_9
set_option maxHeartbeats 4000000 in
set_option maxRecDepth 100000 in
theorem c_traced88 (l : Launch) (G : GG) {σ : Mem} {I : LI} {y : Nat} (hB : LB I) (hM : LM σ I) (hy : y < iM I) : Ci l G yX1_traced cX1_traced 3 (some .int) 4 96 [.ref (gad G 85), .ref (gad G 88), .int (nI y)] σ (fun r τ => r = (if (iN I = 0 ↔ iM I = 0) then fores (fo I y (tln I)) else -6) ∧ Frs σ τ) := by
  refine Ci.of (own := RX1) (by decide) rfl (Nat.le_of_ble_eq_true rfl) (fun p e s m args below meth c ls H locs X hl hh => ?_)
  have hb1 := hB.1
  have hb2 := hB.2.1
  have hl : lv_has ls 3 [(0, .ref (gad G 85)), (1, .ref (gad G 88)), (2, .int (nI y))] := hl
  refine lv_aload_n X.x X.b dX1_traced_0 rfl (lv_at hl 0 rfl) ?_
  refine f_calli X hh (c_hasLaying l G hB hM) mf_yX1_hasLaying ki_yX1_hasLaying kl_yX1_hasLaying km_X1_115 (sh_85 G _) (by decide) rfl rfl hl.1 [] rfl (Nat.le_of_ble_eq_true rfl) ⟨by decide, by decide⟩ ⟨Nat.zero_le _, Nat.zero_le _⟩ dX1_traced_1 (fun r τ H locs hq hh => ?_)
  obtain ⟨rfl, hτ⟩ := hq
  rw [hτ] at hh
  clear hτ
  by_cases c_1 : iN I = 0 ↔ iM I = 0
  · rw [show (if iN I = 0 ↔ iM I = 0 then (1 : Int32) else 0) = 1 from if_pos c_1]
    refine lv_if_eq (tgt := 24) X.x X.b dX1_traced_4 (by decide) (fun h9 => absurd h9 (by decide)) (fun _ => ?_)
    refine lv_iload_n X.x X.b dX1_traced_7 rfl (lv_at hl 2 rfl) ?_
    refine lv_iconst (v := nI 0) X.x X.b dX1_traced_8 (by decide) ?_
    refine lv_aload_n X.x X.b dX1_traced_9 rfl (lv_at hl 0 rfl) ?_
    refine f_get X hh (v := .ref (gad G 66)) (sh_85 G _) (by decide) rfl in_X1 1 (by decide) kf_X1_20 rfl dX1_traced_10 ?_
    refine f_geti X hh (x := nI (iM I)) (sh_66 G _) (by decide) rfl in_X3 3 (by decide) kf_X1_77 rfl hM.2.1.1 dX1_traced_13 ?_
    refine lv_iconst (v := nI 1) X.x X.b dX1_traced_16 (by decide) ?_
    refine f_isub X (z := nI (iM I) - nI 1) rfl dX1_traced_17 ?_
    refine f_ncalli X hh (c_withinR l G (nI y) (n := iM I) (by omega)) mf_yX4_isWithin ks_yX4_isWithin X.2.2.2.2.2.2.2.2.2.1 rfl hl.1 [] rfl (Nat.le_of_ble_eq_true rfl) ⟨by decide, by decide⟩ ⟨Nat.zero_le _, Nat.zero_le _⟩ dX1_traced_18 (fun r τ H locs hq hh => ?_)
    obtain ⟨hr9, hτ⟩ := hq
    rw [if_pos ((inR_nI (by omega)).mpr hy)] at hr9
    subst hr9
    rw [hτ] at hh
    clear hτ
    refine lv_if_ne (tgt := 27) X.x X.b dX1_traced_21 (by decide) (fun _ => ?_) (fun h9 => absurd h9 (by decide))
    refine lv_aload_n X.x X.b dX1_traced_27 rfl (lv_at hl 0 rfl) ?_
    refine f_callv X hh (c_weigh l G hB c_1 hM) mf_yX1_weigh ki_yX1_weigh kl_yX1_weigh km_X1_119 (sh_85 G _) (by decide) rfl rfl hl.1 [] rfl (Nat.le_of_ble_eq_true rfl) ⟨by decide, by decide⟩ ⟨Nat.zero_le _, Nat.zero_le _⟩ dX1_traced_28 (fun τ H locs hq hh => ?_)
    obtain ⟨hM1, hW1, hf1⟩ := hq
    refine lv_aload_n X.x X.b dX1_traced_31 rfl (lv_at hl 0 rfl) ?_
    refine f_callv X hh (c_trace l G hB c_1 hM1 hW1) mf_yX1_trace ki_yX1_trace kl_yX1_trace km_X1_129 (sh_85 G _) (by decide) rfl rfl hl.1 [] rfl (Nat.le_of_ble_eq_true rfl) ⟨by decide, by decide⟩ ⟨Nat.zero_le _, Nat.zero_le _⟩ dX1_traced_32 (fun τ H locs hq hh => ?_)
    obtain ⟨hR2, hf2⟩ := hq
    refine lv_aload_n X.x X.b dX1_traced_35 rfl (lv_at hl 1 rfl) ?_
    refine lv_iload_n X.x X.b dX1_traced_36 rfl (lv_at hl 2 rfl) ?_
    refine f_ialdx X hh (j := y) (y := fores (fo I y (tln I))) (sh_88 G _) (by decide) rfl (by omega) (by decide) (hR2.2.2 _ (by omega)).1 dX1_traced_37 ?_
    exact f_iret X hh ⟨(if_pos c_1).symm, (hf1.s (by decide) (by decide)).tr hf2.s⟩ dX1_traced_38
  · rw [show (if iN I = 0 ↔ iM I = 0 then (1 : Int32) else 0) = 0 from if_neg c_1]
    refine lv_if_eq (tgt := 24) X.x X.b dX1_traced_4 (by decide) (fun _ => ?_) (fun h9 => absurd (show _ by decide) h9)
    refine lv_bipush (v := (-6)) X.x X.b dX1_traced_24 (by decide) ?_
    exact f_iret X hh ⟨(if_neg c_1).symm, Frs.rf⟩ dX1_traced_26
set_option maxHeartbeats 4000000 in
set_option maxRecDepth 100000 in
theorem c_firstSungOn (l : Launch) (G : GG) {σ : Mem} {I : LI} {y : Nat} (hB : LB I) (hM : LM σ I) (hy : y < iM I) : Ci l G yX1_firstSungOn cX1_firstSungOn 2 (some .int) 5 118 [.ref (gad G 85), .int (nI y)] σ (fun r τ => r = (if (iN I = 0 ↔ iM I = 0) then fores (fo I y (tln I)) else -6) ∧ Frs σ τ) := by
  refine Ci.of (own := RX1) (by decide) rfl (Nat.le_of_ble_eq_true rfl) (fun p e s m args below meth c ls H locs X hl hh => ?_)
  have hl : lv_has ls 2 [(0, .ref (gad G 85)), (1, .int (nI y))] := hl
  refine lv_aload_n X.x X.b dX1_firstSungOn_0 rfl (lv_at hl 0 rfl) ?_
  refine lv_aload_n X.x X.b dX1_firstSungOn_1 rfl (lv_at hl 0 rfl) ?_
  refine f_get X hh (v := .ref (gad G 88)) (sh_85 G _) (by decide) rfl in_X1 9 (by decide) kf_X1_48 rfl dX1_firstSungOn_2 ?_
  refine lv_iload_n X.x X.b dX1_firstSungOn_5 rfl (lv_at hl 1 rfl) ?_
  refine f_calli X hh (c_traced88 l G hB hM hy) mf_yX1_traced ki_yX1_traced kl_yX1_traced km_X1_132 (sh_85 G _) (by decide) rfl rfl hl.1 [] rfl (Nat.le_of_ble_eq_true rfl) ⟨by decide, by decide⟩ ⟨Nat.zero_le _, Nat.zero_le _⟩ dX1_firstSungOn_6 (fun r τ H locs hq hh => ?_)
  obtain ⟨rfl, hf1⟩ := hq
  exact f_iret X hh ⟨rfl, hf1⟩ dX1_firstSungOn_9
set_option maxHeartbeats 4000000 in
set_option maxRecDepth 100000 in
theorem c_traced89 (l : Launch) (G : GG) {σ : Mem} {I : LI} {y : Nat} (hB : LB I) (hM : LM σ I) (hy : y < iM I) : Ci l G yX1_traced cX1_traced 3 (some .int) 4 96 [.ref (gad G 85), .ref (gad G 89), .int (nI y)] σ (fun r τ => r = (if (iN I = 0 ↔ iM I = 0) then nI (ho I y (tln I)) else -6) ∧ Frs σ τ) := by
  refine Ci.of (own := RX1) (by decide) rfl (Nat.le_of_ble_eq_true rfl) (fun p e s m args below meth c ls H locs X hl hh => ?_)
  have hb1 := hB.1
  have hb2 := hB.2.1
  have hl : lv_has ls 3 [(0, .ref (gad G 85)), (1, .ref (gad G 89)), (2, .int (nI y))] := hl
  refine lv_aload_n X.x X.b dX1_traced_0 rfl (lv_at hl 0 rfl) ?_
  refine f_calli X hh (c_hasLaying l G hB hM) mf_yX1_hasLaying ki_yX1_hasLaying kl_yX1_hasLaying km_X1_115 (sh_85 G _) (by decide) rfl rfl hl.1 [] rfl (Nat.le_of_ble_eq_true rfl) ⟨by decide, by decide⟩ ⟨Nat.zero_le _, Nat.zero_le _⟩ dX1_traced_1 (fun r τ H locs hq hh => ?_)
  obtain ⟨rfl, hτ⟩ := hq
  rw [hτ] at hh
  clear hτ
  by_cases c_1 : iN I = 0 ↔ iM I = 0
  · rw [show (if iN I = 0 ↔ iM I = 0 then (1 : Int32) else 0) = 1 from if_pos c_1]
    refine lv_if_eq (tgt := 24) X.x X.b dX1_traced_4 (by decide) (fun h9 => absurd h9 (by decide)) (fun _ => ?_)
    refine lv_iload_n X.x X.b dX1_traced_7 rfl (lv_at hl 2 rfl) ?_
    refine lv_iconst (v := nI 0) X.x X.b dX1_traced_8 (by decide) ?_
    refine lv_aload_n X.x X.b dX1_traced_9 rfl (lv_at hl 0 rfl) ?_
    refine f_get X hh (v := .ref (gad G 66)) (sh_85 G _) (by decide) rfl in_X1 1 (by decide) kf_X1_20 rfl dX1_traced_10 ?_
    refine f_geti X hh (x := nI (iM I)) (sh_66 G _) (by decide) rfl in_X3 3 (by decide) kf_X1_77 rfl hM.2.1.1 dX1_traced_13 ?_
    refine lv_iconst (v := nI 1) X.x X.b dX1_traced_16 (by decide) ?_
    refine f_isub X (z := nI (iM I) - nI 1) rfl dX1_traced_17 ?_
    refine f_ncalli X hh (c_withinR l G (nI y) (n := iM I) (by omega)) mf_yX4_isWithin ks_yX4_isWithin X.2.2.2.2.2.2.2.2.2.1 rfl hl.1 [] rfl (Nat.le_of_ble_eq_true rfl) ⟨by decide, by decide⟩ ⟨Nat.zero_le _, Nat.zero_le _⟩ dX1_traced_18 (fun r τ H locs hq hh => ?_)
    obtain ⟨hr9, hτ⟩ := hq
    rw [if_pos ((inR_nI (by omega)).mpr hy)] at hr9
    subst hr9
    rw [hτ] at hh
    clear hτ
    refine lv_if_ne (tgt := 27) X.x X.b dX1_traced_21 (by decide) (fun _ => ?_) (fun h9 => absurd h9 (by decide))
    refine lv_aload_n X.x X.b dX1_traced_27 rfl (lv_at hl 0 rfl) ?_
    refine f_callv X hh (c_weigh l G hB c_1 hM) mf_yX1_weigh ki_yX1_weigh kl_yX1_weigh km_X1_119 (sh_85 G _) (by decide) rfl rfl hl.1 [] rfl (Nat.le_of_ble_eq_true rfl) ⟨by decide, by decide⟩ ⟨Nat.zero_le _, Nat.zero_le _⟩ dX1_traced_28 (fun τ H locs hq hh => ?_)
    obtain ⟨hM1, hW1, hf1⟩ := hq
    refine lv_aload_n X.x X.b dX1_traced_31 rfl (lv_at hl 0 rfl) ?_
    refine f_callv X hh (c_trace l G hB c_1 hM1 hW1) mf_yX1_trace ki_yX1_trace kl_yX1_trace km_X1_129 (sh_85 G _) (by decide) rfl rfl hl.1 [] rfl (Nat.le_of_ble_eq_true rfl) ⟨by decide, by decide⟩ ⟨Nat.zero_le _, Nat.zero_le _⟩ dX1_traced_32 (fun τ H locs hq hh => ?_)
    obtain ⟨hR2, hf2⟩ := hq
    refine lv_aload_n X.x X.b dX1_traced_35 rfl (lv_at hl 1 rfl) ?_
    refine lv_iload_n X.x X.b dX1_traced_36 rfl (lv_at hl 2 rfl) ?_
    refine f_ialdx X hh (j := y) (y := nI (ho I y (tln I))) (sh_89 G _) (by decide) rfl (by omega) (by decide) (hR2.2.2 _ (by omega)).2 dX1_traced_37 ?_
    exact f_iret X hh ⟨(if_pos c_1).symm, (hf1.s (by decide) (by decide)).tr hf2.s⟩ dX1_traced_38
  · rw [show (if iN I = 0 ↔ iM I = 0 then (1 : Int32) else 0) = 0 from if_neg c_1]
    refine lv_if_eq (tgt := 24) X.x X.b dX1_traced_4 (by decide) (fun _ => ?_) (fun h9 => absurd (show _ by decide) h9)
    refine lv_bipush (v := (-6)) X.x X.b dX1_traced_24 (by decide) ?_
    exact f_iret X hh ⟨(if_neg c_1).symm, Frs.rf⟩ dX1_traced_26
set_option maxHeartbeats 4000000 in
set_option maxRecDepth 100000 in
theorem c_howManySungOn (l : Launch) (G : GG) {σ : Mem} {I : LI} {y : Nat} (hB : LB I) (hM : LM σ I) (hy : y < iM I) : Ci l G yX1_howManySungOn cX1_howManySungOn 2 (some .int) 5 118 [.ref (gad G 85), .int (nI y)] σ (fun r τ => r = (if (iN I = 0 ↔ iM I = 0) then nI (ho I y (tln I)) else -6) ∧ Frs σ τ) := by
  refine Ci.of (own := RX1) (by decide) rfl (Nat.le_of_ble_eq_true rfl) (fun p e s m args below meth c ls H locs X hl hh => ?_)
  have hl : lv_has ls 2 [(0, .ref (gad G 85)), (1, .int (nI y))] := hl
  refine lv_aload_n X.x X.b dX1_howManySungOn_0 rfl (lv_at hl 0 rfl) ?_
  refine lv_aload_n X.x X.b dX1_howManySungOn_1 rfl (lv_at hl 0 rfl) ?_
  refine f_get X hh (v := .ref (gad G 89)) (sh_85 G _) (by decide) rfl in_X1 10 (by decide) kf_X1_51 rfl dX1_howManySungOn_2 ?_
  refine lv_iload_n X.x X.b dX1_howManySungOn_5 rfl (lv_at hl 1 rfl) ?_
  refine f_calli X hh (c_traced89 l G hB hM hy) mf_yX1_traced ki_yX1_traced kl_yX1_traced km_X1_132 (sh_85 G _) (by decide) rfl rfl hl.1 [] rfl (Nat.le_of_ble_eq_true rfl) ⟨by decide, by decide⟩ ⟨Nat.zero_le _, Nat.zero_le _⟩ dX1_howManySungOn_6 (fun r τ H locs hq hh => ?_)
  obtain ⟨rfl, hf1⟩ := hq
  exact f_iret X hh ⟨rfl, hf1⟩ dX1_howManySungOn_9
end
section
/-! the state as the document has it, and what each call answers -/
abbrev BKs : Type := (Nat → Nat) × (Nat → Nat → Nat) × (Nat → Nat → Nat) × (Nat → Nat)
def bN (B : BKs) : Nat → Nat := B.1
def bW (B : BKs) : Nat → Nat → Nat := B.2.1
def bZ (B : BKs) : Nat → Nat → Nat := B.2.2.1
def bU (B : BKs) : Nat → Nat := B.2.2.2
abbrev AS : Type := (Nat × (Nat → Nat)) × BKs × (Nat → BKs) × (Nat → Bool)
def apn (a : AS) : Nat := a.1.1
def apg (a : AS) : Nat → Nat := a.1.2
def aB (a : AS) : BKs := a.2.1
def aI (a : AS) : Nat → BKs := a.2.2.1
def aK (a : AS) : Nat → Bool := a.2.2.2
def BBd (B : BKs) : Prop := (∀ q, q < 3 → bN B q ≤ 9 ∧ ∀ i, i < bN B q → bW B q i ≤ 2 ∧ bZ B q i ≤ 1) ∧ (∀ q, 3 ≤ q → q < 7 → bN B q ≤ 11 ∧ ∀ i, i < bN B q → bW B q i ≤ 2 ∧ bZ B q i ≤ 4) ∧ ∀ k, k < 4 → bU B k ≤ 9
def AOK (a : AS) : Prop := apn a ≤ 22 ∧ (∀ i, i < apn a → 33 ≤ apg a i ∧ apg a i ≤ 126) ∧ BBd (aB a) ∧ ∀ k, k < 2 → aK a k = true → BBd (aI a k)
def kbit (a : AS) : Nat := (if aK a 0 = true then 1 else 0) + (if aK a 1 = true then 2 else 0)
def inst (a : AS) (i j : Nat) : LI := ((bN (aB a) i, bW (aB a) i, bZ (aB a) i), (bN (aB a) (3 + j), bW (aB a) (3 + j), bZ (aB a) (3 + j)), bU (aB a))
def instT (a : AS) (i j k : Nat) : LI := ((bN (aB a) i, bW (aB a) i, bZ (aB a) i), (bN (aB a) (3 + j), (fun x => bW (aB a) (3 + j) ((x + k) % bN (aB a) (3 + j))), (fun x => bZ (aB a) (3 + j) ((x + k) % bN (aB a) (3 + j)))), bU (aB a))
def instA (a : AS) (i j s v : Nat) : LI := ((bN (aB a) i, (fun x => if x = s then v else bW (aB a) i x), bZ (aB a) i), (bN (aB a) (3 + j), bW (aB a) (3 + j), bZ (aB a) (3 + j)), bU (aB a))
theorem inst_ok {a : AS} (h : AOK a) {i j : Nat} (hi : i < 3) (hj : j < 4) : LB (inst a i j) := by
  obtain ⟨-, -, ⟨h1, h2, h3⟩, -⟩ := h
  exact ⟨(h1 i hi).1, (h2 (3 + j) (by omega) (by omega)).1, fun x hx => ((h1 i hi).2 x hx).1, fun x hx => ((h2 (3 + j) (by omega) (by omega)).2 x hx).1, h3, fun x hx => ((h1 i hi).2 x hx).2, fun x hx => ((h2 (3 + j) (by omega) (by omega)).2 x hx).2⟩
theorem instT_ok {a : AS} (h : AOK a) {i j k : Nat} (hi : i < 3) (hj : j < 4) : LB (instT a i j k) := by
  obtain ⟨-, -, ⟨h1, h2, h3⟩, -⟩ := h
  refine ⟨(h1 i hi).1, (h2 (3 + j) (by omega) (by omega)).1, fun x hx => ((h1 i hi).2 x hx).1, fun x hx => ?_, h3, fun x hx => ((h1 i hi).2 x hx).2, fun x hx => ?_⟩
  · exact ((h2 (3 + j) (by omega) (by omega)).2 _ (Nat.mod_lt _ (Nat.lt_of_le_of_lt (Nat.zero_le x) hx))).1
  · exact ((h2 (3 + j) (by omega) (by omega)).2 _ (Nat.mod_lt _ (Nat.lt_of_le_of_lt (Nat.zero_le x) hx))).2
theorem instA_ok {a : AS} (h : AOK a) {i j s v : Nat} (hi : i < 3) (hj : j < 4) (hv : v ≤ 2) : LB (instA a i j s v) := by
  obtain ⟨-, -, ⟨h1, h2, h3⟩, -⟩ := h
  refine ⟨(h1 i hi).1, (h2 (3 + j) (by omega) (by omega)).1, fun x hx => ?_, fun x hx => ((h2 (3 + j) (by omega) (by omega)).2 x hx).1, h3, fun x hx => ((h1 i hi).2 x hx).2, fun x hx => ((h2 (3 + j) (by omega) (by omega)).2 x hx).2⟩
  show (if x = s then v else bW (aB a) i x) ≤ 2
  split
  · exact hv
  · exact ((h1 i hi).2 x hx).1
/-- numbers from a to b -/
abbrev inB (x : Int32) (a b : Nat) : Prop := (a : Int) ≤ x.toInt ∧ x.toInt ≤ (b : Int)
def ix (x : Int32) : Nat := x.toNatClampNeg
theorem ix_nI {k : Nat} (h : k < 2 ^ 31) : ix (nI k) = k := nI_clamp h
theorem inB_of {x : Int32} {a b : Nat} (h : inB x a b) (hb : b < 2 ^ 30) : ∃ k, a ≤ k ∧ k ≤ b ∧ x = nI k := by
  obtain ⟨k, h1, h2⟩ := vp_in_of (x := x) (n := b + 1) (vp_in_iff.mpr ⟨by omega, by omega⟩) (by omega)
  subst h2
  have := nI_toInt (n := k) (by omega)
  exact ⟨k, by omega, by omega, rfl⟩
theorem inB_nI {k a b : Nat} (hk : k < 2 ^ 31) : inB (nI k) a b ↔ a ≤ k ∧ k ≤ b := by
  unfold inB
  rw [nI_toInt hk]
  omega
theorem inB_w (x : Int32) {a b : Nat} (ha : a < 2 ^ 31) (hb : b < 2 ^ 31) : (nI a ≤ x ∧ x ≤ nI b) = inB x a b := by
  rw [Int32.le_iff_toInt_le, Int32.le_iff_toInt_le, nI_toInt ha, nI_toInt hb]
theorem inB_R (x : Int32) (n : Nat) : inB x 0 n ↔ inR x (n + 1) := by
  unfold inB inR
  omega
theorem c_withinB (l : Launch) (G : GG) {σ : Mem} (x : Int32) (a b : Nat) (ha : a < 2 ^ 31) (hb : b < 2 ^ 31) : Ci l G yX4_isWithin cX4_isWithin 3 (some .boolean) 0 0 [.int x, .int (nI a), .int (nI b)] σ (fun r τ => r = (if inB x a b then 1 else 0) ∧ τ = σ) := by
  have h := c_isWithin l G (σ := σ) x (nI a) (nI b)
  simp only [inB_w x ha hb] at h
  exact h
/-- the first of the least, as one goes through the places -/
def bst (f : Nat → Int32) : Nat → Int32 × Int32
  | 0 => (-6, -6)
  | k + 1 => if f k ≠ -6 ∧ ((bst f k).2 = -6 ∨ f k < (bst f k).2) then (nI k, f k) else bst f k
def anw (f : Nat → Nat → Int32) (c0 : Int32) : Nat → Int32 × Int32 × Int32
  | 0 => (-6, -6, c0)
  | e + 1 => if f (e / 3) (e % 3) ≠ -6 ∧ ((anw f c0 e).2.2 = -6 ∨ f (e / 3) (e % 3) < (anw f c0 e).2.2) then (nI (e / 3), nI (e % 3), f (e / 3) (e % 3)) else anw f c0 e
def vsum (a : AS) (j : Nat) : Nat → Nat := sumN (fun i => if bN (aB a) i = 0 then 0 else (TT (inst a i j) 0 0).1)
def vsN (a : AS) (j : Nat) : Int32 := if bN (aB a) (3 + j) = 0 ∨ sumN (fun i => bN (aB a) i) 3 = 0 then -6 else nI (vsum a j 3)
-- answers
def sp_say (x : Int32) (a : AS) : Int32 := if inB x 33 126 then (if 22 ≤ apn a then -4 else nI (apn a + 1)) else -2
def ns_say (x : Int32) (a : AS) : AS := if inB x 33 126 then (if 22 ≤ apn a then a else ((apn a + 1, fun i => if i = apn a then ix x else apg a i), a.2)) else a
def ns_wipe (a : AS) : AS := ((0, apg a), a.2)
def sp_fault (x : Int32) (a : AS) : Int32 := if inB x 0 1 then (if x = 0 then lans (apg a) (apn a) else tans (apg a) (apn a)) else -2
def bset (B : BKs) (q n : Nat) (w z : Nat → Nat) : BKs := ((fun k => if k = q then n else bN B k), (fun k => if k = q then w else bW B k), (fun k => if k = q then z else bZ B k), bU B)
def sp_line (x : Int32) (a : AS) : Int32 := if inB x 0 2 then (if lans (apg a) (apn a) = -6 then nI (rdn (apg a) (apn a)) else -7) else -1
def ns_line (x : Int32) (a : AS) : AS := if inB x 0 2 then (if lans (apg a) (apn a) = -6 then ((0, apg a), bset (aB a) (ix x) (rdn (apg a) (apn a)) (rdw (apg a) (apn a)) (rdz (apg a) (apn a)), a.2.2) else a) else a
def sp_tune (x : Int32) (a : AS) : Int32 := if inB x 0 3 then (if tans (apg a) (apn a) = -6 then nI (apn a / 2) else -7) else -1
def ns_tune (x : Int32) (a : AS) : AS := if inB x 0 3 then (if tans (apg a) (apn a) = -6 then ((0, apg a), bset (aB a) (3 + ix x) (apn a / 2) (fun j => apg a (2 * j) - 48) (fun j => apg a (2 * j + 1) - 48), a.2.2) else a) else a
def sp_rule (x v : Int32) (a : AS) : Int32 := if inB x 0 3 ∧ inB v 0 9 then nI (bU (aB a) (ix x)) else -2
def ns_rule (x v : Int32) (a : AS) : AS := if inB x 0 3 ∧ inB v 0 9 then (a.1, (bN (aB a), bW (aB a), bZ (aB a), fun k => if k = ix x then ix v else bU (aB a) k), a.2.2) else a
def prt (n : Nat) (w z : Nat → Nat) (i x : Int32) : Int32 := if inB x 0 1 then (if i = -1 then nI n else if inR i n then (if x = 0 then nI (w (ix i)) else nI (z (ix i))) else -6) else -2
def sp_syllable (l i x : Int32) (a : AS) : Int32 := if inB l 0 2 then prt (bN (aB a) (ix l)) (bW (aB a) (ix l)) (bZ (aB a) (ix l)) i x else -1
def sp_note (l i x : Int32) (a : AS) : Int32 := if inB l 0 3 then prt (bN (aB a) (3 + ix l)) (bW (aB a) (3 + ix l)) (bZ (aB a) (3 + ix l)) i x else -1
abbrev kno (l t : Int32) : Prop := inB l 0 2 ∧ inB t 0 3
def sp_cost (l t : Int32) (a : AS) : Int32 := if kno l t then (if ∀ i, i < apn a → isS (apg a i) = true then cres (inst a (ix l) (ix t)) (apg a) (apn a) else -7) else -1
def sp_least (l t i : Int32) (a : AS) : Int32 := if kno l t then (if i < -1 then -2 else if i = -1 then lcN (inst a (ix l) (ix t)) else lsN (inst a (ix l) (ix t)) (ix i)) else -1
def wy0 (I : LI) : Int32 := if (iN I = 0 ↔ iM I = 0) then nI (TT I 0 0).2.2.1 else nI 0
def lw0 (I : LI) : Int32 := if (iN I = 0 ↔ iM I = 0) then nI (TT I 0 0).2.2.2 else nI 0
def mo0 (I : LI) : Int32 := if (iN I = 0 ↔ iM I = 0) then nI (TT I 0 0).2.1 else -6
def sp_ways (l t x : Int32) (a : AS) : Int32 := if kno l t then (if inB x 0 2 then (if x = 0 then wy0 (inst a (ix l) (ix t)) else if x = 1 then lw0 (inst a (ix l) (ix t)) else mo0 (inst a (ix l) (ix t))) else -2) else -1
def fo0 (I : LI) (y : Nat) : Int32 := if (iN I = 0 ↔ iM I = 0) then fores (fo I y (tln I)) else -6
def ho0 (I : LI) (y : Nat) : Int32 := if (iN I = 0 ↔ iM I = 0) then nI (ho I y (tln I)) else -6
def sp_sung (l t j x : Int32) (a : AS) : Int32 := if kno l t then (if inR j (bN (aB a) (3 + ix t)) ∧ inB x 0 1 then (if x = 0 then fo0 (inst a (ix l) (ix t)) (ix j) else ho0 (inst a (ix l) (ix t)) (ix j)) else -2) else -1
def sp_verse (t : Int32) (a : AS) : Int32 := if inB t 0 3 then vsN a (ix t) else -1
def sp_best (x : Int32) (a : AS) : Int32 := if inB x 0 1 then (if x = 0 then (bst (vsN a) 4).1 else (bst (vsN a) 4).2) else -2
def tur (a : AS) (i j : Nat) : Nat → Int32 × Int32 := bst (fun k => lcN (instT a i j k))
def sp_turned (l t x : Int32) (a : AS) : Int32 := if kno l t then (if inB x 0 1 then (if x = 0 then (tur a (ix l) (ix t) (bN (aB a) (3 + ix t))).1 else (tur a (ix l) (ix t) (bN (aB a) (3 + ix t))).2) else -2) else -1
def anN (a : AS) (i j : Nat) : Nat → Int32 × Int32 × Int32 := anw (fun s v => lcN (instA a i j s v)) (lcN (inst a i j))
def anr (p : Int32 × Int32 × Int32) (x : Int32) : Int32 := if x = 2 then (if p.1 = -6 then -6 else p.2.2) else if x = 0 then p.1 else p.2.1
def sp_anew (l t x : Int32) (a : AS) : Int32 := if kno l t then (if inB x 0 2 then anr (anN a (ix l) (ix t) (3 * bN (aB a) (ix l))) x else -2) else -1
def sp_image (k : Int32) (_ : AS) : Int32 := if inB k 0 1 then nI 1 else -2
def ns_image (k : Int32) (a : AS) : AS := if inB k 0 1 then (a.1, aB a, (fun q => if q = ix k then aB a else aI a q), fun q => if q = ix k then true else aK a q) else a
def sp_restore (k : Int32) (a : AS) : Int32 := if inB k 0 1 then (if aK a (ix k) = true then nI 1 else -3) else -2
def ns_restore (k : Int32) (a : AS) : AS := if inB k 0 1 then (if aK a (ix k) = true then (a.1, aI a (ix k), a.2.2) else a) else a
def sp_count (x : Int32) (a : AS) : Int32 := if inB x 10 13 then nI (bU (aB a) (ix x - 10)) else if x = 0 then nI (sumN (fun j => bN (aB a) j) 3) else if x = 1 then nI (sumN (fun j => bN (aB a) (3 + j)) 4) else if x = 2 then nI (apn a) else if x = 3 then nI (sumN (fun j => sumN (bZ (aB a) (3 + j)) (bN (aB a) (3 + j))) 4) else if x = 4 then nI (kbit a) else -2
-- the class's cells that hold a state
def RC (σ : Mem) (a : AS) : Prop := PD σ (apn a) (apg a) ∧ BK σ 0 (bN (aB a)) (bW (aB a)) (bZ (aB a)) (bU (aB a)) ∧ (∀ k, k < 2 → aK a k = true → BK σ (1 + k) (bN (aI a k)) (bW (aI a k)) (bZ (aI a k)) (bU (aI a k))) ∧ σ 81 4 = nI (kbit a)
/-- what the class's methods leave: the model's cells -/
def FrC (σ τ : Mem) : Prop := ∀ k, 134 ≤ k → τ k = σ k
/-- only the loom's cells change -/
def FrT (σ τ : Mem) : Prop := ∀ k, (k < 63 ∨ (69 ≤ k ∧ k < 85) ∨ 134 ≤ k) → τ k = σ k
theorem FrT.rf {σ : Mem} : FrT σ σ := fun _ _ => rfl
theorem FrT.tr {σ τ υ : Mem} (h : FrT σ τ) (g : FrT τ υ) : FrT σ υ := fun k a => (g k a).trans (h k a)
theorem FrT.c {σ τ : Mem} (h : FrT σ τ) : FrC σ τ := fun k hk => h k (by omega)
theorem Frs.t {σ τ : Mem} (h : Frs σ τ) : FrT σ τ := fun k hk => h k (by omega)
theorem Frl.t {σ τ : Mem} (h : Frl σ τ) : FrT σ τ := fun k hk => h k (by omega) (by omega) (by omega)
theorem Frr.t {σ τ : Mem} {r : Nat} (hr : r = 21 ∨ r = 22) (h : Frr r σ τ) : FrT σ τ := fun k hk => h k (by omega)
theorem FrC.rf {σ : Mem} : FrC σ σ := fun _ _ => rfl
theorem RW.kk {σ τ : Mem} {r n : Nat} {w z : Nat → Nat} (h : RW σ r n w z) (hk : ∀ k, k / 3 = r → τ k = σ k) : RW τ r n w z := by
  obtain ⟨h1, h2, h3, h4⟩ := h
  refine ⟨?_, h2, fun i hi => ?_, fun i hi => ?_⟩
  · rw [hk _ (by omega)]; exact h1
  · rw [hk _ (by omega)]; exact h3 i hi
  · rw [hk _ (by omega)]; exact h4 i hi
theorem BK.kk {σ τ : Mem} {b : Nat} {N : Nat → Nat} {W Z : Nat → Nat → Nat} {U : Nat → Nat} (h : BK σ b N W Z U) (hk : ∀ k, k / 21 = b ∨ k = 69 + 4 * b + 3 → τ k = σ k) : BK τ b N W Z U := ⟨fun q hq => (h.1 q hq).kk (fun k h9 => hk k (by omega)), fun k h9 => by rw [hk _ (by omega)]; exact h.2 k h9⟩
theorem RC.kt {σ τ : Mem} {a : AS} (h : RC σ a) (f : FrT σ τ) : RC τ a := by
  obtain ⟨h1, h2, h3, h4⟩ := h
  refine ⟨h1.keep (f _ (by omega)) (f _ (by omega)), h2.kk (fun k hk => f k (by omega)), fun k hk h9 => (h3 k hk h9).kk (fun q hq => f q (by omega)), ?_⟩
  rw [f _ (by omega)]; exact h4
theorem LM.kk {σ τ : Mem} {I : LI} (h : LM σ I) (hk : ∀ k, k / 3 = 21 ∨ k / 3 = 22 ∨ k = 86 → τ k = σ k) : LM τ I := h.keep hk
end
section
/-! the class's public methods -/
theorem RC.pad {σ τ : Mem} {a : AS} {n : Nat} {g : Nat → Nat} (h : RC σ a) (hp : PD τ n g) (hk : ∀ k, k ≠ 83 → k ≠ 84 → τ k = σ k) : RC τ ((n, g), a.2) := by
  obtain ⟨h1, h2, h3, h4⟩ := h
  refine ⟨hp, h2.kk (fun k h9 => hk k (by omega) (by omega)), fun k h9 h8 => (h3 k h9 h8).kk (fun q hq => hk q (by omega) (by omega)), ?_⟩
  rw [hk _ (by omega) (by omega)]; exact h4
theorem BK.set {σ τ : Mem} {b q n : Nat} {N : Nat → Nat} {W Z : Nat → Nat → Nat} {U : Nat → Nat} {w z : Nat → Nat} (h : BK σ b N W Z U) (hb : b < 3) (hq : q < 7) (hr : RW τ (7 * b + q) n w z) (hf : Frr (7 * b + q) σ τ) : BK τ b (fun k => if k = q then n else N k) (fun k => if k = q then w else W k) (fun k => if k = q then z else Z k) U := by
  refine ⟨fun k hk => ?_, fun k hk => ?_⟩
  · by_cases e : k = q
    · subst e; simp only [if_pos]; exact hr
    · simp only [if_neg e]; exact (h.1 k hk).keep hf (by omega)
  · rw [hf _ (by omega)]; exact h.2 k hk
theorem RC.row {σ τ : Mem} {a : AS} {q n : Nat} {w z : Nat → Nat} (h : RC σ a) (hq : q < 7) (hr : RW τ (7 * 0 + q) n w z) (hf : Frr (7 * 0 + q) σ τ) : RC τ (a.1, bset (aB a) q n w z, a.2.2) := by
  obtain ⟨h1, h2, h3, h4⟩ := h
  refine ⟨h1.keep (hf _ (by omega)) (hf _ (by omega)), h2.set (by decide) hq hr hf, fun k h9 h8 => (h3 k h9 h8).kk (fun x hx => hf x (by omega)), ?_⟩
  rw [hf _ (by omega)]; exact h4
theorem lans_ok {g : Nat → Nat} {n : Nat} (hn : n ≤ 22) (h : lans g n = -6) : ∀ j, j < n → okL g j = true := by
  unfold lans at h
  cases hf : ffst (okL g) n with
  | none => exact ffst_all hf
  | some k => rw [hf] at h; have := ffst_lt hf; exact absurd h (nI_m6 (by omega))
theorem tans_ok {g : Nat → Nat} {n : Nat} (hn : n ≤ 22) (h : tans g n = -6) : (∀ j, j < n → okT g j = true) ∧ n % 2 = 0 := by
  unfold tans at h
  cases hf : ffst (okT g) n with
  | none =>
    rw [hf] at h
    refine ⟨ffst_all hf, ?_⟩
    by_cases e : n % 2 = 0
    · exact e
    · simp only [if_neg e] at h; exact absurd h (nI_m6 (by omega))
  | some k => rw [hf] at h; have := ffst_lt hf; exact absurd h (nI_m6 (by omega))
theorem ge0_of {x : Int32} (h1 : -1 ≤ x) (h2 : ¬ x = -1) : ∃ k, k < 2 ^ 31 ∧ x = nI k := by
  refine nI_of (fun h => h2 ?_)
  rw [Int32.lt_iff_toInt_lt] at h
  rw [Int32.le_iff_toInt_le] at h1
  have e1 : (-1 : Int32).toInt = -1 := by decide
  have e0 : (0 : Int32).toInt = 0 := by decide
  apply Int32.toInt_inj.mp
  omega
theorem nI_z {k : Nat} (h : k < 2 ^ 31) : nI k = 0 ↔ k = 0 := nI_eq (b := 0) h (by decide)
set_option maxHeartbeats 4000000 in
set_option maxRecDepth 100000 in
theorem c4_isLine (l : Launch) (G : GG) {σ : Mem}  (x : Int32) : Ci l G yX4_isLine cX4_isLine 1 (some .boolean) 1 22 [.int x] σ (fun r τ => r = (if inB x 0 2 then 1 else 0) ∧ τ = σ) := by
  refine Ci.of (own := RX4) (by decide) rfl (Nat.le_of_ble_eq_true rfl) (fun p e s m args below meth c ls H locs X hl hh => ?_)
  have hl : lv_has ls 1 [(0, .int x)] := hl
  refine lv_iload_n X.x X.b dX4_isLine_0 rfl (lv_at hl 0 rfl) ?_
  refine lv_iconst (v := nI 0) X.x X.b dX4_isLine_1 (by decide) ?_
  refine lv_iconst (v := nI 2) X.x X.b dX4_isLine_2 (by decide) ?_
  refine f_scalli X hh (c_withinB l G x 0 2 (by decide) (by decide)) mf_yX4_isWithin ks_yX4_isWithin km_X4_38 rfl hl.1 [] rfl (Nat.le_of_ble_eq_true rfl) ⟨by decide, by decide⟩ ⟨Nat.zero_le _, Nat.zero_le _⟩ dX4_isLine_3 (fun r τ H locs hq hh => ?_)
  obtain ⟨rfl, hτ⟩ := hq
  rw [hτ] at hh
  clear hτ
  exact f_zret X hh (by split <;> rfl) ⟨rfl, rfl⟩ dX4_isLine_6
set_option maxHeartbeats 4000000 in
set_option maxRecDepth 100000 in
theorem c4_isTune (l : Launch) (G : GG) {σ : Mem}  (x : Int32) : Ci l G yX4_isTune cX4_isTune 1 (some .boolean) 1 22 [.int x] σ (fun r τ => r = (if inB x 0 3 then 1 else 0) ∧ τ = σ) := by
  refine Ci.of (own := RX4) (by decide) rfl (Nat.le_of_ble_eq_true rfl) (fun p e s m args below meth c ls H locs X hl hh => ?_)
  have hl : lv_has ls 1 [(0, .int x)] := hl
  refine lv_iload_n X.x X.b dX4_isTune_0 rfl (lv_at hl 0 rfl) ?_
  refine lv_iconst (v := nI 0) X.x X.b dX4_isTune_1 (by decide) ?_
  refine lv_iconst (v := nI 3) X.x X.b dX4_isTune_2 (by decide) ?_
  refine f_scalli X hh (c_withinB l G x 0 3 (by decide) (by decide)) mf_yX4_isWithin ks_yX4_isWithin km_X4_38 rfl hl.1 [] rfl (Nat.le_of_ble_eq_true rfl) ⟨by decide, by decide⟩ ⟨Nat.zero_le _, Nat.zero_le _⟩ dX4_isTune_3 (fun r τ H locs hq hh => ?_)
  obtain ⟨rfl, hτ⟩ := hq
  rw [hτ] at hh
  clear hτ
  exact f_zret X hh (by split <;> rfl) ⟨rfl, rfl⟩ dX4_isTune_6
set_option maxHeartbeats 4000000 in
set_option maxRecDepth 100000 in
theorem c4_areKnown (l : Launch) (G : GG) {σ : Mem}  (x y : Int32) : Ci l G yX4_areKnown cX4_areKnown 2 (some .boolean) 2 42 [.int x, .int y] σ (fun r τ => r = (if kno x y then 1 else 0) ∧ τ = σ) := by
  refine Ci.of (own := RX4) (by decide) rfl (Nat.le_of_ble_eq_true rfl) (fun p e s m args below meth c ls H locs X hl hh => ?_)
  have hl : lv_has ls 2 [(0, .int x), (1, .int y)] := hl
  refine lv_iload_n X.x X.b dX4_areKnown_0 rfl (lv_at hl 0 rfl) ?_
  refine f_scalli X hh (c4_isLine l G x) mf_yX4_isLine ks_yX4_isLine km_X4_59 rfl hl.1 [] rfl (Nat.le_of_ble_eq_true rfl) ⟨by decide, by decide⟩ ⟨Nat.zero_le _, Nat.zero_le _⟩ dX4_areKnown_1 (fun r τ H locs hq hh => ?_)
  obtain ⟨rfl, hτ⟩ := hq
  rw [hτ] at hh
  clear hτ
  by_cases c_1 : inB x 0 2
  · rw [show (if inB x 0 2 then (1 : Int32) else 0) = 1 from if_pos c_1]
    refine lv_if_eq (tgt := 18) X.x X.b dX4_areKnown_4 (by decide) (fun h9 => absurd h9 (by decide)) (fun _ => ?_)
    refine lv_iload_n X.x X.b dX4_areKnown_7 rfl (lv_at hl 1 rfl) ?_
    refine f_scalli X hh (c4_isTune l G y) mf_yX4_isTune ks_yX4_isTune km_X4_74 rfl hl.1 [] rfl (Nat.le_of_ble_eq_true rfl) ⟨by decide, by decide⟩ ⟨Nat.zero_le _, Nat.zero_le _⟩ dX4_areKnown_8 (fun r τ H locs hq hh => ?_)
    obtain ⟨rfl, hτ⟩ := hq
    rw [hτ] at hh
    clear hτ
    by_cases c_3 : inB y 0 3
    · rw [show (if inB y 0 3 then (1 : Int32) else 0) = 1 from if_pos c_3]
      refine lv_if_eq (tgt := 18) X.x X.b dX4_areKnown_11 (by decide) (fun h9 => absurd h9 (by decide)) (fun _ => ?_)
      refine lv_iconst (v := nI 1) X.x X.b dX4_areKnown_14 (by decide) ?_
      refine lv_goto (tgt := 19) X.x X.b dX4_areKnown_15 (by decide) ?_
      exact f_zret X hh rfl ⟨(if_pos ⟨c_1, c_3⟩).symm, rfl⟩ dX4_areKnown_19
    · rw [show (if inB y 0 3 then (1 : Int32) else 0) = 0 from if_neg c_3]
      refine lv_if_eq (tgt := 18) X.x X.b dX4_areKnown_11 (by decide) (fun _ => ?_) (fun h9 => absurd (show _ by decide) h9)
      refine lv_iconst (v := nI 0) X.x X.b dX4_areKnown_18 (by decide) ?_
      exact f_zret X hh rfl ⟨(if_neg (fun q9 => c_3 q9.2)).symm, rfl⟩ dX4_areKnown_19
  · rw [show (if inB x 0 2 then (1 : Int32) else 0) = 0 from if_neg c_1]
    refine lv_if_eq (tgt := 18) X.x X.b dX4_areKnown_4 (by decide) (fun _ => ?_) (fun h9 => absurd (show _ by decide) h9)
    refine lv_iconst (v := nI 0) X.x X.b dX4_areKnown_18 (by decide) ?_
    exact f_zret X hh rfl ⟨(if_neg (fun q9 => c_1 q9.1)).symm, rfl⟩ dX4_areKnown_19
set_option maxHeartbeats 4000000 in
set_option maxRecDepth 100000 in
theorem c4_say (l : Launch) (G : GG) {σ : Mem} {a : AS} (x : Int32) (hA : AOK a) (hR : RC σ a) : Ci l G yX4_say cX4_say 2 (some .int) 1 22 [.ref (gad G 81), .int x] σ (fun r τ => r = sp_say x a ∧ RC τ (ns_say x a) ∧ FrC σ τ) := by
  refine Ci.of (own := RX4) (by decide) rfl (Nat.le_of_ble_eq_true rfl) (fun p e s m args below meth c ls H locs X hl hh => ?_)
  have hn := hA.1
  have hl : lv_has ls 2 [(0, .ref (gad G 81)), (1, .int x)] := hl
  refine lv_iload_n X.x X.b dX4_say_0 rfl (lv_at hl 1 rfl) ?_
  refine lv_bipush (v := nI 33) X.x X.b dX4_say_1 (by decide) ?_
  refine lv_bipush (v := nI 126) X.x X.b dX4_say_3 (by decide) ?_
  refine f_scalli X hh (c_withinB l G x 33 126 (by decide) (by decide)) mf_yX4_isWithin ks_yX4_isWithin km_X4_38 rfl hl.1 [] rfl (Nat.le_of_ble_eq_true rfl) ⟨by decide, by decide⟩ ⟨Nat.zero_le _, Nat.zero_le _⟩ dX4_say_5 (fun r τ H locs hq hh => ?_)
  obtain ⟨rfl, hτ⟩ := hq
  rw [hτ] at hh
  clear hτ
  by_cases c_1 : inB x 33 126
  · rw [show (if inB x 33 126 then (1 : Int32) else 0) = 1 from if_pos c_1]
    obtain ⟨k, ha_k, hb_k, rfl⟩ := inB_of c_1 (by decide)
    refine lv_if_ne (tgt := 14) X.x X.b dX4_say_8 (by decide) (fun _ => ?_) (fun h9 => absurd h9 (by decide))
    refine lv_aload_n X.x X.b dX4_say_14 rfl (lv_at hl 0 rfl) ?_
    refine f_get X hh (v := .ref (gad G 83)) (sh_81 G _) (by decide) rfl in_X4 0 (by decide) kf_X4_12 rfl dX4_say_15 ?_
    refine f_geti X hh (x := nI (apn a)) (sh_83 G _) (by decide) rfl in_X2 1 (by decide) kf_X4_42 rfl hR.1.1 dX4_say_18 ?_
    refine lv_bipush (v := nI 22) X.x X.b dX4_say_21 (by decide) ?_
    refine lv_icmp_lt (tgt := 29) X.x X.b dX4_say_23 (by decide) (fun c_3 => ?_) (fun c_3 => ?_)
    · have c_3 : (apn a) < 22 := (nI_ltI (a := (apn a)) (b := 22) (by omega) (by omega)).mp c_3
      refine lv_aload_n X.x X.b dX4_say_29 rfl (lv_at hl 0 rfl) ?_
      refine f_get X hh (v := .ref (gad G 83)) (sh_81 G _) (by decide) rfl in_X4 0 (by decide) kf_X4_12 rfl dX4_say_30 ?_
      refine lv_iload_n X.x X.b dX4_say_33 rfl (lv_at hl 1 rfl) ?_
      refine f_callv X hh (c_put l G (x := k) hR.1 (by omega) (by omega)) mf_yX2_put ki_yX2_put kl_yX2_put km_X4_45 (sh_83 G _) (by decide) rfl rfl hl.1 [] rfl (Nat.le_of_ble_eq_true rfl) ⟨by decide, by decide⟩ ⟨Nat.zero_le _, Nat.zero_le _⟩ dX4_say_34 (fun τ H locs hq hh => ?_)
      obtain ⟨hp1, hf1⟩ := hq
      refine lv_aload_n X.x X.b dX4_say_37 rfl (lv_at hl 0 rfl) ?_
      refine f_get X hh (v := .ref (gad G 83)) (sh_81 G _) (by decide) rfl in_X4 0 (by decide) kf_X4_12 rfl dX4_say_38 ?_
      refine f_geti X hh (x := nI (apn a + 1)) (sh_83 G _) (by decide) rfl in_X2 1 (by decide) kf_X4_42 rfl hp1.1 dX4_say_41 ?_
      exact f_iret X hh ⟨by unfold sp_say; rw [if_pos c_1, if_neg (by omega)], by unfold ns_say; rw [if_pos c_1, if_neg (by omega), ix_nI (by omega)]; exact hR.pad hp1 hf1, fun k9 h9 => hf1 k9 (by omega) (by omega)⟩ dX4_say_44
    · have c_3 : ¬ (apn a) < 22 := fun q9 => c_3 ((nI_ltI (a := (apn a)) (b := 22) (by omega) (by omega)).mpr q9)
      refine lv_bipush (v := (-4)) X.x X.b dX4_say_26 (by decide) ?_
      exact f_iret X hh ⟨by unfold sp_say; rw [if_pos c_1, if_pos (by omega)], by unfold ns_say; rw [if_pos c_1, if_pos (by omega)]; exact hR, FrC.rf⟩ dX4_say_28
  · rw [show (if inB x 33 126 then (1 : Int32) else 0) = 0 from if_neg c_1]
    refine lv_if_ne (tgt := 14) X.x X.b dX4_say_8 (by decide) (fun h9 => absurd (show _ by decide) h9) (fun _ => ?_)
    refine lv_bipush (v := (-2)) X.x X.b dX4_say_11 (by decide) ?_
    exact f_iret X hh ⟨(if_neg c_1).symm, by unfold ns_say; rw [if_neg c_1]; exact hR, FrC.rf⟩ dX4_say_13
set_option maxHeartbeats 4000000 in
set_option maxRecDepth 100000 in
theorem c4_wipe (l : Launch) (G : GG) {σ : Mem} {a : AS} (hA : AOK a) (hR : RC σ a) : Ci l G yX4_wipe cX4_wipe 2 (some .int) 1 20 [.ref (gad G 81)] σ (fun r τ => r = nI (apn a) ∧ RC τ (ns_wipe a) ∧ FrC σ τ) := by
  refine Ci.of (own := RX4) (by decide) rfl (Nat.le_of_ble_eq_true rfl) (fun p e s m args below meth c ls H locs X hl hh => ?_)
  have hl : lv_has ls 2 [(0, .ref (gad G 81))] := hl
  refine lv_aload_n X.x X.b dX4_wipe_0 rfl (lv_at hl 0 rfl) ?_
  refine f_get X hh (v := .ref (gad G 83)) (sh_81 G _) (by decide) rfl in_X4 0 (by decide) kf_X4_12 rfl dX4_wipe_1 ?_
  refine f_geti X hh (x := nI (apn a)) (sh_83 G _) (by decide) rfl in_X2 1 (by decide) kf_X4_42 rfl hR.1.1 dX4_wipe_4 ?_
  refine lv_istore_n (lv' := [(1, .int (nI (apn a))), (0, .ref (gad G 81))]) X.x X.b dX4_wipe_7 rfl hl (by decide) rfl (fun ls hl => ?_)
  refine lv_aload_n X.x X.b dX4_wipe_8 rfl (lv_at hl 1 rfl) ?_
  refine f_get X hh (v := .ref (gad G 83)) (sh_81 G _) (by decide) rfl in_X4 0 (by decide) kf_X4_12 rfl dX4_wipe_9 ?_
  refine f_callv X hh (c_pclear l G) mf_yX2_clear ki_yX2_clear kl_yX2_clear km_X4_49 (sh_83 G _) (by decide) rfl rfl hl.1 [] rfl (Nat.le_of_ble_eq_true rfl) ⟨by decide, by decide⟩ ⟨Nat.zero_le _, Nat.zero_le _⟩ dX4_wipe_12 (fun τ H locs hq hh => ?_)
  subst hq
  refine lv_iload_n X.x X.b dX4_wipe_15 rfl (lv_at hl 0 rfl) ?_
  exact f_iret X hh ⟨rfl, hR.pad (pd_clear (g := apg a)) (fun k9 h1 h2 => mset_n h1), fun k9 h9 => mset_n (by omega)⟩ dX4_wipe_16
set_option maxHeartbeats 4000000 in
set_option maxRecDepth 100000 in
theorem c4_fault (l : Launch) (G : GG) {σ : Mem} {a : AS} (x : Int32) (hA : AOK a) (hR : RC σ a) : Ci l G yX4_fault cX4_fault 2 (some .int) 2 45 [.ref (gad G 81), .int x] σ (fun r τ => r = sp_fault x a ∧ RC τ a ∧ FrC σ τ) := by
  refine Ci.of (own := RX4) (by decide) rfl (Nat.le_of_ble_eq_true rfl) (fun p e s m args below meth c ls H locs X hl hh => ?_)
  have hl : lv_has ls 2 [(0, .ref (gad G 81)), (1, .int x)] := hl
  refine lv_iload_n X.x X.b dX4_fault_0 rfl (lv_at hl 1 rfl) ?_
  refine lv_iconst (v := nI 0) X.x X.b dX4_fault_1 (by decide) ?_
  refine lv_iconst (v := nI 1) X.x X.b dX4_fault_2 (by decide) ?_
  refine f_scalli X hh (c_withinB l G x 0 1 (by decide) (by decide)) mf_yX4_isWithin ks_yX4_isWithin km_X4_38 rfl hl.1 [] rfl (Nat.le_of_ble_eq_true rfl) ⟨by decide, by decide⟩ ⟨Nat.zero_le _, Nat.zero_le _⟩ dX4_fault_3 (fun r τ H locs hq hh => ?_)
  obtain ⟨rfl, hτ⟩ := hq
  rw [hτ] at hh
  clear hτ
  by_cases c_1 : inB x 0 1
  · rw [show (if inB x 0 1 then (1 : Int32) else 0) = 1 from if_pos c_1]
    obtain ⟨k, ha_k, hb_k, rfl⟩ := inB_of c_1 (by decide)
    refine lv_if_ne (tgt := 12) X.x X.b dX4_fault_6 (by decide) (fun _ => ?_) (fun h9 => absurd h9 (by decide))
    refine lv_iload_n X.x X.b dX4_fault_12 rfl (lv_at hl 1 rfl) ?_
    refine lv_if_ne (tgt := 26) X.x X.b dX4_fault_13 (by decide) (fun c_3 => ?_) (fun c_3 => ?_)
    · have c_3 : ¬ k = 0 := fun q9 => c_3 ((nI_eq (a := k) (b := 0) (by omega) (by omega)).mpr q9)
      refine lv_aload_n X.x X.b dX4_fault_26 rfl (lv_at hl 0 rfl) ?_
      refine f_get X hh (v := .ref (gad G 83)) (sh_81 G _) (by decide) rfl in_X4 0 (by decide) kf_X4_12 rfl dX4_fault_27 ?_
      refine f_calli X hh (c_faultAsTune l G hR.1) mf_yX2_faultAsTune ki_yX2_faultAsTune kl_yX2_faultAsTune km_X4_56 (sh_83 G _) (by decide) rfl rfl hl.1 [] rfl (Nat.le_of_ble_eq_true rfl) ⟨by decide, by decide⟩ ⟨Nat.zero_le _, Nat.zero_le _⟩ dX4_fault_30 (fun r τ H locs hq hh => ?_)
      obtain ⟨rfl, hτ⟩ := hq
      rw [hτ] at hh
      clear hτ
      exact f_iret X hh ⟨by unfold sp_fault; rw [if_pos c_1, if_neg (fun q9 => c_3 ((nI_z (by omega)).mp q9))], hR, FrC.rf⟩ dX4_fault_33
    · have c_3 : k = 0 := (nI_eq (a := k) (b := 0) (by omega) (by omega)).mp c_3
      refine lv_aload_n X.x X.b dX4_fault_16 rfl (lv_at hl 0 rfl) ?_
      refine f_get X hh (v := .ref (gad G 83)) (sh_81 G _) (by decide) rfl in_X4 0 (by decide) kf_X4_12 rfl dX4_fault_17 ?_
      refine f_calli X hh (c_faultAsLine l G hR.1) mf_yX2_faultAsLine ki_yX2_faultAsLine kl_yX2_faultAsLine km_X4_52 (sh_83 G _) (by decide) rfl rfl hl.1 [] rfl (Nat.le_of_ble_eq_true rfl) ⟨by decide, by decide⟩ ⟨Nat.zero_le _, Nat.zero_le _⟩ dX4_fault_20 (fun r τ H locs hq hh => ?_)
      obtain ⟨rfl, hτ⟩ := hq
      rw [hτ] at hh
      clear hτ
      refine lv_goto (tgt := 33) X.x X.b dX4_fault_23 (by decide) ?_
      exact f_iret X hh ⟨by unfold sp_fault; rw [if_pos c_1, if_pos ((nI_z (by omega)).mpr c_3)], hR, FrC.rf⟩ dX4_fault_33
  · rw [show (if inB x 0 1 then (1 : Int32) else 0) = 0 from if_neg c_1]
    refine lv_if_ne (tgt := 12) X.x X.b dX4_fault_6 (by decide) (fun h9 => absurd (show _ by decide) h9) (fun _ => ?_)
    refine lv_bipush (v := (-2)) X.x X.b dX4_fault_9 (by decide) ?_
    exact f_iret X hh ⟨(if_neg c_1).symm, hR, FrC.rf⟩ dX4_fault_11
set_option maxHeartbeats 4000000 in
set_option maxRecDepth 100000 in
theorem c4_line (l : Launch) (G : GG) {σ : Mem} {a : AS} (x : Int32) (hA : AOK a) (hR : RC σ a) : Ci l G yX4_line cX4_line 3 (some .int) 2 45 [.ref (gad G 81), .int x] σ (fun r τ => r = sp_line x a ∧ RC τ (ns_line x a) ∧ FrC σ τ) := by
  refine Ci.of (own := RX4) (by decide) rfl (Nat.le_of_ble_eq_true rfl) (fun p e s m args below meth c ls H locs X hl hh => ?_)
  have hl : lv_has ls 3 [(0, .ref (gad G 81)), (1, .int x)] := hl
  refine lv_iload_n X.x X.b dX4_line_0 rfl (lv_at hl 1 rfl) ?_
  refine f_scalli X hh (c4_isLine l G x) mf_yX4_isLine ks_yX4_isLine km_X4_59 rfl hl.1 [] rfl (Nat.le_of_ble_eq_true rfl) ⟨by decide, by decide⟩ ⟨Nat.zero_le _, Nat.zero_le _⟩ dX4_line_1 (fun r τ H locs hq hh => ?_)
  obtain ⟨rfl, hτ⟩ := hq
  rw [hτ] at hh
  clear hτ
  by_cases c_1 : inB x 0 2
  · rw [show (if inB x 0 2 then (1 : Int32) else 0) = 1 from if_pos c_1]
    obtain ⟨i, ha_i, hb_i, rfl⟩ := inB_of c_1 (by decide)
    refine lv_if_ne (tgt := 9) X.x X.b dX4_line_4 (by decide) (fun _ => ?_) (fun h9 => absurd h9 (by decide))
    refine lv_aload_n X.x X.b dX4_line_9 rfl (lv_at hl 0 rfl) ?_
    refine f_get X hh (v := .ref (gad G 83)) (sh_81 G _) (by decide) rfl in_X4 0 (by decide) kf_X4_12 rfl dX4_line_10 ?_
    refine f_calli X hh (c_faultAsLine l G hR.1) mf_yX2_faultAsLine ki_yX2_faultAsLine kl_yX2_faultAsLine km_X4_52 (sh_83 G _) (by decide) rfl rfl hl.1 [] rfl (Nat.le_of_ble_eq_true rfl) ⟨by decide, by decide⟩ ⟨Nat.zero_le _, Nat.zero_le _⟩ dX4_line_13 (fun r τ H locs hq hh => ?_)
    obtain ⟨rfl, hτ⟩ := hq
    rw [hτ] at hh
    clear hτ
    refine lv_bipush (v := (-6)) X.x X.b dX4_line_16 (by decide) ?_
    refine lv_icmp_eq (tgt := 24) X.x X.b dX4_line_18 (by decide) (fun c_3 => ?_) (fun c_3 => ?_)
    · refine lv_aload_n X.x X.b dX4_line_24 rfl (lv_at hl 0 rfl) ?_
      refine f_get X hh (v := .ref (gad G 69)) (sh_81 G _) (by decide) rfl in_X4 1 (by decide) kf_X4_19 rfl dX4_line_25 ?_
      refine f_get X hh (v := .ref (gad G 70)) (sh_69 G _) (by decide) rfl in_X0 0 (by decide) kf_X4_63 rfl dX4_line_28 ?_
      refine lv_iload_n X.x X.b dX4_line_31 rfl (lv_at hl 1 rfl) ?_
      refine f_aald X hh (j := i) 2 (sh_70 G _) rfl rfl (by decide) rfl (by omega) (by decide) dX4_line_32 ?_
      refine lv_astore_n (lv' := [(2, .ref (gad G (3 * (7 * 0 + i)))), (0, .ref (gad G 81)), (1, .int (nI i))]) X.x X.b dX4_line_33 rfl hl (by decide) rfl (fun ls hl => ?_)
      refine lv_aload_n X.x X.b dX4_line_34 rfl (lv_at hl 1 rfl) ?_
      refine f_get X hh (v := .ref (gad G 83)) (sh_81 G _) (by decide) rfl in_X4 0 (by decide) kf_X4_12 rfl dX4_line_35 ?_
      refine lv_aload_n X.x X.b dX4_line_38 rfl (lv_at hl 0 rfl) ?_
      refine f_callv X hh (c_readLine l G (r := 7 * 0 + i) (by omega) hR.1 (lans_ok hA.1 c_3)) mf_yX2_readLine ki_yX2_readLine kl_yX2_readLine km_X4_67 (sh_83 G _) (by decide) rfl rfl hl.1 [] rfl (Nat.le_of_ble_eq_true rfl) ⟨by decide, by decide⟩ ⟨Nat.zero_le _, Nat.zero_le _⟩ dX4_line_39 (fun τ H locs hq hh => ?_)
      obtain ⟨hv1, hf1⟩ := hq
      refine lv_aload_n X.x X.b dX4_line_42 rfl (lv_at hl 1 rfl) ?_
      refine f_get X hh (v := .ref (gad G 83)) (sh_81 G _) (by decide) rfl in_X4 0 (by decide) kf_X4_12 rfl dX4_line_43 ?_
      refine f_callv X hh (c_pclear l G) mf_yX2_clear ki_yX2_clear kl_yX2_clear km_X4_49 (sh_83 G _) (by decide) rfl rfl hl.1 [] rfl (Nat.le_of_ble_eq_true rfl) ⟨by decide, by decide⟩ ⟨Nat.zero_le _, Nat.zero_le _⟩ dX4_line_46 (fun τ H locs hq hh => ?_)
      subst hq
      refine lv_aload_n X.x X.b dX4_line_49 rfl (lv_at hl 0 rfl) ?_
      refine f_geti X hh (x := nI (rdn (apg a) (apn a))) (sh_row G (r := 7 * 0 + i) (by omega) _) (by omega) rfl in_X3 3 (by decide) kf_X4_71 rfl (by rw [mset_n (show 3 * (7 * 0 + i) ≠ 83 by omega)]; exact hv1.1) dX4_line_50 ?_
      exact f_iret X hh ⟨by unfold sp_line; rw [if_pos c_1, if_pos c_3], by unfold ns_line; rw [if_pos c_1, if_pos c_3, ix_nI (by omega)]; exact (hR.row (q := i) (by omega) hv1 hf1).pad (pd_clear (g := apg a)) (fun k9 h1 h2 => mset_n h1), fun k9 h9 => by rw [mset_n (by omega)]; exact hf1 k9 (by omega)⟩ dX4_line_53
    · refine lv_bipush (v := (-7)) X.x X.b dX4_line_21 (by decide) ?_
      exact f_iret X hh ⟨by unfold sp_line; rw [if_pos c_1, if_neg c_3], by unfold ns_line; rw [if_pos c_1, if_neg c_3]; exact hR, FrC.rf⟩ dX4_line_23
  · rw [show (if inB x 0 2 then (1 : Int32) else 0) = 0 from if_neg c_1]
    refine lv_if_ne (tgt := 9) X.x X.b dX4_line_4 (by decide) (fun h9 => absurd (show _ by decide) h9) (fun _ => ?_)
    refine lv_iconst (v := (-1)) X.x X.b dX4_line_7 (by decide) ?_
    exact f_iret X hh ⟨(if_neg c_1).symm, by unfold ns_line; rw [if_neg c_1]; exact hR, FrC.rf⟩ dX4_line_8
set_option maxHeartbeats 4000000 in
set_option maxRecDepth 100000 in
theorem c4_tune (l : Launch) (G : GG) {σ : Mem} {a : AS} (x : Int32) (hA : AOK a) (hR : RC σ a) : Ci l G yX4_tune cX4_tune 3 (some .int) 2 45 [.ref (gad G 81), .int x] σ (fun r τ => r = sp_tune x a ∧ RC τ (ns_tune x a) ∧ FrC σ τ) := by
  refine Ci.of (own := RX4) (by decide) rfl (Nat.le_of_ble_eq_true rfl) (fun p e s m args below meth c ls H locs X hl hh => ?_)
  have hl : lv_has ls 3 [(0, .ref (gad G 81)), (1, .int x)] := hl
  refine lv_iload_n X.x X.b dX4_tune_0 rfl (lv_at hl 1 rfl) ?_
  refine f_scalli X hh (c4_isTune l G x) mf_yX4_isTune ks_yX4_isTune km_X4_74 rfl hl.1 [] rfl (Nat.le_of_ble_eq_true rfl) ⟨by decide, by decide⟩ ⟨Nat.zero_le _, Nat.zero_le _⟩ dX4_tune_1 (fun r τ H locs hq hh => ?_)
  obtain ⟨rfl, hτ⟩ := hq
  rw [hτ] at hh
  clear hτ
  by_cases c_1 : inB x 0 3
  · rw [show (if inB x 0 3 then (1 : Int32) else 0) = 1 from if_pos c_1]
    obtain ⟨i, ha_i, hb_i, rfl⟩ := inB_of c_1 (by decide)
    refine lv_if_ne (tgt := 9) X.x X.b dX4_tune_4 (by decide) (fun _ => ?_) (fun h9 => absurd h9 (by decide))
    refine lv_aload_n X.x X.b dX4_tune_9 rfl (lv_at hl 0 rfl) ?_
    refine f_get X hh (v := .ref (gad G 83)) (sh_81 G _) (by decide) rfl in_X4 0 (by decide) kf_X4_12 rfl dX4_tune_10 ?_
    refine f_calli X hh (c_faultAsTune l G hR.1) mf_yX2_faultAsTune ki_yX2_faultAsTune kl_yX2_faultAsTune km_X4_56 (sh_83 G _) (by decide) rfl rfl hl.1 [] rfl (Nat.le_of_ble_eq_true rfl) ⟨by decide, by decide⟩ ⟨Nat.zero_le _, Nat.zero_le _⟩ dX4_tune_13 (fun r τ H locs hq hh => ?_)
    obtain ⟨rfl, hτ⟩ := hq
    rw [hτ] at hh
    clear hτ
    refine lv_bipush (v := (-6)) X.x X.b dX4_tune_16 (by decide) ?_
    refine lv_icmp_eq (tgt := 24) X.x X.b dX4_tune_18 (by decide) (fun c_3 => ?_) (fun c_3 => ?_)
    · refine lv_aload_n X.x X.b dX4_tune_24 rfl (lv_at hl 0 rfl) ?_
      refine f_get X hh (v := .ref (gad G 69)) (sh_81 G _) (by decide) rfl in_X4 1 (by decide) kf_X4_19 rfl dX4_tune_25 ?_
      refine f_get X hh (v := .ref (gad G 71)) (sh_69 G _) (by decide) rfl in_X0 1 (by decide) kf_X4_77 rfl dX4_tune_28 ?_
      refine lv_iload_n X.x X.b dX4_tune_31 rfl (lv_at hl 1 rfl) ?_
      refine f_aald X hh (j := i) 2 (sh_71 G _) rfl rfl (by decide) rfl (by omega) (by decide) dX4_tune_32 ?_
      refine lv_astore_n (lv' := [(2, .ref (gad G (3 * (7 * 0 + (3 + i))))), (0, .ref (gad G 81)), (1, .int (nI i))]) X.x X.b dX4_tune_33 rfl hl (by decide) rfl (fun ls hl => ?_)
      refine lv_aload_n X.x X.b dX4_tune_34 rfl (lv_at hl 1 rfl) ?_
      refine f_get X hh (v := .ref (gad G 83)) (sh_81 G _) (by decide) rfl in_X4 0 (by decide) kf_X4_12 rfl dX4_tune_35 ?_
      refine lv_aload_n X.x X.b dX4_tune_38 rfl (lv_at hl 0 rfl) ?_
      refine f_callv X hh (c_readTune l G (r := 7 * 0 + (3 + i)) (by omega) hR.1 (tans_ok hA.1 c_3).1 (tans_ok hA.1 c_3).2 (by rw [room_bk (by decide) (by omega), if_neg (by omega)])) mf_yX2_readTune ki_yX2_readTune kl_yX2_readTune km_X4_80 (sh_83 G _) (by decide) rfl rfl hl.1 [] rfl (Nat.le_of_ble_eq_true rfl) ⟨by decide, by decide⟩ ⟨Nat.zero_le _, Nat.zero_le _⟩ dX4_tune_39 (fun τ H locs hq hh => ?_)
      obtain ⟨hv1, hf1⟩ := hq
      refine lv_aload_n X.x X.b dX4_tune_42 rfl (lv_at hl 1 rfl) ?_
      refine f_get X hh (v := .ref (gad G 83)) (sh_81 G _) (by decide) rfl in_X4 0 (by decide) kf_X4_12 rfl dX4_tune_43 ?_
      refine f_callv X hh (c_pclear l G) mf_yX2_clear ki_yX2_clear kl_yX2_clear km_X4_49 (sh_83 G _) (by decide) rfl rfl hl.1 [] rfl (Nat.le_of_ble_eq_true rfl) ⟨by decide, by decide⟩ ⟨Nat.zero_le _, Nat.zero_le _⟩ dX4_tune_46 (fun τ H locs hq hh => ?_)
      subst hq
      refine lv_aload_n X.x X.b dX4_tune_49 rfl (lv_at hl 0 rfl) ?_
      refine f_geti X hh (x := nI (apn a / 2)) (sh_row G (r := 7 * 0 + (3 + i)) (by omega) _) (by omega) rfl in_X3 3 (by decide) kf_X4_71 rfl (by rw [mset_n (show 3 * (7 * 0 + (3 + i)) ≠ 83 by omega)]; exact hv1.1) dX4_tune_50 ?_
      exact f_iret X hh ⟨by unfold sp_tune; rw [if_pos c_1, if_pos c_3], by unfold ns_tune; rw [if_pos c_1, if_pos c_3, ix_nI (by omega)]; exact (hR.row (q := (3 + i)) (by omega) hv1 hf1).pad (pd_clear (g := apg a)) (fun k9 h1 h2 => mset_n h1), fun k9 h9 => by rw [mset_n (by omega)]; exact hf1 k9 (by omega)⟩ dX4_tune_53
    · refine lv_bipush (v := (-7)) X.x X.b dX4_tune_21 (by decide) ?_
      exact f_iret X hh ⟨by unfold sp_tune; rw [if_pos c_1, if_neg c_3], by unfold ns_tune; rw [if_pos c_1, if_neg c_3]; exact hR, FrC.rf⟩ dX4_tune_23
  · rw [show (if inB x 0 3 then (1 : Int32) else 0) = 0 from if_neg c_1]
    refine lv_if_ne (tgt := 9) X.x X.b dX4_tune_4 (by decide) (fun h9 => absurd (show _ by decide) h9) (fun _ => ?_)
    refine lv_iconst (v := (-1)) X.x X.b dX4_tune_7 (by decide) ?_
    exact f_iret X hh ⟨(if_neg c_1).symm, by unfold ns_tune; rw [if_neg c_1]; exact hR, FrC.rf⟩ dX4_tune_8
theorem RC.rul {σ : Mem} {a : AS} {k q : Nat} (h : RC σ a) (hk : k < 4) : RC (mset σ 72 k (nI q)) (a.1, (bN (aB a), bW (aB a), bZ (aB a), fun x => if x = k then q else bU (aB a) x), a.2.2) := by
  obtain ⟨h1, h2, h3, h4⟩ := h
  refine ⟨h1.keep (mset_n (by decide)) (mset_n (by decide)), ⟨fun x hx => (h2.1 x hx).kk (fun y hy => mset_n (by omega)), fun x hx => ?_⟩, fun x h9 h8 => (h3 x h9 h8).kk (fun y hy => mset_n (by omega)), ?_⟩
  · show mset σ 72 k (nI q) 72 x = nI (if x = k then q else bU (aB a) x)
    by_cases e : x = k
    · subst e; rw [mset_ss, if_pos rfl]
    · rw [mset_sn e, if_neg e]; exact h2.2 x hx
  · rw [mset_n (by decide)]; exact h4
set_option maxHeartbeats 4000000 in
set_option maxRecDepth 100000 in
theorem c4_rule (l : Launch) (G : GG) {σ : Mem} {a : AS} (x v : Int32) (hA : AOK a) (hR : RC σ a) : Ci l G yX4_rule cX4_rule 4 (some .int) 1 22 [.ref (gad G 81), .int x, .int v] σ (fun r τ => r = sp_rule x v a ∧ RC τ (ns_rule x v a) ∧ FrC σ τ) := by
  refine Ci.of (own := RX4) (by decide) rfl (Nat.le_of_ble_eq_true rfl) (fun p e s m args below meth c ls H locs X hl hh => ?_)
  have hl : lv_has ls 4 [(0, .ref (gad G 81)), (1, .int x), (2, .int v)] := hl
  refine lv_iload_n X.x X.b dX4_rule_0 rfl (lv_at hl 1 rfl) ?_
  refine lv_iconst (v := nI 0) X.x X.b dX4_rule_1 (by decide) ?_
  refine lv_iconst (v := nI 3) X.x X.b dX4_rule_2 (by decide) ?_
  refine f_scalli X hh (c_withinB l G x 0 3 (by decide) (by decide)) mf_yX4_isWithin ks_yX4_isWithin km_X4_38 rfl hl.1 [] rfl (Nat.le_of_ble_eq_true rfl) ⟨by decide, by decide⟩ ⟨Nat.zero_le _, Nat.zero_le _⟩ dX4_rule_3 (fun r τ H locs hq hh => ?_)
  obtain ⟨rfl, hτ⟩ := hq
  rw [hτ] at hh
  clear hτ
  by_cases c_1 : inB x 0 3
  · rw [show (if inB x 0 3 then (1 : Int32) else 0) = 1 from if_pos c_1]
    obtain ⟨k, ha_k, hb_k, rfl⟩ := inB_of c_1 (by decide)
    refine lv_if_eq (tgt := 19) X.x X.b dX4_rule_6 (by decide) (fun h9 => absurd h9 (by decide)) (fun _ => ?_)
    refine lv_iload_n X.x X.b dX4_rule_9 rfl (lv_at hl 2 rfl) ?_
    refine lv_iconst (v := nI 0) X.x X.b dX4_rule_10 (by decide) ?_
    refine lv_bipush (v := nI 9) X.x X.b dX4_rule_11 (by decide) ?_
    refine f_scalli X hh (c_withinB l G v 0 9 (by decide) (by decide)) mf_yX4_isWithin ks_yX4_isWithin km_X4_38 rfl hl.1 [] rfl (Nat.le_of_ble_eq_true rfl) ⟨by decide, by decide⟩ ⟨Nat.zero_le _, Nat.zero_le _⟩ dX4_rule_13 (fun r τ H locs hq hh => ?_)
    obtain ⟨rfl, hτ⟩ := hq
    rw [hτ] at hh
    clear hτ
    by_cases c_3 : inB v 0 9
    · rw [show (if inB v 0 9 then (1 : Int32) else 0) = 1 from if_pos c_3]
      obtain ⟨q, ha_q, hb_q, rfl⟩ := inB_of c_3 (by decide)
      refine lv_if_ne (tgt := 22) X.x X.b dX4_rule_16 (by decide) (fun _ => ?_) (fun h9 => absurd h9 (by decide))
      refine lv_aload_n X.x X.b dX4_rule_22 rfl (lv_at hl 0 rfl) ?_
      refine f_get X hh (v := .ref (gad G 69)) (sh_81 G _) (by decide) rfl in_X4 1 (by decide) kf_X4_19 rfl dX4_rule_23 ?_
      refine f_get X hh (v := .ref (gad G 72)) (sh_69 G _) (by decide) rfl in_X0 2 (by decide) kf_X4_83 rfl dX4_rule_26 ?_
      refine lv_iload_n X.x X.b dX4_rule_29 rfl (lv_at hl 1 rfl) ?_
      refine f_ialdx X hh (j := k) (y := nI (bU (aB a) k)) (sh_72 G _) (by decide) rfl (by omega) (by decide) (hR.2.1.2 _ (by omega)) dX4_rule_30 ?_
      refine lv_istore_n (lv' := [(3, .int (nI (bU (aB a) k))), (0, .ref (gad G 81)), (1, .int (nI k)), (2, .int (nI q))]) X.x X.b dX4_rule_31 rfl hl (by decide) rfl (fun ls hl => ?_)
      refine lv_aload_n X.x X.b dX4_rule_32 rfl (lv_at hl 1 rfl) ?_
      refine f_get X hh (v := .ref (gad G 69)) (sh_81 G _) (by decide) rfl in_X4 1 (by decide) kf_X4_19 rfl dX4_rule_33 ?_
      refine f_get X hh (v := .ref (gad G 72)) (sh_69 G _) (by decide) rfl in_X0 2 (by decide) kf_X4_83 rfl dX4_rule_36 ?_
      refine lv_iload_n X.x X.b dX4_rule_39 rfl (lv_at hl 2 rfl) ?_
      refine lv_iload_n X.x X.b dX4_rule_40 rfl (lv_at hl 3 rfl) ?_
      refine f_iast X hh (j := k) (sh_72 G) (by decide) rfl (by omega) (by decide) dX4_rule_41 (fun H locs hh => ?_)
      refine lv_iload_n X.x X.b dX4_rule_42 rfl (lv_at hl 0 rfl) ?_
      exact f_iret X hh ⟨by unfold sp_rule; rw [if_pos ⟨c_1, c_3⟩, ix_nI (by omega)], by unfold ns_rule; rw [if_pos ⟨c_1, c_3⟩, ix_nI (by omega), ix_nI (by omega)]; exact hR.rul (by omega), fun k9 h9 => mset_n (by omega)⟩ dX4_rule_43
    · rw [show (if inB v 0 9 then (1 : Int32) else 0) = 0 from if_neg c_3]
      refine lv_if_ne (tgt := 22) X.x X.b dX4_rule_16 (by decide) (fun h9 => absurd (show _ by decide) h9) (fun _ => ?_)
      refine lv_bipush (v := (-2)) X.x X.b dX4_rule_19 (by decide) ?_
      exact f_iret X hh ⟨(if_neg (fun q9 => c_3 q9.2)).symm, by unfold ns_rule; rw [if_neg (fun q9 => c_3 q9.2)]; exact hR, FrC.rf⟩ dX4_rule_21
  · rw [show (if inB x 0 3 then (1 : Int32) else 0) = 0 from if_neg c_1]
    refine lv_if_eq (tgt := 19) X.x X.b dX4_rule_6 (by decide) (fun _ => ?_) (fun h9 => absurd (show _ by decide) h9)
    refine lv_bipush (v := (-2)) X.x X.b dX4_rule_19 (by decide) ?_
    exact f_iret X hh ⟨(if_neg (fun q9 => c_1 q9.1)).symm, by unfold ns_rule; rw [if_neg (fun q9 => c_1 q9.1)]; exact hR, FrC.rf⟩ dX4_rule_21
set_option maxHeartbeats 4000000 in
set_option maxRecDepth 100000 in
theorem c4_partOf (l : Launch) (G : GG) {σ : Mem} {q n : Nat} {w z : Nat → Nat} (i x : Int32) (hq : q < 23) (hw : RW σ q n w z) : Ci l G yX4_partOf cX4_partOf 3 (some .int) 1 22 [.ref (gad G (3 * q)), .int i, .int x] σ (fun r τ => r = prt n w z i x ∧ τ = σ) := by
  refine Ci.of (own := RX4) (by decide) rfl (Nat.le_of_ble_eq_true rfl) (fun p e s m args below meth c ls H locs X hl hh => ?_)
  have hn := hw.2.1
  have hrm := room_le q
  have hl : lv_has ls 3 [(0, .ref (gad G (3 * q))), (1, .int i), (2, .int x)] := hl
  refine lv_iload_n X.x X.b dX4_partOf_0 rfl (lv_at hl 2 rfl) ?_
  refine lv_iconst (v := nI 0) X.x X.b dX4_partOf_1 (by decide) ?_
  refine lv_iconst (v := nI 1) X.x X.b dX4_partOf_2 (by decide) ?_
  refine f_scalli X hh (c_withinB l G x 0 1 (by decide) (by decide)) mf_yX4_isWithin ks_yX4_isWithin km_X4_38 rfl hl.1 [] rfl (Nat.le_of_ble_eq_true rfl) ⟨by decide, by decide⟩ ⟨Nat.zero_le _, Nat.zero_le _⟩ dX4_partOf_3 (fun r τ H locs hq hh => ?_)
  obtain ⟨rfl, hτ⟩ := hq
  rw [hτ] at hh
  clear hτ
  by_cases c_1 : inB x 0 1
  · rw [show (if inB x 0 1 then (1 : Int32) else 0) = 1 from if_pos c_1]
    obtain ⟨k, ha_k, hb_k, rfl⟩ := inB_of c_1 (by decide)
    refine lv_if_ne (tgt := 12) X.x X.b dX4_partOf_6 (by decide) (fun _ => ?_) (fun h9 => absurd h9 (by decide))
    refine lv_iload_n X.x X.b dX4_partOf_12 rfl (lv_at hl 1 rfl) ?_
    refine lv_iconst (v := (-1)) X.x X.b dX4_partOf_13 (by decide) ?_
    refine lv_icmp_ne (tgt := 22) X.x X.b dX4_partOf_14 (by decide) (fun c_3 => ?_) (fun c_3 => ?_)
    · refine lv_iload_n X.x X.b dX4_partOf_22 rfl (lv_at hl 1 rfl) ?_
      refine lv_iconst (v := nI 0) X.x X.b dX4_partOf_23 (by decide) ?_
      refine lv_aload_n X.x X.b dX4_partOf_24 rfl (lv_at hl 0 rfl) ?_
      refine f_geti X hh (x := nI n) (sh_row G (r := q) (by omega) _) (by omega) rfl in_X3 3 (by decide) kf_X4_71 rfl hw.1 dX4_partOf_25 ?_
      refine lv_iconst (v := nI 1) X.x X.b dX4_partOf_28 (by decide) ?_
      refine f_isub X (z := nI n - nI 1) rfl dX4_partOf_29 ?_
      refine f_scalli X hh (c_withinR l G i (n := n) (by omega)) mf_yX4_isWithin ks_yX4_isWithin km_X4_38 rfl hl.1 [] rfl (Nat.le_of_ble_eq_true rfl) ⟨by decide, by decide⟩ ⟨Nat.zero_le _, Nat.zero_le _⟩ dX4_partOf_30 (fun r τ H locs hq hh => ?_)
      obtain ⟨rfl, hτ⟩ := hq
      rw [hτ] at hh
      clear hτ
      by_cases c_4 : inR i n
      · rw [show (if inR i n then (1 : Int32) else 0) = 1 from if_pos c_4]
        obtain ⟨y, hy, rfl⟩ := inR_of c_4 (by omega)
        refine lv_if_ne (tgt := 39) X.x X.b dX4_partOf_33 (by decide) (fun _ => ?_) (fun h9 => absurd h9 (by decide))
        refine lv_iload_n X.x X.b dX4_partOf_39 rfl (lv_at hl 2 rfl) ?_
        refine lv_if_ne (tgt := 52) X.x X.b dX4_partOf_40 (by decide) (fun c_6 => ?_) (fun c_6 => ?_)
        · have c_6 : ¬ k = 0 := fun q9 => c_6 ((nI_eq (a := k) (b := 0) (by omega) (by omega)).mpr q9)
          refine lv_aload_n X.x X.b dX4_partOf_52 rfl (lv_at hl 0 rfl) ?_
          refine f_get X hh (v := .ref (gad G (3 * q + 2))) (sh_row G (r := q) (by omega) _) (by omega) rfl in_X3 2 (by decide) kf_X4_159 rfl dX4_partOf_53 ?_
          refine lv_iload_n X.x X.b dX4_partOf_56 rfl (lv_at hl 1 rfl) ?_
          refine f_ialdx X hh (j := y) (y := nI (z y)) (sh_rs G (r := q) (by omega) _) (by omega) rfl (by omega) (by unfold roomN; split <;> (try split) <;> decide) (hw.2.2.2 _ (by omega)) dX4_partOf_57 ?_
          exact f_iret X hh ⟨by unfold prt; rw [if_pos c_1, if_neg c_3, if_pos c_4, ix_nI (by omega), if_neg (fun q9 => c_6 ((nI_z (by omega)).mp q9))], rfl⟩ dX4_partOf_58
        · have c_6 : k = 0 := (nI_eq (a := k) (b := 0) (by omega) (by omega)).mp c_6
          refine lv_aload_n X.x X.b dX4_partOf_43 rfl (lv_at hl 0 rfl) ?_
          refine f_get X hh (v := .ref (gad G (3 * q + 1))) (sh_row G (r := q) (by omega) _) (by omega) rfl in_X3 1 (by decide) kf_X4_156 rfl dX4_partOf_44 ?_
          refine lv_iload_n X.x X.b dX4_partOf_47 rfl (lv_at hl 1 rfl) ?_
          refine f_ialdx X hh (j := y) (y := nI (w y)) (sh_rw G (r := q) (by omega) _) (by omega) rfl (by omega) (by unfold roomN; split <;> (try split) <;> decide) (hw.2.2.1 _ (by omega)) dX4_partOf_48 ?_
          refine lv_goto (tgt := 58) X.x X.b dX4_partOf_49 (by decide) ?_
          exact f_iret X hh ⟨by unfold prt; rw [if_pos c_1, if_neg c_3, if_pos c_4, ix_nI (by omega), if_pos ((nI_z (by omega)).mpr c_6)], rfl⟩ dX4_partOf_58
      · rw [show (if inR i n then (1 : Int32) else 0) = 0 from if_neg c_4]
        refine lv_if_ne (tgt := 39) X.x X.b dX4_partOf_33 (by decide) (fun h9 => absurd (show _ by decide) h9) (fun _ => ?_)
        refine lv_bipush (v := (-6)) X.x X.b dX4_partOf_36 (by decide) ?_
        exact f_iret X hh ⟨by unfold prt; rw [if_pos c_1, if_neg c_3, if_neg c_4], rfl⟩ dX4_partOf_38
    · refine lv_aload_n X.x X.b dX4_partOf_17 rfl (lv_at hl 0 rfl) ?_
      refine f_geti X hh (x := nI n) (sh_row G (r := q) (by omega) _) (by omega) rfl in_X3 3 (by decide) kf_X4_71 rfl hw.1 dX4_partOf_18 ?_
      exact f_iret X hh ⟨by unfold prt; rw [if_pos c_1, if_pos c_3], rfl⟩ dX4_partOf_21
  · rw [show (if inB x 0 1 then (1 : Int32) else 0) = 0 from if_neg c_1]
    refine lv_if_ne (tgt := 12) X.x X.b dX4_partOf_6 (by decide) (fun h9 => absurd (show _ by decide) h9) (fun _ => ?_)
    refine lv_bipush (v := (-2)) X.x X.b dX4_partOf_9 (by decide) ?_
    exact f_iret X hh ⟨(if_neg c_1).symm, rfl⟩ dX4_partOf_11
set_option maxHeartbeats 4000000 in
set_option maxRecDepth 100000 in
theorem c4_syllable (l : Launch) (G : GG) {σ : Mem} {a : AS} (x i v : Int32) (hA : AOK a) (hR : RC σ a) : Ci l G yX4_syllable cX4_syllable 4 (some .int) 2 44 [.ref (gad G 81), .int x, .int i, .int v] σ (fun r τ => r = sp_syllable x i v a ∧ RC τ a ∧ FrC σ τ) := by
  refine Ci.of (own := RX4) (by decide) rfl (Nat.le_of_ble_eq_true rfl) (fun p e s m args below meth c ls H locs X hl hh => ?_)
  have hl : lv_has ls 4 [(0, .ref (gad G 81)), (1, .int x), (2, .int i), (3, .int v)] := hl
  refine lv_iload_n X.x X.b dX4_syllable_0 rfl (lv_at hl 1 rfl) ?_
  refine f_scalli X hh (c4_isLine l G x) mf_yX4_isLine ks_yX4_isLine km_X4_59 rfl hl.1 [] rfl (Nat.le_of_ble_eq_true rfl) ⟨by decide, by decide⟩ ⟨Nat.zero_le _, Nat.zero_le _⟩ dX4_syllable_1 (fun r τ H locs hq hh => ?_)
  obtain ⟨rfl, hτ⟩ := hq
  rw [hτ] at hh
  clear hτ
  by_cases c_1 : inB x 0 2
  · rw [show (if inB x 0 2 then (1 : Int32) else 0) = 1 from if_pos c_1]
    obtain ⟨k, ha_k, hb_k, rfl⟩ := inB_of c_1 (by decide)
    refine lv_if_eq (tgt := 24) X.x X.b dX4_syllable_4 (by decide) (fun h9 => absurd h9 (by decide)) (fun _ => ?_)
    refine lv_aload_n X.x X.b dX4_syllable_7 rfl (lv_at hl 0 rfl) ?_
    refine f_get X hh (v := .ref (gad G 69)) (sh_81 G _) (by decide) rfl in_X4 1 (by decide) kf_X4_19 rfl dX4_syllable_8 ?_
    refine f_get X hh (v := .ref (gad G 70)) (sh_69 G _) (by decide) rfl in_X0 0 (by decide) kf_X4_63 rfl dX4_syllable_11 ?_
    refine lv_iload_n X.x X.b dX4_syllable_14 rfl (lv_at hl 1 rfl) ?_
    refine f_aald X hh (j := k) 2 (sh_70 G _) rfl rfl (by decide) rfl (by omega) (by decide) dX4_syllable_15 ?_
    refine lv_iload_n X.x X.b dX4_syllable_16 rfl (lv_at hl 2 rfl) ?_
    refine lv_iload_n X.x X.b dX4_syllable_17 rfl (lv_at hl 3 rfl) ?_
    refine f_scalli X hh (c4_partOf l G (q := 7 * 0 + k) i v (by omega) (hR.2.1.1 _ (by omega))) mf_yX4_partOf ks_yX4_partOf km_X4_87 rfl hl.1 [] rfl (Nat.le_of_ble_eq_true rfl) ⟨by decide, by decide⟩ ⟨Nat.zero_le _, Nat.zero_le _⟩ dX4_syllable_18 (fun r τ H locs hq hh => ?_)
    obtain ⟨rfl, hτ⟩ := hq
    rw [hτ] at hh
    clear hτ
    refine lv_goto (tgt := 25) X.x X.b dX4_syllable_21 (by decide) ?_
    exact f_iret X hh ⟨by unfold sp_syllable; rw [if_pos c_1, ix_nI (by omega)], hR, FrC.rf⟩ dX4_syllable_25
  · rw [show (if inB x 0 2 then (1 : Int32) else 0) = 0 from if_neg c_1]
    refine lv_if_eq (tgt := 24) X.x X.b dX4_syllable_4 (by decide) (fun _ => ?_) (fun h9 => absurd (show _ by decide) h9)
    refine lv_iconst (v := (-1)) X.x X.b dX4_syllable_24 (by decide) ?_
    exact f_iret X hh ⟨(if_neg c_1).symm, hR, FrC.rf⟩ dX4_syllable_25
set_option maxHeartbeats 4000000 in
set_option maxRecDepth 100000 in
theorem c4_note (l : Launch) (G : GG) {σ : Mem} {a : AS} (x i v : Int32) (hA : AOK a) (hR : RC σ a) : Ci l G yX4_note cX4_note 4 (some .int) 2 44 [.ref (gad G 81), .int x, .int i, .int v] σ (fun r τ => r = sp_note x i v a ∧ RC τ a ∧ FrC σ τ) := by
  refine Ci.of (own := RX4) (by decide) rfl (Nat.le_of_ble_eq_true rfl) (fun p e s m args below meth c ls H locs X hl hh => ?_)
  have hl : lv_has ls 4 [(0, .ref (gad G 81)), (1, .int x), (2, .int i), (3, .int v)] := hl
  refine lv_iload_n X.x X.b dX4_note_0 rfl (lv_at hl 1 rfl) ?_
  refine f_scalli X hh (c4_isTune l G x) mf_yX4_isTune ks_yX4_isTune km_X4_74 rfl hl.1 [] rfl (Nat.le_of_ble_eq_true rfl) ⟨by decide, by decide⟩ ⟨Nat.zero_le _, Nat.zero_le _⟩ dX4_note_1 (fun r τ H locs hq hh => ?_)
  obtain ⟨rfl, hτ⟩ := hq
  rw [hτ] at hh
  clear hτ
  by_cases c_1 : inB x 0 3
  · rw [show (if inB x 0 3 then (1 : Int32) else 0) = 1 from if_pos c_1]
    obtain ⟨k, ha_k, hb_k, rfl⟩ := inB_of c_1 (by decide)
    refine lv_if_eq (tgt := 24) X.x X.b dX4_note_4 (by decide) (fun h9 => absurd h9 (by decide)) (fun _ => ?_)
    refine lv_aload_n X.x X.b dX4_note_7 rfl (lv_at hl 0 rfl) ?_
    refine f_get X hh (v := .ref (gad G 69)) (sh_81 G _) (by decide) rfl in_X4 1 (by decide) kf_X4_19 rfl dX4_note_8 ?_
    refine f_get X hh (v := .ref (gad G 71)) (sh_69 G _) (by decide) rfl in_X0 1 (by decide) kf_X4_77 rfl dX4_note_11 ?_
    refine lv_iload_n X.x X.b dX4_note_14 rfl (lv_at hl 1 rfl) ?_
    refine f_aald X hh (j := k) 2 (sh_71 G _) rfl rfl (by decide) rfl (by omega) (by decide) dX4_note_15 ?_
    refine lv_iload_n X.x X.b dX4_note_16 rfl (lv_at hl 2 rfl) ?_
    refine lv_iload_n X.x X.b dX4_note_17 rfl (lv_at hl 3 rfl) ?_
    refine f_scalli X hh (c4_partOf l G (q := 7 * 0 + (3 + k)) i v (by omega) (hR.2.1.1 _ (by omega))) mf_yX4_partOf ks_yX4_partOf km_X4_87 rfl hl.1 [] rfl (Nat.le_of_ble_eq_true rfl) ⟨by decide, by decide⟩ ⟨Nat.zero_le _, Nat.zero_le _⟩ dX4_note_18 (fun r τ H locs hq hh => ?_)
    obtain ⟨rfl, hτ⟩ := hq
    rw [hτ] at hh
    clear hτ
    refine lv_goto (tgt := 25) X.x X.b dX4_note_21 (by decide) ?_
    exact f_iret X hh ⟨by unfold sp_note; rw [if_pos c_1, ix_nI (by omega)], hR, FrC.rf⟩ dX4_note_25
  · rw [show (if inB x 0 3 then (1 : Int32) else 0) = 0 from if_neg c_1]
    refine lv_if_eq (tgt := 24) X.x X.b dX4_note_4 (by decide) (fun _ => ?_) (fun h9 => absurd (show _ by decide) h9)
    refine lv_iconst (v := (-1)) X.x X.b dX4_note_24 (by decide) ?_
    exact f_iret X hh ⟨(if_neg c_1).symm, hR, FrC.rf⟩ dX4_note_25
end
section
set_option maxHeartbeats 4000000 in
set_option maxRecDepth 100000 in
theorem c4_cost (l : Launch) (G : GG) {σ : Mem} {a : AS} (x y : Int32) (hA : AOK a) (hR : RC σ a) : Ci l G yX4_cost cX4_cost 3 (some .int) 4 91 [.ref (gad G 81), .int x, .int y] σ (fun r τ => r = sp_cost x y a ∧ RC τ a ∧ FrC σ τ) := by
  refine Ci.of (own := RX4) (by decide) rfl (Nat.le_of_ble_eq_true rfl) (fun p e s m args below meth c ls H locs X hl hh => ?_)
  have hl : lv_has ls 3 [(0, .ref (gad G 81)), (1, .int x), (2, .int y)] := hl
  refine lv_iload_n X.x X.b dX4_cost_0 rfl (lv_at hl 1 rfl) ?_
  refine lv_iload_n X.x X.b dX4_cost_1 rfl (lv_at hl 2 rfl) ?_
  refine f_scalli X hh (c4_areKnown l G x y) mf_yX4_areKnown ks_yX4_areKnown km_X4_91 rfl hl.1 [] rfl (Nat.le_of_ble_eq_true rfl) ⟨by decide, by decide⟩ ⟨Nat.zero_le _, Nat.zero_le _⟩ dX4_cost_2 (fun r τ H locs hq hh => ?_)
  obtain ⟨rfl, hτ⟩ := hq
  rw [hτ] at hh
  clear hτ
  by_cases c_1 : kno x y
  · rw [show (if kno x y then (1 : Int32) else 0) = 1 from if_pos c_1]
    obtain ⟨i, ha_i, hb_i, rfl⟩ := inB_of c_1.1 (by decide)
    obtain ⟨j, ha_j, hb_j, rfl⟩ := inB_of c_1.2 (by decide)
    have hI := inst_ok hA (show i < 3 by omega) (show j < 4 by omega)
    have ei := ix_nI (show i < 2 ^ 31 by omega)
    have ej := ix_nI (show j < 2 ^ 31 by omega)
    refine lv_if_ne (tgt := 10) X.x X.b dX4_cost_5 (by decide) (fun _ => ?_) (fun h9 => absurd h9 (by decide))
    refine lv_aload_n X.x X.b dX4_cost_10 rfl (lv_at hl 0 rfl) ?_
    refine f_get X hh (v := .ref (gad G 83)) (sh_81 G _) (by decide) rfl in_X4 0 (by decide) kf_X4_12 rfl dX4_cost_11 ?_
    refine f_calli X hh (c_hasStepsOnly l G hR.1) mf_yX2_hasStepsOnly ki_yX2_hasStepsOnly kl_yX2_hasStepsOnly km_X4_95 (sh_83 G _) (by decide) rfl rfl hl.1 [] rfl (Nat.le_of_ble_eq_true rfl) ⟨by decide, by decide⟩ ⟨Nat.zero_le _, Nat.zero_le _⟩ dX4_cost_14 (fun r τ H locs hq hh => ?_)
    obtain ⟨rfl, hτ⟩ := hq
    rw [hτ] at hh
    clear hτ
    by_cases c_3 : ∀ i, i < apn a → isS (apg a i) = true
    · rw [show (if ∀ i, i < apn a → isS (apg a i) = true then (1 : Int32) else 0) = 1 from if_pos c_3]
      refine lv_if_ne (tgt := 23) X.x X.b dX4_cost_17 (by decide) (fun _ => ?_) (fun h9 => absurd h9 (by decide))
      refine lv_aload_n X.x X.b dX4_cost_23 rfl (lv_at hl 0 rfl) ?_
      refine f_get X hh (v := .ref (gad G 85)) (sh_81 G _) (by decide) rfl in_X4 3 (by decide) kf_X4_30 rfl dX4_cost_24 ?_
      refine lv_aload_n X.x X.b dX4_cost_27 rfl (lv_at hl 0 rfl) ?_
      refine f_get X hh (v := .ref (gad G 69)) (sh_81 G _) (by decide) rfl in_X4 1 (by decide) kf_X4_19 rfl dX4_cost_28 ?_
      refine lv_iload_n X.x X.b dX4_cost_31 rfl (lv_at hl 1 rfl) ?_
      refine lv_iload_n X.x X.b dX4_cost_32 rfl (lv_at hl 2 rfl) ?_
      refine f_callv X hh (c_take l G (i := i) (j := j) (by omega) (by omega) hR.2.1) mf_yX1_take ki_yX1_take kl_yX1_take km_X4_99 (sh_85 G _) (by decide) rfl rfl hl.1 [] rfl (Nat.le_of_ble_eq_true rfl) ⟨by decide, by decide⟩ ⟨Nat.zero_le _, Nat.zero_le _⟩ dX4_cost_33 (fun τ H locs hq hh => ?_)
      obtain ⟨hM1, hf1⟩ := hq
      have hR1 := hR.kt hf1.t
      refine lv_aload_n X.x X.b dX4_cost_36 rfl (lv_at hl 0 rfl) ?_
      refine f_get X hh (v := .ref (gad G 85)) (sh_81 G _) (by decide) rfl in_X4 3 (by decide) kf_X4_30 rfl dX4_cost_37 ?_
      refine lv_aload_n X.x X.b dX4_cost_40 rfl (lv_at hl 0 rfl) ?_
      refine f_get X hh (v := .ref (gad G 83)) (sh_81 G _) (by decide) rfl in_X4 0 (by decide) kf_X4_12 rfl dX4_cost_41 ?_
      refine f_calli X hh (c_costOf l G (I := inst a i j) hI hM1 hR1.1 c_3) mf_yX1_costOf ki_yX1_costOf kl_yX1_costOf km_X4_103 (sh_85 G _) (by decide) rfl rfl hl.1 [] rfl (Nat.le_of_ble_eq_true rfl) ⟨by decide, by decide⟩ ⟨Nat.zero_le _, Nat.zero_le _⟩ dX4_cost_44 (fun r τ H locs hq hh => ?_)
      obtain ⟨rfl, hτ⟩ := hq
      rw [hτ] at hh
      clear hτ
      exact f_iret X hh ⟨by unfold sp_cost; rw [if_pos c_1, if_pos c_3, ei, ej], hR1, hf1.t.c⟩ dX4_cost_47
    · rw [show (if ∀ i, i < apn a → isS (apg a i) = true then (1 : Int32) else 0) = 0 from if_neg c_3]
      refine lv_if_ne (tgt := 23) X.x X.b dX4_cost_17 (by decide) (fun h9 => absurd (show _ by decide) h9) (fun _ => ?_)
      refine lv_bipush (v := (-7)) X.x X.b dX4_cost_20 (by decide) ?_
      exact f_iret X hh ⟨by unfold sp_cost; rw [if_pos c_1, if_neg c_3], hR, FrC.rf⟩ dX4_cost_22
  · rw [show (if kno x y then (1 : Int32) else 0) = 0 from if_neg c_1]
    refine lv_if_ne (tgt := 10) X.x X.b dX4_cost_5 (by decide) (fun h9 => absurd (show _ by decide) h9) (fun _ => ?_)
    refine lv_iconst (v := (-1)) X.x X.b dX4_cost_8 (by decide) ?_
    exact f_iret X hh ⟨(if_neg c_1).symm, hR, FrC.rf⟩ dX4_cost_9
set_option maxHeartbeats 4000000 in
set_option maxRecDepth 100000 in
theorem c4_least (l : Launch) (G : GG) {σ : Mem} {a : AS} (x y v : Int32) (hA : AOK a) (hR : RC σ a) : Ci l G yX4_least cX4_least 4 (some .int) 5 117 [.ref (gad G 81), .int x, .int y, .int v] σ (fun r τ => r = sp_least x y v a ∧ RC τ a ∧ FrC σ τ) := by
  refine Ci.of (own := RX4) (by decide) rfl (Nat.le_of_ble_eq_true rfl) (fun p e s m args below meth c ls H locs X hl hh => ?_)
  have hl : lv_has ls 4 [(0, .ref (gad G 81)), (1, .int x), (2, .int y), (3, .int v)] := hl
  refine lv_iload_n X.x X.b dX4_least_0 rfl (lv_at hl 1 rfl) ?_
  refine lv_iload_n X.x X.b dX4_least_1 rfl (lv_at hl 2 rfl) ?_
  refine f_scalli X hh (c4_areKnown l G x y) mf_yX4_areKnown ks_yX4_areKnown km_X4_91 rfl hl.1 [] rfl (Nat.le_of_ble_eq_true rfl) ⟨by decide, by decide⟩ ⟨Nat.zero_le _, Nat.zero_le _⟩ dX4_least_2 (fun r τ H locs hq hh => ?_)
  obtain ⟨rfl, hτ⟩ := hq
  rw [hτ] at hh
  clear hτ
  by_cases c_1 : kno x y
  · rw [show (if kno x y then (1 : Int32) else 0) = 1 from if_pos c_1]
    obtain ⟨i, ha_i, hb_i, rfl⟩ := inB_of c_1.1 (by decide)
    obtain ⟨j, ha_j, hb_j, rfl⟩ := inB_of c_1.2 (by decide)
    have hI := inst_ok hA (show i < 3 by omega) (show j < 4 by omega)
    have ei := ix_nI (show i < 2 ^ 31 by omega)
    have ej := ix_nI (show j < 2 ^ 31 by omega)
    refine lv_if_ne (tgt := 10) X.x X.b dX4_least_5 (by decide) (fun _ => ?_) (fun h9 => absurd h9 (by decide))
    refine lv_iload_n X.x X.b dX4_least_10 rfl (lv_at hl 3 rfl) ?_
    refine lv_iconst (v := (-1)) X.x X.b dX4_least_11 (by decide) ?_
    refine lv_icmp_ge (tgt := 18) X.x X.b dX4_least_12 (by decide) (fun c_3 => ?_) (fun c_3 => ?_)
    · refine lv_aload_n X.x X.b dX4_least_18 rfl (lv_at hl 0 rfl) ?_
      refine f_get X hh (v := .ref (gad G 85)) (sh_81 G _) (by decide) rfl in_X4 3 (by decide) kf_X4_30 rfl dX4_least_19 ?_
      refine lv_aload_n X.x X.b dX4_least_22 rfl (lv_at hl 0 rfl) ?_
      refine f_get X hh (v := .ref (gad G 69)) (sh_81 G _) (by decide) rfl in_X4 1 (by decide) kf_X4_19 rfl dX4_least_23 ?_
      refine lv_iload_n X.x X.b dX4_least_26 rfl (lv_at hl 1 rfl) ?_
      refine lv_iload_n X.x X.b dX4_least_27 rfl (lv_at hl 2 rfl) ?_
      refine f_callv X hh (c_take l G (i := i) (j := j) (by omega) (by omega) hR.2.1) mf_yX1_take ki_yX1_take kl_yX1_take km_X4_99 (sh_85 G _) (by decide) rfl rfl hl.1 [] rfl (Nat.le_of_ble_eq_true rfl) ⟨by decide, by decide⟩ ⟨Nat.zero_le _, Nat.zero_le _⟩ dX4_least_28 (fun τ H locs hq hh => ?_)
      obtain ⟨hM1, hf1⟩ := hq
      have hR1 := hR.kt hf1.t
      refine lv_iload_n X.x X.b dX4_least_31 rfl (lv_at hl 3 rfl) ?_
      refine lv_iconst (v := (-1)) X.x X.b dX4_least_32 (by decide) ?_
      refine lv_icmp_ne (tgt := 46) X.x X.b dX4_least_33 (by decide) (fun c_4 => ?_) (fun c_4 => ?_)
      · obtain ⟨k, hk, rfl⟩ := ge0_of c_3 c_4
        refine lv_aload_n X.x X.b dX4_least_46 rfl (lv_at hl 0 rfl) ?_
        refine f_get X hh (v := .ref (gad G 85)) (sh_81 G _) (by decide) rfl in_X4 3 (by decide) kf_X4_30 rfl dX4_least_47 ?_
        refine lv_iload_n X.x X.b dX4_least_50 rfl (lv_at hl 3 rfl) ?_
        refine f_calli X hh (c_leastStep l G (I := inst a i j) hI hM1 hk) mf_yX1_leastStep ki_yX1_leastStep kl_yX1_leastStep km_X4_110 (sh_85 G _) (by decide) rfl rfl hl.1 [] rfl (Nat.le_of_ble_eq_true rfl) ⟨by decide, by decide⟩ ⟨Nat.zero_le _, Nat.zero_le _⟩ dX4_least_51 (fun r τ H locs hq hh => ?_)
        obtain ⟨rfl, hf2⟩ := hq
        exact f_iret X hh ⟨by unfold sp_least; rw [if_pos c_1, if_neg (Int32.not_lt.mpr c_3), if_neg c_4, ei, ej, ix_nI hk], hR1.kt hf2.t, (hf1.t.tr hf2.t).c⟩ dX4_least_54
      · refine lv_aload_n X.x X.b dX4_least_36 rfl (lv_at hl 0 rfl) ?_
        refine f_get X hh (v := .ref (gad G 85)) (sh_81 G _) (by decide) rfl in_X4 3 (by decide) kf_X4_30 rfl dX4_least_37 ?_
        refine f_calli X hh (c_leastCost l G (I := inst a i j) hI hM1) mf_yX1_leastCost ki_yX1_leastCost kl_yX1_leastCost km_X4_107 (sh_85 G _) (by decide) rfl rfl hl.1 [] rfl (Nat.le_of_ble_eq_true rfl) ⟨by decide, by decide⟩ ⟨Nat.zero_le _, Nat.zero_le _⟩ dX4_least_40 (fun r τ H locs hq hh => ?_)
        obtain ⟨rfl, hf2⟩ := hq
        have hR2 := hR1.kt hf2.t
        refine lv_goto (tgt := 54) X.x X.b dX4_least_43 (by decide) ?_
        exact f_iret X hh ⟨by unfold sp_least; rw [if_pos c_1, if_neg (Int32.not_lt.mpr c_3), if_pos c_4, ei, ej], hR2, (hf1.t.tr hf2.t).c⟩ dX4_least_54
    · refine lv_bipush (v := (-2)) X.x X.b dX4_least_15 (by decide) ?_
      exact f_iret X hh ⟨by unfold sp_least; rw [if_pos c_1, if_pos (Int32.not_le.mp c_3)], hR, FrC.rf⟩ dX4_least_17
  · rw [show (if kno x y then (1 : Int32) else 0) = 0 from if_neg c_1]
    refine lv_if_ne (tgt := 10) X.x X.b dX4_least_5 (by decide) (fun h9 => absurd (show _ by decide) h9) (fun _ => ?_)
    refine lv_iconst (v := (-1)) X.x X.b dX4_least_8 (by decide) ?_
    exact f_iret X hh ⟨(if_neg c_1).symm, hR, FrC.rf⟩ dX4_least_9
set_option maxHeartbeats 4000000 in
set_option maxRecDepth 100000 in
theorem c4_ways (l : Launch) (G : GG) {σ : Mem} {a : AS} (x y v : Int32) (hA : AOK a) (hR : RC σ a) : Ci l G yX4_ways cX4_ways 4 (some .int) 6 141 [.ref (gad G 81), .int x, .int y, .int v] σ (fun r τ => r = sp_ways x y v a ∧ RC τ a ∧ FrC σ τ) := by
  refine Ci.of (own := RX4) (by decide) rfl (Nat.le_of_ble_eq_true rfl) (fun p e s m args below meth c ls H locs X hl hh => ?_)
  have hl : lv_has ls 4 [(0, .ref (gad G 81)), (1, .int x), (2, .int y), (3, .int v)] := hl
  refine lv_iload_n X.x X.b dX4_ways_0 rfl (lv_at hl 1 rfl) ?_
  refine lv_iload_n X.x X.b dX4_ways_1 rfl (lv_at hl 2 rfl) ?_
  refine f_scalli X hh (c4_areKnown l G x y) mf_yX4_areKnown ks_yX4_areKnown km_X4_91 rfl hl.1 [] rfl (Nat.le_of_ble_eq_true rfl) ⟨by decide, by decide⟩ ⟨Nat.zero_le _, Nat.zero_le _⟩ dX4_ways_2 (fun r τ H locs hq hh => ?_)
  obtain ⟨rfl, hτ⟩ := hq
  rw [hτ] at hh
  clear hτ
  by_cases c_1 : kno x y
  · rw [show (if kno x y then (1 : Int32) else 0) = 1 from if_pos c_1]
    obtain ⟨i, ha_i, hb_i, rfl⟩ := inB_of c_1.1 (by decide)
    obtain ⟨j, ha_j, hb_j, rfl⟩ := inB_of c_1.2 (by decide)
    have hI := inst_ok hA (show i < 3 by omega) (show j < 4 by omega)
    have ei := ix_nI (show i < 2 ^ 31 by omega)
    have ej := ix_nI (show j < 2 ^ 31 by omega)
    refine lv_if_ne (tgt := 10) X.x X.b dX4_ways_5 (by decide) (fun _ => ?_) (fun h9 => absurd h9 (by decide))
    refine lv_iload_n X.x X.b dX4_ways_10 rfl (lv_at hl 3 rfl) ?_
    refine lv_iconst (v := nI 0) X.x X.b dX4_ways_11 (by decide) ?_
    refine lv_iconst (v := nI 2) X.x X.b dX4_ways_12 (by decide) ?_
    refine f_scalli X hh (c_withinB l G v 0 2 (by decide) (by decide)) mf_yX4_isWithin ks_yX4_isWithin km_X4_38 rfl hl.1 [] rfl (Nat.le_of_ble_eq_true rfl) ⟨by decide, by decide⟩ ⟨Nat.zero_le _, Nat.zero_le _⟩ dX4_ways_13 (fun r τ H locs hq hh => ?_)
    obtain ⟨rfl, hτ⟩ := hq
    rw [hτ] at hh
    clear hτ
    by_cases c_3 : inB v 0 2
    · rw [show (if inB v 0 2 then (1 : Int32) else 0) = 1 from if_pos c_3]
      obtain ⟨k, ha_k, hb_k, rfl⟩ := inB_of c_3 (by decide)
      refine lv_if_ne (tgt := 22) X.x X.b dX4_ways_16 (by decide) (fun _ => ?_) (fun h9 => absurd h9 (by decide))
      refine lv_aload_n X.x X.b dX4_ways_22 rfl (lv_at hl 0 rfl) ?_
      refine f_get X hh (v := .ref (gad G 85)) (sh_81 G _) (by decide) rfl in_X4 3 (by decide) kf_X4_30 rfl dX4_ways_23 ?_
      refine lv_aload_n X.x X.b dX4_ways_26 rfl (lv_at hl 0 rfl) ?_
      refine f_get X hh (v := .ref (gad G 69)) (sh_81 G _) (by decide) rfl in_X4 1 (by decide) kf_X4_19 rfl dX4_ways_27 ?_
      refine lv_iload_n X.x X.b dX4_ways_30 rfl (lv_at hl 1 rfl) ?_
      refine lv_iload_n X.x X.b dX4_ways_31 rfl (lv_at hl 2 rfl) ?_
      refine f_callv X hh (c_take l G (i := i) (j := j) (by omega) (by omega) hR.2.1) mf_yX1_take ki_yX1_take kl_yX1_take km_X4_99 (sh_85 G _) (by decide) rfl rfl hl.1 [] rfl (Nat.le_of_ble_eq_true rfl) ⟨by decide, by decide⟩ ⟨Nat.zero_le _, Nat.zero_le _⟩ dX4_ways_32 (fun τ H locs hq hh => ?_)
      obtain ⟨hM1, hf1⟩ := hq
      have hR1 := hR.kt hf1.t
      rcases (show k = 0 ∨ k = 1 ∨ k = 2 by omega) with rfl | rfl | rfl
      · refine lv_iload_n X.x X.b dX4_ways_35 rfl (lv_at hl 3 rfl) ?_
        refine lv_lookup (tgt := 64) (off := 28) X.x X.b dX4_ways_36 (by decide) (by decide +kernel) (by decide) ?_
        refine lv_aload_n X.x X.b dX4_ways_64 rfl (lv_at hl 0 rfl) ?_
        refine f_get X hh (v := .ref (gad G 85)) (sh_81 G _) (by decide) rfl in_X4 3 (by decide) kf_X4_30 rfl dX4_ways_65 ?_
        refine f_calli X hh (c_howManyLayings l G (I := inst a i j) hI hM1) mf_yX1_howManyLayings ki_yX1_howManyLayings kl_yX1_howManyLayings km_X4_114 (sh_85 G _) (by decide) rfl rfl hl.1 [] rfl (Nat.le_of_ble_eq_true rfl) ⟨by decide, by decide⟩ ⟨Nat.zero_le _, Nat.zero_le _⟩ dX4_ways_68 (fun r τ H locs hq hh => ?_)
        obtain ⟨rfl, hf2⟩ := hq
        exact f_iret X hh ⟨by show wy0 (inst a i j) = _; unfold sp_ways; rw [if_pos c_1, if_pos c_3, ei, ej, if_pos (by decide)], hR1.kt hf2.t, (hf1.t.tr hf2.t).c⟩ dX4_ways_71
      · refine lv_iload_n X.x X.b dX4_ways_35 rfl (lv_at hl 3 rfl) ?_
        refine lv_lookup (tgt := 72) (off := 36) X.x X.b dX4_ways_36 (by decide) (by decide +kernel) (by decide) ?_
        refine lv_aload_n X.x X.b dX4_ways_72 rfl (lv_at hl 0 rfl) ?_
        refine f_get X hh (v := .ref (gad G 85)) (sh_81 G _) (by decide) rfl in_X4 3 (by decide) kf_X4_30 rfl dX4_ways_73 ?_
        refine f_calli X hh (c_howManyLeast l G (I := inst a i j) hI hM1) mf_yX1_howManyLeast ki_yX1_howManyLeast kl_yX1_howManyLeast km_X4_117 (sh_85 G _) (by decide) rfl rfl hl.1 [] rfl (Nat.le_of_ble_eq_true rfl) ⟨by decide, by decide⟩ ⟨Nat.zero_le _, Nat.zero_le _⟩ dX4_ways_76 (fun r τ H locs hq hh => ?_)
        obtain ⟨rfl, hf2⟩ := hq
        exact f_iret X hh ⟨by show lw0 (inst a i j) = _; unfold sp_ways; rw [if_pos c_1, if_pos c_3, ei, ej, if_neg (by decide), if_pos (by decide)], hR1.kt hf2.t, (hf1.t.tr hf2.t).c⟩ dX4_ways_79
      · refine lv_iload_n X.x X.b dX4_ways_35 rfl (lv_at hl 3 rfl) ?_
        refine lv_lookup (tgt := 80) (off := 44) X.x X.b dX4_ways_36 (by decide) (by decide +kernel) (by decide) ?_
        refine lv_aload_n X.x X.b dX4_ways_80 rfl (lv_at hl 0 rfl) ?_
        refine f_get X hh (v := .ref (gad G 85)) (sh_81 G _) (by decide) rfl in_X4 3 (by decide) kf_X4_30 rfl dX4_ways_81 ?_
        refine f_calli X hh (c_greatestCost l G (I := inst a i j) hI hM1) mf_yX1_greatestCost ki_yX1_greatestCost kl_yX1_greatestCost km_X4_120 (sh_85 G _) (by decide) rfl rfl hl.1 [] rfl (Nat.le_of_ble_eq_true rfl) ⟨by decide, by decide⟩ ⟨Nat.zero_le _, Nat.zero_le _⟩ dX4_ways_84 (fun r τ H locs hq hh => ?_)
        obtain ⟨rfl, hf2⟩ := hq
        exact f_iret X hh ⟨by show mo0 (inst a i j) = _; unfold sp_ways; rw [if_pos c_1, if_pos c_3, ei, ej, if_neg (by decide), if_neg (by decide)], hR1.kt hf2.t, (hf1.t.tr hf2.t).c⟩ dX4_ways_87
    · rw [show (if inB v 0 2 then (1 : Int32) else 0) = 0 from if_neg c_3]
      refine lv_if_ne (tgt := 22) X.x X.b dX4_ways_16 (by decide) (fun h9 => absurd (show _ by decide) h9) (fun _ => ?_)
      refine lv_bipush (v := (-2)) X.x X.b dX4_ways_19 (by decide) ?_
      exact f_iret X hh ⟨by unfold sp_ways; rw [if_pos c_1, if_neg c_3], hR, FrC.rf⟩ dX4_ways_21
  · rw [show (if kno x y then (1 : Int32) else 0) = 0 from if_neg c_1]
    refine lv_if_ne (tgt := 10) X.x X.b dX4_ways_5 (by decide) (fun h9 => absurd (show _ by decide) h9) (fun _ => ?_)
    refine lv_iconst (v := (-1)) X.x X.b dX4_ways_8 (by decide) ?_
    exact f_iret X hh ⟨(if_neg c_1).symm, hR, FrC.rf⟩ dX4_ways_9
set_option maxHeartbeats 4000000 in
set_option maxRecDepth 100000 in
theorem c4_sung (l : Launch) (G : GG) {σ : Mem} {a : AS} (x y u v : Int32) (hA : AOK a) (hR : RC σ a) : Ci l G yX4_sung cX4_sung 5 (some .int) 6 139 [.ref (gad G 81), .int x, .int y, .int u, .int v] σ (fun r τ => r = sp_sung x y u v a ∧ RC τ a ∧ FrC σ τ) := by
  refine Ci.of (own := RX4) (by decide) rfl (Nat.le_of_ble_eq_true rfl) (fun p e s m args below meth c ls H locs X hl hh => ?_)
  have hl : lv_has ls 5 [(0, .ref (gad G 81)), (1, .int x), (2, .int y), (3, .int u), (4, .int v)] := hl
  refine lv_iload_n X.x X.b dX4_sung_0 rfl (lv_at hl 1 rfl) ?_
  refine lv_iload_n X.x X.b dX4_sung_1 rfl (lv_at hl 2 rfl) ?_
  refine f_scalli X hh (c4_areKnown l G x y) mf_yX4_areKnown ks_yX4_areKnown km_X4_91 rfl hl.1 [] rfl (Nat.le_of_ble_eq_true rfl) ⟨by decide, by decide⟩ ⟨Nat.zero_le _, Nat.zero_le _⟩ dX4_sung_2 (fun r τ H locs hq hh => ?_)
  obtain ⟨rfl, hτ⟩ := hq
  rw [hτ] at hh
  clear hτ
  by_cases c_1 : kno x y
  · rw [show (if kno x y then (1 : Int32) else 0) = 1 from if_pos c_1]
    obtain ⟨i, ha_i, hb_i, rfl⟩ := inB_of c_1.1 (by decide)
    obtain ⟨j, ha_j, hb_j, rfl⟩ := inB_of c_1.2 (by decide)
    have hI := inst_ok hA (show i < 3 by omega) (show j < 4 by omega)
    have ei := ix_nI (show i < 2 ^ 31 by omega)
    have ej := ix_nI (show j < 2 ^ 31 by omega)
    refine lv_if_ne (tgt := 10) X.x X.b dX4_sung_5 (by decide) (fun _ => ?_) (fun h9 => absurd h9 (by decide))
    refine lv_iload_n X.x X.b dX4_sung_10 rfl (lv_at hl 3 rfl) ?_
    refine lv_iconst (v := nI 0) X.x X.b dX4_sung_11 (by decide) ?_
    refine lv_aload_n X.x X.b dX4_sung_12 rfl (lv_at hl 0 rfl) ?_
    refine f_get X hh (v := .ref (gad G 69)) (sh_81 G _) (by decide) rfl in_X4 1 (by decide) kf_X4_19 rfl dX4_sung_13 ?_
    refine f_get X hh (v := .ref (gad G 71)) (sh_69 G _) (by decide) rfl in_X0 1 (by decide) kf_X4_77 rfl dX4_sung_16 ?_
    refine lv_iload_n X.x X.b dX4_sung_19 rfl (lv_at hl 2 rfl) ?_
    refine f_aald X hh (j := j) 2 (sh_71 G _) rfl rfl (by decide) rfl (by omega) (by decide) dX4_sung_20 ?_
    refine f_geti X hh (x := nI (bN (aB a) (3 + j))) (sh_row G (r := 7 * 0 + (3 + j)) (by omega) _) (by omega) rfl in_X3 3 (by decide) kf_X4_71 rfl (hR.2.1.1 _ (by omega)).1 dX4_sung_21 ?_
    refine lv_iconst (v := nI 1) X.x X.b dX4_sung_24 (by decide) ?_
    refine f_isub X (z := nI (bN (aB a) (3 + j)) - nI 1) rfl dX4_sung_25 ?_
    have hm9 : bN (aB a) (3 + j) ≤ 11 := hI.2.1
    refine f_scalli X hh (c_withinR l G u (n := bN (aB a) (3 + j)) (by omega)) mf_yX4_isWithin ks_yX4_isWithin km_X4_38 rfl hl.1 [] rfl (Nat.le_of_ble_eq_true rfl) ⟨by decide, by decide⟩ ⟨Nat.zero_le _, Nat.zero_le _⟩ dX4_sung_26 (fun r τ H locs hq hh => ?_)
    obtain ⟨rfl, hτ⟩ := hq
    rw [hτ] at hh
    clear hτ
    by_cases c_3 : inR u (bN (aB a) (3 + j))
    · rw [show (if inR u (bN (aB a) (3 + j)) then (1 : Int32) else 0) = 1 from if_pos c_3]
      obtain ⟨q, hq0, rfl⟩ := inR_of c_3 (by omega)
      refine lv_if_eq (tgt := 42) X.x X.b dX4_sung_29 (by decide) (fun h9 => absurd h9 (by decide)) (fun _ => ?_)
      refine lv_iload X.x X.b dX4_sung_32 (lv_at hl 4 rfl) ?_
      refine lv_iconst (v := nI 0) X.x X.b dX4_sung_34 (by decide) ?_
      refine lv_iconst (v := nI 1) X.x X.b dX4_sung_35 (by decide) ?_
      refine f_scalli X hh (c_withinB l G v 0 1 (by decide) (by decide)) mf_yX4_isWithin ks_yX4_isWithin km_X4_38 rfl hl.1 [] rfl (Nat.le_of_ble_eq_true rfl) ⟨by decide, by decide⟩ ⟨Nat.zero_le _, Nat.zero_le _⟩ dX4_sung_36 (fun r τ H locs hq hh => ?_)
      obtain ⟨rfl, hτ⟩ := hq
      rw [hτ] at hh
      clear hτ
      by_cases c_5 : inB v 0 1
      · rw [show (if inB v 0 1 then (1 : Int32) else 0) = 1 from if_pos c_5]
        obtain ⟨k, ha_k, hb_k, rfl⟩ := inB_of c_5 (by decide)
        refine lv_if_ne (tgt := 45) X.x X.b dX4_sung_39 (by decide) (fun _ => ?_) (fun h9 => absurd h9 (by decide))
        refine lv_aload_n X.x X.b dX4_sung_45 rfl (lv_at hl 0 rfl) ?_
        refine f_get X hh (v := .ref (gad G 85)) (sh_81 G _) (by decide) rfl in_X4 3 (by decide) kf_X4_30 rfl dX4_sung_46 ?_
        refine lv_aload_n X.x X.b dX4_sung_49 rfl (lv_at hl 0 rfl) ?_
        refine f_get X hh (v := .ref (gad G 69)) (sh_81 G _) (by decide) rfl in_X4 1 (by decide) kf_X4_19 rfl dX4_sung_50 ?_
        refine lv_iload_n X.x X.b dX4_sung_53 rfl (lv_at hl 1 rfl) ?_
        refine lv_iload_n X.x X.b dX4_sung_54 rfl (lv_at hl 2 rfl) ?_
        refine f_callv X hh (c_take l G (i := i) (j := j) (by omega) (by omega) hR.2.1) mf_yX1_take ki_yX1_take kl_yX1_take km_X4_99 (sh_85 G _) (by decide) rfl rfl hl.1 [] rfl (Nat.le_of_ble_eq_true rfl) ⟨by decide, by decide⟩ ⟨Nat.zero_le _, Nat.zero_le _⟩ dX4_sung_55 (fun τ H locs hq hh => ?_)
        obtain ⟨hM1, hf1⟩ := hq
        have hR1 := hR.kt hf1.t
        refine lv_iload X.x X.b dX4_sung_58 (lv_at hl 4 rfl) ?_
        refine lv_if_ne (tgt := 74) X.x X.b dX4_sung_60 (by decide) (fun c_7 => ?_) (fun c_7 => ?_)
        · have c_7 : ¬ k = 0 := fun q9 => c_7 ((nI_eq (a := k) (b := 0) (by omega) (by omega)).mpr q9)
          refine lv_aload_n X.x X.b dX4_sung_74 rfl (lv_at hl 0 rfl) ?_
          refine f_get X hh (v := .ref (gad G 85)) (sh_81 G _) (by decide) rfl in_X4 3 (by decide) kf_X4_30 rfl dX4_sung_75 ?_
          refine lv_iload_n X.x X.b dX4_sung_78 rfl (lv_at hl 3 rfl) ?_
          refine f_calli X hh (c_howManySungOn l G (I := inst a i j) hI hM1 hq0) mf_yX1_howManySungOn ki_yX1_howManySungOn kl_yX1_howManySungOn km_X4_126 (sh_85 G _) (by decide) rfl rfl hl.1 [] rfl (Nat.le_of_ble_eq_true rfl) ⟨by decide, by decide⟩ ⟨Nat.zero_le _, Nat.zero_le _⟩ dX4_sung_79 (fun r τ H locs hq hh => ?_)
          obtain ⟨rfl, hf2⟩ := hq
          exact f_iret X hh ⟨by show ho0 (inst a i j) q = _; unfold sp_sung; rw [if_pos c_1, ej, if_pos ⟨c_3, c_5⟩, ei, ix_nI (show q < 2 ^ 31 by omega), if_neg (fun q9 => c_7 ((nI_z (by omega)).mp q9))], hR1.kt hf2.t, (hf1.t.tr hf2.t).c⟩ dX4_sung_82
        · have c_7 : k = 0 := (nI_eq (a := k) (b := 0) (by omega) (by omega)).mp c_7
          refine lv_aload_n X.x X.b dX4_sung_63 rfl (lv_at hl 0 rfl) ?_
          refine f_get X hh (v := .ref (gad G 85)) (sh_81 G _) (by decide) rfl in_X4 3 (by decide) kf_X4_30 rfl dX4_sung_64 ?_
          refine lv_iload_n X.x X.b dX4_sung_67 rfl (lv_at hl 3 rfl) ?_
          refine f_calli X hh (c_firstSungOn l G (I := inst a i j) hI hM1 hq0) mf_yX1_firstSungOn ki_yX1_firstSungOn kl_yX1_firstSungOn km_X4_123 (sh_85 G _) (by decide) rfl rfl hl.1 [] rfl (Nat.le_of_ble_eq_true rfl) ⟨by decide, by decide⟩ ⟨Nat.zero_le _, Nat.zero_le _⟩ dX4_sung_68 (fun r τ H locs hq hh => ?_)
          obtain ⟨rfl, hf2⟩ := hq
          refine lv_goto (tgt := 82) X.x X.b dX4_sung_71 (by decide) ?_
          exact f_iret X hh ⟨by show fo0 (inst a i j) q = _; unfold sp_sung; rw [if_pos c_1, ej, if_pos ⟨c_3, c_5⟩, ei, ix_nI (show q < 2 ^ 31 by omega), if_pos ((nI_z (by omega)).mpr c_7)], hR1.kt hf2.t, (hf1.t.tr hf2.t).c⟩ dX4_sung_82
      · rw [show (if inB v 0 1 then (1 : Int32) else 0) = 0 from if_neg c_5]
        refine lv_if_ne (tgt := 45) X.x X.b dX4_sung_39 (by decide) (fun h9 => absurd (show _ by decide) h9) (fun _ => ?_)
        refine lv_bipush (v := (-2)) X.x X.b dX4_sung_42 (by decide) ?_
        exact f_iret X hh ⟨by unfold sp_sung; rw [if_pos c_1, ej, if_neg (fun q9 => c_5 q9.2)], hR, FrC.rf⟩ dX4_sung_44
    · rw [show (if inR u (bN (aB a) (3 + j)) then (1 : Int32) else 0) = 0 from if_neg c_3]
      refine lv_if_eq (tgt := 42) X.x X.b dX4_sung_29 (by decide) (fun _ => ?_) (fun h9 => absurd (show _ by decide) h9)
      refine lv_bipush (v := (-2)) X.x X.b dX4_sung_42 (by decide) ?_
      exact f_iret X hh ⟨by unfold sp_sung; rw [if_pos c_1, ej, if_neg (fun q9 => c_3 q9.1)], hR, FrC.rf⟩ dX4_sung_44
  · rw [show (if kno x y then (1 : Int32) else 0) = 0 from if_neg c_1]
    refine lv_if_ne (tgt := 10) X.x X.b dX4_sung_5 (by decide) (fun h9 => absurd (show _ by decide) h9) (fun _ => ?_)
    refine lv_iconst (v := (-1)) X.x X.b dX4_sung_8 (by decide) ?_
    exact f_iret X hh ⟨(if_neg c_1).symm, hR, FrC.rf⟩ dX4_sung_9
set_option maxHeartbeats 4000000 in
set_option maxRecDepth 100000 in
theorem c4_verseOf (l : Launch) (G : GG) {σ : Mem} {a : AS} {j : Nat} (hA : AOK a) (hR : RC σ a) (hj : j < 4) : Ci l G yX4_verseOf cX4_verseOf 4 (some .int) 5 116 [.ref (gad G 81), .int (nI j)] σ (fun r τ => r = vsN a j ∧ RC τ a ∧ FrT σ τ) := by
  refine Ci.of (own := RX4) (by decide) rfl (Nat.le_of_ble_eq_true rfl) (fun p e s m args below meth c ls H locs X hl hh => ?_)
  have hm9 : bN (aB a) (3 + j) ≤ 11 := (hA.2.2.1.2.1 (3 + j) (by omega) (by omega)).1
  have hq0 := (hA.2.2.1.1 0 (by decide)).1
  have hq1 := (hA.2.2.1.1 1 (by decide)).1
  have hq2 := (hA.2.2.1.1 2 (by decide)).1
  have hsu : sumN (fun j => bN (aB a) j) 3 ≤ 27 := by show 0 + bN (aB a) 0 + bN (aB a) 1 + bN (aB a) 2 ≤ 27; omega
  have hl : lv_has ls 4 [(0, .ref (gad G 81)), (1, .int (nI j))] := hl
  refine lv_aload_n X.x X.b dX4_verseOf_0 rfl (lv_at hl 0 rfl) ?_
  refine f_get X hh (v := .ref (gad G 69)) (sh_81 G _) (by decide) rfl in_X4 1 (by decide) kf_X4_19 rfl dX4_verseOf_1 ?_
  refine f_get X hh (v := .ref (gad G 71)) (sh_69 G _) (by decide) rfl in_X0 1 (by decide) kf_X4_77 rfl dX4_verseOf_4 ?_
  refine lv_iload_n X.x X.b dX4_verseOf_7 rfl (lv_at hl 1 rfl) ?_
  refine f_aald X hh (j := j) 2 (sh_71 G _) rfl rfl (by decide) rfl (by omega) (by decide) dX4_verseOf_8 ?_
  refine f_geti X hh (x := nI (bN (aB a) (3 + j))) (sh_row G (r := 7 * 0 + (3 + j)) (by omega) _) (by omega) rfl in_X3 3 (by decide) kf_X4_71 rfl (hR.2.1.1 _ (by omega)).1 dX4_verseOf_9 ?_
  refine lv_if_eq (tgt := 25) X.x X.b dX4_verseOf_12 (by decide) (fun c_1 => ?_) (fun c_1 => ?_)
  · have c_1 : (bN (aB a) (3 + j)) = 0 := (nI_eq (a := (bN (aB a) (3 + j))) (b := 0) (by omega) (by omega)).mp c_1
    refine lv_bipush (v := (-6)) X.x X.b dX4_verseOf_25 (by decide) ?_
    exact f_iret X hh ⟨(if_pos (Or.inl c_1)).symm, hR, FrT.rf⟩ dX4_verseOf_27
  · have c_1 : ¬ (bN (aB a) (3 + j)) = 0 := fun q9 => c_1 ((nI_eq (a := (bN (aB a) (3 + j))) (b := 0) (by omega) (by omega)).mpr q9)
    refine lv_aload_n X.x X.b dX4_verseOf_15 rfl (lv_at hl 0 rfl) ?_
    refine f_get X hh (v := .ref (gad G 69)) (sh_81 G _) (by decide) rfl in_X4 1 (by decide) kf_X4_19 rfl dX4_verseOf_16 ?_
    refine f_calli X hh (c_syllablesInAll l G (b := 0) (by decide) hR.2.1) mf_yX0_syllablesInAll ki_yX0_syllablesInAll kl_yX0_syllablesInAll km_X4_147 (sh_69 G _) (by decide) rfl rfl hl.1 [] rfl (Nat.le_of_ble_eq_true rfl) ⟨by decide, by decide⟩ ⟨Nat.zero_le _, Nat.zero_le _⟩ dX4_verseOf_19 (fun r τ H locs hq hh => ?_)
    obtain ⟨rfl, hτ⟩ := hq
    rw [hτ] at hh
    clear hτ
    refine lv_if_ne (tgt := 28) X.x X.b dX4_verseOf_22 (by decide) (fun c_2 => ?_) (fun c_2 => ?_)
    · have c_2 : ¬ (sumN (fun j => bN (aB a) j) 3) = 0 := fun q9 => c_2 ((nI_eq (a := (sumN (fun j => bN (aB a) j) 3)) (b := 0) (by omega) (by omega)).mpr q9)
      have hnz : ¬ (bN (aB a) (3 + j) = 0 ∨ sumN (fun i => bN (aB a) i) 3 = 0) := fun q9 => q9.elim c_1 c_2
      have lp : ∀ (k i : Nat), 3 - i = k → i ≤ 3 → ∀ (υ : Mem), RC υ a → FrT σ υ → ∀ (ls : Array Slot) (H : Heap) (locs : List Loc), lv_has ls 4 [(3, .int (nI i)), (2, .int (nI (vsum a j i))), (0, .ref (gad G 81)), (1, .int (nI j))] → HH G s υ H locs → WI l G p e s m args below meth c 5 116 (fun r τ => r = vsN a j ∧ RC τ a ∧ FrT σ τ) H locs (F0 m 32 ls []) := by
        intro km
        induction km using Nat.strongRecOn with
        | ind km ih =>
          intro i hk hi υ hR0 hf0 ls H locs hl hh
          have hnn := fun h9 : i < 3 => (hA.2.2.1.1 i h9).1
          refine lv_iload_n X.x X.b dX4_verseOf_32 rfl (lv_at hl 0 rfl) ?_
          refine lv_iconst (v := nI 3) X.x X.b dX4_verseOf_33 (by decide) ?_
          refine lv_icmp_ge (tgt := 81) X.x X.b dX4_verseOf_34 (by decide) (fun c_3 => ?_) (fun c_3 => ?_)
          · have c_3 : 3 ≤ i := (nI_leI (a := 3) (b := i) (by omega) (by omega)).mp c_3
            refine lv_iload_n X.x X.b dX4_verseOf_81 rfl (lv_at hl 1 rfl) ?_
            exact f_iret X hh ⟨by unfold vsN; obtain rfl : i = 3 := (by omega); rw [if_neg hnz], hR0, hf0⟩ dX4_verseOf_82
          · have c_3 : ¬ 3 ≤ i := fun q9 => c_3 ((nI_leI (a := 3) (b := i) (by omega) (by omega)).mpr q9)
            refine lv_aload_n X.x X.b dX4_verseOf_37 rfl (lv_at hl 2 rfl) ?_
            refine f_get X hh (v := .ref (gad G 69)) (sh_81 G _) (by decide) rfl in_X4 1 (by decide) kf_X4_19 rfl dX4_verseOf_38 ?_
            refine f_get X hh (v := .ref (gad G 70)) (sh_69 G _) (by decide) rfl in_X0 0 (by decide) kf_X4_63 rfl dX4_verseOf_41 ?_
            refine lv_iload_n X.x X.b dX4_verseOf_44 rfl (lv_at hl 0 rfl) ?_
            refine f_aald X hh (j := i) 2 (sh_70 G _) rfl rfl (by decide) rfl (by omega) (by decide) dX4_verseOf_45 ?_
            refine f_geti X hh (x := nI (bN (aB a) i)) (sh_row G (r := 7 * 0 + i) (by omega) _) (by omega) rfl in_X3 3 (by decide) kf_X4_71 rfl (hR0.2.1.1 _ (by omega)).1 dX4_verseOf_46 ?_
            refine lv_if_le (tgt := 75) X.x X.b dX4_verseOf_49 (by decide) (fun c_4 => ?_) (fun c_4 => ?_)
            · have c_4 : (bN (aB a) i) ≤ 0 := (nI_leI (a := (bN (aB a) i)) (b := 0) (by omega) (by omega)).mp c_4
              refine lv_iinc (v := nI (i + 1)) (lv' := [(3, .int (nI (i + 1))), (2, .int (nI (vsum a j i))), (0, .ref (gad G 81)), (1, .int (nI j))]) X.x X.b dX4_verseOf_75 hl (k := 0) rfl (nI_1 i) (by decide) rfl (fun ls hl => ?_)
              refine lv_goto (tgt := 32) X.x X.b dX4_verseOf_78 (by decide) ?_
              refine ih (3 - (i + 1)) (by omega) (i + 1) rfl (by omega) _ hR0 hf0 ls H locs ?_ hh
              rw [show vsum a j (i + 1) = vsum a j i by show _ + (if _ then _ else _) = _; rw [if_pos (by omega)]; rfl]
              exact lv_sub hl [0, 1, 2, 3] rfl
            · have c_4 : ¬ (bN (aB a) i) ≤ 0 := fun q9 => c_4 ((nI_leI (a := (bN (aB a) i)) (b := 0) (by omega) (by omega)).mpr q9)
              refine lv_aload_n X.x X.b dX4_verseOf_52 rfl (lv_at hl 2 rfl) ?_
              refine f_get X hh (v := .ref (gad G 85)) (sh_81 G _) (by decide) rfl in_X4 3 (by decide) kf_X4_30 rfl dX4_verseOf_53 ?_
              refine lv_aload_n X.x X.b dX4_verseOf_56 rfl (lv_at hl 2 rfl) ?_
              refine f_get X hh (v := .ref (gad G 69)) (sh_81 G _) (by decide) rfl in_X4 1 (by decide) kf_X4_19 rfl dX4_verseOf_57 ?_
              refine lv_iload_n X.x X.b dX4_verseOf_60 rfl (lv_at hl 0 rfl) ?_
              refine lv_iload_n X.x X.b dX4_verseOf_61 rfl (lv_at hl 3 rfl) ?_
              have hI := inst_ok hA (show i < 3 by omega) hj
              refine f_callv X hh (c_take l G (i := i) (j := j) (by omega) hj hR0.2.1) mf_yX1_take ki_yX1_take kl_yX1_take km_X4_99 (sh_85 G _) (by decide) rfl rfl hl.1 [] rfl (Nat.le_of_ble_eq_true rfl) ⟨by decide, by decide⟩ ⟨Nat.zero_le _, Nat.zero_le _⟩ dX4_verseOf_62 (fun τ H locs hq hh => ?_)
              obtain ⟨hM1, hf1⟩ := hq
              have hR1 := hR0.kt hf1.t
              refine lv_iload_n X.x X.b dX4_verseOf_65 rfl (lv_at hl 1 rfl) ?_
              refine lv_aload_n X.x X.b dX4_verseOf_66 rfl (lv_at hl 2 rfl) ?_
              refine f_get X hh (v := .ref (gad G 85)) (sh_81 G _) (by decide) rfl in_X4 3 (by decide) kf_X4_30 rfl dX4_verseOf_67 ?_
              refine f_calli X hh (c_leastCost l G (I := inst a i j) hI hM1) mf_yX1_leastCost ki_yX1_leastCost kl_yX1_leastCost km_X4_107 (sh_85 G _) (by decide) rfl rfl hl.1 [.int (nI (vsum a j i))] rfl (Nat.le_of_ble_eq_true rfl) ⟨by decide, by decide⟩ ⟨Nat.zero_le _, Nat.zero_le _⟩ dX4_verseOf_70 (fun r τ H locs hq hh => ?_)
              obtain ⟨rfl, hf2⟩ := hq
              have hR2 := hR1.kt hf2.t
              rw [show lcN (inst a i j) = nI (TT (inst a i j) 0 0).1 from if_pos ⟨fun q9 => absurd q9 (by show ¬ bN (aB a) i = 0; omega), fun q9 => absurd q9 (by show ¬ bN (aB a) (3 + j) = 0; omega)⟩]
              refine f_iadd X (z := nI (vsum a j i + (TT (inst a i j) 0 0).1)) (nI_add (vsum a j i) ((TT (inst a i j) 0 0).1)) dX4_verseOf_73 ?_
              refine lv_istore_n (lv' := [(2, .int (nI (vsum a j i + (TT (inst a i j) 0 0).1))), (3, .int (nI i)), (0, .ref (gad G 81)), (1, .int (nI j))]) X.x X.b dX4_verseOf_74 rfl hl (by decide) rfl (fun ls hl => ?_)
              refine lv_iinc (v := nI (i + 1)) (lv' := [(3, .int (nI (i + 1))), (2, .int (nI (vsum a j i + (TT (inst a i j) 0 0).1))), (0, .ref (gad G 81)), (1, .int (nI j))]) X.x X.b dX4_verseOf_75 hl (k := 1) rfl (nI_1 i) (by decide) rfl (fun ls hl => ?_)
              refine lv_goto (tgt := 32) X.x X.b dX4_verseOf_78 (by decide) ?_
              refine ih (3 - (i + 1)) (by omega) (i + 1) rfl (by omega) _ hR2 ((hf0.tr hf1.t).tr hf2.t) ls H locs ?_ hh
              rw [show vsum a j (i + 1) = vsum a j i + (TT (inst a i j) 0 0).1 by show _ + (if _ then _ else _) = _; rw [if_neg (by omega)]; rfl]
              exact lv_sub hl [0, 1, 2, 3] rfl
      refine lv_iconst (v := nI 0) X.x X.b dX4_verseOf_28 (by decide) ?_
      refine lv_istore_n (lv' := [(2, .int (nI 0)), (0, .ref (gad G 81)), (1, .int (nI j))]) X.x X.b dX4_verseOf_29 rfl hl (by decide) rfl (fun ls hl => ?_)
      refine lv_iconst (v := nI 0) X.x X.b dX4_verseOf_30 (by decide) ?_
      refine lv_istore_n (lv' := [(3, .int (nI 0)), (2, .int (nI 0)), (0, .ref (gad G 81)), (1, .int (nI j))]) X.x X.b dX4_verseOf_31 rfl hl (by decide) rfl (fun ls hl => ?_)
      exact lp 3 0 rfl (by omega) σ hR FrT.rf ls H locs (lv_sub hl [0, 1, 2, 3] rfl) hh
    · have c_2 : (sumN (fun j => bN (aB a) j) 3) = 0 := (nI_eq (a := (sumN (fun j => bN (aB a) j) 3)) (b := 0) (by omega) (by omega)).mp c_2
      refine lv_bipush (v := (-6)) X.x X.b dX4_verseOf_25 (by decide) ?_
      exact f_iret X hh ⟨(if_pos (Or.inr c_2)).symm, hR, FrT.rf⟩ dX4_verseOf_27
end
section
theorem LM.turn {σ τ : Mem} {I : LI} {n : Nat} {w z : Nat → Nat} (h : LM σ I) (hr : RW τ 22 n w z) (hf : Frr 22 σ τ) : LM τ (I.1, (n, w, z), I.2.2) := ⟨h.1.keep hf (by decide), hr, fun k hk => by rw [hf _ (by decide)]; exact h.2.2 k hk⟩
theorem LM.strs {σ τ : Mem} {I : LI} {n : Nat} {w z : Nat → Nat} (h : LM σ I) (hr : RW τ 21 n w z) (hf : Frr 21 σ τ) : LM τ ((n, w, z), I.2) := ⟨hr, h.2.1.keep hf (by decide), fun k hk => by rw [hf _ (by decide)]; exact h.2.2 k hk⟩
theorem anN_s {a : AS} {i j s v : Nat} (hv : v < 3) : anN a i j (3 * s + v + 1) = if lcN (instA a i j s v) ≠ -6 ∧ ((anN a i j (3 * s + v)).2.2 = -6 ∨ lcN (instA a i j s v) < (anN a i j (3 * s + v)).2.2) then (nI s, nI v, lcN (instA a i j s v)) else anN a i j (3 * s + v) := by
  have e1 : (3 * s + v) / 3 = s := by omega
  have e2 : (3 * s + v) % 3 = v := by omega
  show (if lcN (instA a i j ((3 * s + v) / 3) ((3 * s + v) % 3)) ≠ -6 ∧ _ then (nI ((3 * s + v) / 3), nI ((3 * s + v) % 3), lcN (instA a i j ((3 * s + v) / 3) ((3 * s + v) % 3))) else _) = _
  rw [e1, e2]
  rfl
theorem nI_2 {k : Nat} (h : k < 2 ^ 31) : nI k = 2 ↔ k = 2 := nI_eq (b := 2) h (by decide)
theorem kb_or {a : AS} {k : Nat} (hk : k ≤ 1) : nI (kbit a) ||| (nI 1 <<< (nI k &&& 31)) = nI (kbit (ns_image (nI k) a)) := by
  have hb : inB (nI k) 0 1 := (inB_nI (by omega)).mpr (by omega)
  unfold ns_image
  rw [if_pos hb, ix_nI (by omega)]
  unfold kbit aK
  dsimp only
  rcases (show k = 0 ∨ k = 1 by omega) with rfl | rfl <;> by_cases h0 : a.2.2.2 0 = true <;> by_cases h1 : a.2.2.2 1 = true <;> simp [h0, h1] <;> decide
theorem kb_shr {a : AS} {k : Nat} (hk : k ≤ 1) : (nI (kbit a) >>> (nI k &&& 31)) &&& nI 1 = nI (if aK a k = true then 1 else 0) := by
  unfold kbit
  rcases (show k = 0 ∨ k = 1 by omega) with rfl | rfl
  · by_cases h0 : aK a 0 = true <;> by_cases h1 : aK a 1 = true <;> simp only [h0, h1, if_true, if_false] <;> decide
  · by_cases h0 : aK a 0 = true <;> by_cases h1 : aK a 1 = true <;> simp only [h0, h1, if_true, if_false] <;> decide
theorem RC.img {σ τ υ : Mem} {a : AS} {k : Nat} (h : RC σ a) (hk : k ≤ 1) (hb : BK τ (1 + k) (bN (aB a)) (bW (aB a)) (bZ (aB a)) (bU (aB a))) (hf : Frb (1 + k) σ τ) (he : ∀ j, j ≠ 81 → υ j = τ j) (h4 : υ 81 4 = nI (kbit (ns_image (nI k) a))) : RC υ (ns_image (nI k) a) := by
  have hi : inB (nI k) 0 1 := (inB_nI (by omega)).mpr (by omega)
  have e : ns_image (nI k) a = (a.1, aB a, (fun q => if q = k then aB a else aI a q), fun q => if q = k then true else aK a q) := by
    unfold ns_image
    rw [if_pos hi, ix_nI (by omega)]
  rw [e] at h4 ⊢
  obtain ⟨h1, h2, h3, -⟩ := h
  refine ⟨(h1.keep (hf _ (by omega) (by omega)) (hf _ (by omega) (by omega))).keep (he _ (by decide)) (he _ (by decide)), (h2.keep hf (by decide) (by omega) (by omega)).kk (fun x hx => he x (by omega)), fun q hq h9 => ?_, h4⟩
  by_cases eq : q = k
  · subst eq
    show BK υ (1 + q) (bN (if q = q then aB a else aI a q)) (bW (if q = q then aB a else aI a q)) (bZ (if q = q then aB a else aI a q)) (bU (if q = q then aB a else aI a q))
    rw [if_pos rfl]
    exact hb.kk (fun x hx => he x (by omega))
  · have h9 : (if q = k then true else aK a q) = true := h9
    rw [if_neg eq] at h9
    show BK υ (1 + q) (bN (if q = k then aB a else aI a q)) (bW (if q = k then aB a else aI a q)) (bZ (if q = k then aB a else aI a q)) (bU (if q = k then aB a else aI a q))
    rw [if_neg eq]
    exact ((h3 q hq h9).keep hf (by omega) (by omega) (by omega)).kk (fun x hx => he x (by omega))
theorem RC.rst {σ τ : Mem} {a : AS} {k : Nat} (h : RC σ a) (hk : k ≤ 1) (hb : BK τ 0 (bN (aI a k)) (bW (aI a k)) (bZ (aI a k)) (bU (aI a k))) (hf : Frb 0 σ τ) : RC τ (a.1, aI a k, a.2.2) := by
  obtain ⟨h1, h2, h3, h4⟩ := h
  refine ⟨h1.keep (hf _ (by omega) (by omega)) (hf _ (by omega) (by omega)), hb, fun q hq h9 => (h3 q hq h9).keep hf (by omega) (by decide) (by omega), ?_⟩
  rw [hf _ (by omega) (by omega)]; exact h4
set_option maxHeartbeats 4000000 in
set_option maxRecDepth 100000 in
theorem c4_verse (l : Launch) (G : GG) {σ : Mem} {a : AS} (x : Int32) (hA : AOK a) (hR : RC σ a) : Ci l G yX4_verse cX4_verse 2 (some .int) 6 139 [.ref (gad G 81), .int x] σ (fun r τ => r = sp_verse x a ∧ RC τ a ∧ FrC σ τ) := by
  refine Ci.of (own := RX4) (by decide) rfl (Nat.le_of_ble_eq_true rfl) (fun p e s m args below meth c ls H locs X hl hh => ?_)
  have hl : lv_has ls 2 [(0, .ref (gad G 81)), (1, .int x)] := hl
  refine lv_iload_n X.x X.b dX4_verse_0 rfl (lv_at hl 1 rfl) ?_
  refine f_scalli X hh (c4_isTune l G x) mf_yX4_isTune ks_yX4_isTune km_X4_74 rfl hl.1 [] rfl (Nat.le_of_ble_eq_true rfl) ⟨by decide, by decide⟩ ⟨Nat.zero_le _, Nat.zero_le _⟩ dX4_verse_1 (fun r τ H locs hq hh => ?_)
  obtain ⟨rfl, hτ⟩ := hq
  rw [hτ] at hh
  clear hτ
  by_cases c_1 : inB x 0 3
  · rw [show (if inB x 0 3 then (1 : Int32) else 0) = 1 from if_pos c_1]
    obtain ⟨k, ha_k, hb_k, rfl⟩ := inB_of c_1 (by decide)
    refine lv_if_eq (tgt := 15) X.x X.b dX4_verse_4 (by decide) (fun h9 => absurd h9 (by decide)) (fun _ => ?_)
    refine lv_aload_n X.x X.b dX4_verse_7 rfl (lv_at hl 0 rfl) ?_
    refine lv_iload_n X.x X.b dX4_verse_8 rfl (lv_at hl 1 rfl) ?_
    refine f_calli X hh (c4_verseOf l G (j := k) hA hR (by omega)) mf_yX4_verseOf ki_yX4_verseOf kl_yX4_verseOf km_X4_129 (sh_81 G _) (by decide) rfl rfl hl.1 [] rfl (Nat.le_of_ble_eq_true rfl) ⟨by decide, by decide⟩ ⟨Nat.zero_le _, Nat.zero_le _⟩ dX4_verse_9 (fun r τ H locs hq hh => ?_)
    obtain ⟨rfl, hR1, hf1⟩ := hq
    refine lv_goto (tgt := 16) X.x X.b dX4_verse_12 (by decide) ?_
    exact f_iret X hh ⟨by unfold sp_verse; rw [if_pos c_1, ix_nI (by omega)], hR1, hf1.c⟩ dX4_verse_16
  · rw [show (if inB x 0 3 then (1 : Int32) else 0) = 0 from if_neg c_1]
    refine lv_if_eq (tgt := 15) X.x X.b dX4_verse_4 (by decide) (fun _ => ?_) (fun h9 => absurd (show _ by decide) h9)
    refine lv_iconst (v := (-1)) X.x X.b dX4_verse_15 (by decide) ?_
    exact f_iret X hh ⟨(if_neg c_1).symm, hR, FrC.rf⟩ dX4_verse_16
set_option maxHeartbeats 4000000 in
set_option maxRecDepth 100000 in
theorem c4_best (l : Launch) (G : GG) {σ : Mem} {a : AS} (x : Int32) (hA : AOK a) (hR : RC σ a) : Ci l G yX4_best cX4_best 6 (some .int) 6 139 [.ref (gad G 81), .int x] σ (fun r τ => r = sp_best x a ∧ RC τ a ∧ FrC σ τ) := by
  refine Ci.of (own := RX4) (by decide) rfl (Nat.le_of_ble_eq_true rfl) (fun p e s m args below meth c ls H locs X hl hh => ?_)
  have hl : lv_has ls 6 [(0, .ref (gad G 81)), (1, .int x)] := hl
  refine lv_iload_n X.x X.b dX4_best_0 rfl (lv_at hl 1 rfl) ?_
  refine lv_iconst (v := nI 0) X.x X.b dX4_best_1 (by decide) ?_
  refine lv_iconst (v := nI 1) X.x X.b dX4_best_2 (by decide) ?_
  refine f_scalli X hh (c_withinB l G x 0 1 (by decide) (by decide)) mf_yX4_isWithin ks_yX4_isWithin km_X4_38 rfl hl.1 [] rfl (Nat.le_of_ble_eq_true rfl) ⟨by decide, by decide⟩ ⟨Nat.zero_le _, Nat.zero_le _⟩ dX4_best_3 (fun r τ H locs hq hh => ?_)
  obtain ⟨rfl, hτ⟩ := hq
  rw [hτ] at hh
  clear hτ
  by_cases c_1 : inB x 0 1
  · rw [show (if inB x 0 1 then (1 : Int32) else 0) = 1 from if_pos c_1]
    obtain ⟨k, ha_k, hb_k, rfl⟩ := inB_of c_1 (by decide)
    refine lv_if_ne (tgt := 12) X.x X.b dX4_best_6 (by decide) (fun _ => ?_) (fun h9 => absurd h9 (by decide))
    have lp : ∀ (q i : Nat), 4 - i = q → i ≤ 4 → ∀ (υ : Mem), RC υ a → FrT σ υ → ∀ (ls : Array Slot) (H : Heap) (locs : List Loc), lv_has ls 6 [(4, .int (nI i)), (3, .int ((bst (vsN a) i).2)), (2, .int ((bst (vsN a) i).1)), (0, .ref (gad G 81)), (1, .int (nI k))] → HH G s υ H locs → WI l G p e s m args below meth c 6 139 (fun r τ => r = sp_best (nI k) a ∧ RC τ a ∧ FrC σ τ) H locs (F0 m 21 ls []) := by
      intro km
      induction km using Nat.strongRecOn with
      | ind km ih =>
        intro i hk hi υ hR0 hf0 ls H locs hl hh
        refine lv_iload X.x X.b dX4_best_21 (lv_at hl 0 rfl) ?_
        refine lv_iconst (v := nI 4) X.x X.b dX4_best_23 (by decide) ?_
        refine lv_icmp_ge (tgt := 56) X.x X.b dX4_best_24 (by decide) (fun c_3 => ?_) (fun c_3 => ?_)
        · have c_3 : 4 ≤ i := (nI_leI (a := 4) (b := i) (by omega) (by omega)).mp c_3
          refine lv_iload_n X.x X.b dX4_best_56 rfl (lv_at hl 4 rfl) ?_
          refine lv_if_ne (tgt := 64) X.x X.b dX4_best_57 (by decide) (fun c_4 => ?_) (fun c_4 => ?_)
          · have c_4 : ¬ k = 0 := fun q9 => c_4 ((nI_eq (a := k) (b := 0) (by omega) (by omega)).mpr q9)
            refine lv_iload_n X.x X.b dX4_best_64 rfl (lv_at hl 1 rfl) ?_
            exact f_iret X hh ⟨by obtain rfl : i = 4 := (by omega); unfold sp_best; rw [if_pos c_1, if_neg (fun q9 => c_4 ((nI_z (by omega)).mp q9))], hR0, hf0.c⟩ dX4_best_65
          · have c_4 : k = 0 := (nI_eq (a := k) (b := 0) (by omega) (by omega)).mp c_4
            refine lv_iload_n X.x X.b dX4_best_60 rfl (lv_at hl 2 rfl) ?_
            refine lv_goto (tgt := 65) X.x X.b dX4_best_61 (by decide) ?_
            exact f_iret X hh ⟨by obtain rfl : i = 4 := (by omega); unfold sp_best; rw [if_pos c_1, if_pos ((nI_z (by omega)).mpr c_4)], hR0, hf0.c⟩ dX4_best_65
        · have c_3 : ¬ 4 ≤ i := fun q9 => c_3 ((nI_leI (a := 4) (b := i) (by omega) (by omega)).mpr q9)
          refine lv_aload_n X.x X.b dX4_best_27 rfl (lv_at hl 3 rfl) ?_
          refine lv_iload X.x X.b dX4_best_28 (lv_at hl 0 rfl) ?_
          refine f_calli X hh (c4_verseOf l G (j := i) hA hR0 (by omega)) mf_yX4_verseOf ki_yX4_verseOf kl_yX4_verseOf km_X4_129 (sh_81 G _) (by decide) rfl rfl hl.1 [] rfl (Nat.le_of_ble_eq_true rfl) ⟨by decide, by decide⟩ ⟨Nat.zero_le _, Nat.zero_le _⟩ dX4_best_30 (fun r τ H locs hq hh => ?_)
          obtain ⟨rfl, hR1, hf1⟩ := hq
          refine lv_istore (lv' := [(5, .int (vsN a i)), (4, .int (nI i)), (3, .int ((bst (vsN a) i).2)), (2, .int ((bst (vsN a) i).1)), (0, .ref (gad G 81)), (1, .int (nI k))]) X.x X.b dX4_best_33 hl (by decide) rfl (fun ls hl => ?_)
          refine lv_iload X.x X.b dX4_best_35 (lv_at hl 0 rfl) ?_
          refine lv_iload_n X.x X.b dX4_best_37 rfl (lv_at hl 2 rfl) ?_
          refine f_scalli X hh (c_isCheaper l G (vsN a i) ((bst (vsN a) i).2)) mf_yX4_isCheaper ks_yX4_isCheaper km_X4_132 rfl hl.1 [] rfl (Nat.le_of_ble_eq_true rfl) ⟨by decide, by decide⟩ ⟨Nat.zero_le _, Nat.zero_le _⟩ dX4_best_38 (fun r τ H locs hq hh => ?_)
          obtain ⟨rfl, hτ⟩ := hq
          rw [hτ] at hh
          clear hτ
          by_cases c_5 : vsN a i ≠ -6 ∧ ((bst (vsN a) i).2 = -6 ∨ vsN a i < (bst (vsN a) i).2)
          · rw [show (if vsN a i ≠ -6 ∧ ((bst (vsN a) i).2 = -6 ∨ vsN a i < (bst (vsN a) i).2) then (1 : Int32) else 0) = 1 from if_pos c_5]
            refine lv_if_eq (tgt := 50) X.x X.b dX4_best_41 (by decide) (fun h9 => absurd h9 (by decide)) (fun _ => ?_)
            refine lv_iload X.x X.b dX4_best_44 (lv_at hl 1 rfl) ?_
            refine lv_istore_n (lv' := [(2, .int (nI i)), (5, .int (vsN a i)), (4, .int (nI i)), (3, .int ((bst (vsN a) i).2)), (0, .ref (gad G 81)), (1, .int (nI k))]) X.x X.b dX4_best_46 rfl hl (by decide) rfl (fun ls hl => ?_)
            refine lv_iload X.x X.b dX4_best_47 (lv_at hl 1 rfl) ?_
            refine lv_istore_n (lv' := [(3, .int (vsN a i)), (2, .int (nI i)), (5, .int (vsN a i)), (4, .int (nI i)), (0, .ref (gad G 81)), (1, .int (nI k))]) X.x X.b dX4_best_49 rfl hl (by decide) rfl (fun ls hl => ?_)
            refine lv_iinc (v := nI (i + 1)) (lv' := [(4, .int (nI (i + 1))), (3, .int (vsN a i)), (2, .int (nI i)), (5, .int (vsN a i)), (0, .ref (gad G 81)), (1, .int (nI k))]) X.x X.b dX4_best_50 hl (k := 3) rfl (nI_1 i) (by decide) rfl (fun ls hl => ?_)
            refine lv_goto (tgt := 21) X.x X.b dX4_best_53 (by decide) ?_
            refine ih (4 - (i + 1)) (by omega) (i + 1) rfl (by omega) _ hR1 (hf0.tr hf1) ls H locs ?_ hh
            rw [show bst (vsN a) (i + 1) = (nI i, vsN a i) from if_pos c_5]
            exact lv_sub hl [0, 1, 2, 4, 5] rfl
          · rw [show (if vsN a i ≠ -6 ∧ ((bst (vsN a) i).2 = -6 ∨ vsN a i < (bst (vsN a) i).2) then (1 : Int32) else 0) = 0 from if_neg c_5]
            refine lv_if_eq (tgt := 50) X.x X.b dX4_best_41 (by decide) (fun _ => ?_) (fun h9 => absurd (show _ by decide) h9)
            refine lv_iinc (v := nI (i + 1)) (lv' := [(4, .int (nI (i + 1))), (5, .int (vsN a i)), (3, .int ((bst (vsN a) i).2)), (2, .int ((bst (vsN a) i).1)), (0, .ref (gad G 81)), (1, .int (nI k))]) X.x X.b dX4_best_50 hl (k := 1) rfl (nI_1 i) (by decide) rfl (fun ls hl => ?_)
            refine lv_goto (tgt := 21) X.x X.b dX4_best_53 (by decide) ?_
            refine ih (4 - (i + 1)) (by omega) (i + 1) rfl (by omega) _ hR1 (hf0.tr hf1) ls H locs ?_ hh
            rw [show bst (vsN a) (i + 1) = bst (vsN a) i from if_neg c_5]
            exact lv_sub hl [0, 2, 3, 4, 5] rfl
    refine lv_bipush (v := (-6)) X.x X.b dX4_best_12 (by decide) ?_
    refine lv_istore_n (lv' := [(2, .int ((-6))), (0, .ref (gad G 81)), (1, .int (nI k))]) X.x X.b dX4_best_14 rfl hl (by decide) rfl (fun ls hl => ?_)
    refine lv_bipush (v := (-6)) X.x X.b dX4_best_15 (by decide) ?_
    refine lv_istore_n (lv' := [(3, .int ((-6))), (2, .int ((-6))), (0, .ref (gad G 81)), (1, .int (nI k))]) X.x X.b dX4_best_17 rfl hl (by decide) rfl (fun ls hl => ?_)
    refine lv_iconst (v := nI 0) X.x X.b dX4_best_18 (by decide) ?_
    refine lv_istore (lv' := [(4, .int (nI 0)), (3, .int ((-6))), (2, .int ((-6))), (0, .ref (gad G 81)), (1, .int (nI k))]) X.x X.b dX4_best_19 hl (by decide) rfl (fun ls hl => ?_)
    exact lp 4 0 rfl (by omega) σ hR FrT.rf ls H locs (lv_sub hl [0, 1, 2, 3, 4] rfl) hh
  · rw [show (if inB x 0 1 then (1 : Int32) else 0) = 0 from if_neg c_1]
    refine lv_if_ne (tgt := 12) X.x X.b dX4_best_6 (by decide) (fun h9 => absurd (show _ by decide) h9) (fun _ => ?_)
    refine lv_bipush (v := (-2)) X.x X.b dX4_best_9 (by decide) ?_
    exact f_iret X hh ⟨(if_neg c_1).symm, hR, FrC.rf⟩ dX4_best_11
set_option maxHeartbeats 4000000 in
set_option maxRecDepth 100000 in
theorem c4_turned (l : Launch) (G : GG) {σ : Mem} {a : AS} (x y v : Int32) (hA : AOK a) (hR : RC σ a) : Ci l G yX4_turned cX4_turned 9 (some .int) 5 116 [.ref (gad G 81), .int x, .int y, .int v] σ (fun r τ => r = sp_turned x y v a ∧ RC τ a ∧ FrC σ τ) := by
  refine Ci.of (own := RX4) (by decide) rfl (Nat.le_of_ble_eq_true rfl) (fun p e s m args below meth c ls H locs X hl hh => ?_)
  have hl : lv_has ls 9 [(0, .ref (gad G 81)), (1, .int x), (2, .int y), (3, .int v)] := hl
  refine lv_iload_n X.x X.b dX4_turned_0 rfl (lv_at hl 1 rfl) ?_
  refine lv_iload_n X.x X.b dX4_turned_1 rfl (lv_at hl 2 rfl) ?_
  refine f_scalli X hh (c4_areKnown l G x y) mf_yX4_areKnown ks_yX4_areKnown km_X4_91 rfl hl.1 [] rfl (Nat.le_of_ble_eq_true rfl) ⟨by decide, by decide⟩ ⟨Nat.zero_le _, Nat.zero_le _⟩ dX4_turned_2 (fun r τ H locs hq hh => ?_)
  obtain ⟨rfl, hτ⟩ := hq
  rw [hτ] at hh
  clear hτ
  by_cases c_1 : kno x y
  · rw [show (if kno x y then (1 : Int32) else 0) = 1 from if_pos c_1]
    obtain ⟨i, ha_i, hb_i, rfl⟩ := inB_of c_1.1 (by decide)
    obtain ⟨j, ha_j, hb_j, rfl⟩ := inB_of c_1.2 (by decide)
    have hI := inst_ok hA (show i < 3 by omega) (show j < 4 by omega)
    have ei := ix_nI (show i < 2 ^ 31 by omega)
    have ej := ix_nI (show j < 2 ^ 31 by omega)
    refine lv_if_ne (tgt := 10) X.x X.b dX4_turned_5 (by decide) (fun _ => ?_) (fun h9 => absurd h9 (by decide))
    refine lv_iload_n X.x X.b dX4_turned_10 rfl (lv_at hl 3 rfl) ?_
    refine lv_iconst (v := nI 0) X.x X.b dX4_turned_11 (by decide) ?_
    refine lv_iconst (v := nI 1) X.x X.b dX4_turned_12 (by decide) ?_
    refine f_scalli X hh (c_withinB l G v 0 1 (by decide) (by decide)) mf_yX4_isWithin ks_yX4_isWithin km_X4_38 rfl hl.1 [] rfl (Nat.le_of_ble_eq_true rfl) ⟨by decide, by decide⟩ ⟨Nat.zero_le _, Nat.zero_le _⟩ dX4_turned_13 (fun r τ H locs hq hh => ?_)
    obtain ⟨rfl, hτ⟩ := hq
    rw [hτ] at hh
    clear hτ
    by_cases c_3 : inB v 0 1
    · rw [show (if inB v 0 1 then (1 : Int32) else 0) = 1 from if_pos c_3]
      obtain ⟨k, ha_k, hb_k, rfl⟩ := inB_of c_3 (by decide)
      refine lv_if_ne (tgt := 22) X.x X.b dX4_turned_16 (by decide) (fun _ => ?_) (fun h9 => absurd h9 (by decide))
      have hm9 : bN (aB a) (3 + j) ≤ 11 := hI.2.1
      have lp : ∀ (q0 q : Nat), bN (aB a) (3 + j) - q = q0 → q ≤ bN (aB a) (3 + j) → ∀ (υ : Mem), RC υ a → FrT σ υ → ∀ (ls : Array Slot) (H : Heap) (locs : List Loc), lv_has ls 9 [(7, .int (nI q)), (6, .int (nI (bN (aB a) (3 + j)))), (5, .int ((tur a i j q).2)), (4, .int ((tur a i j q).1)), (0, .ref (gad G 81)), (1, .int (nI i)), (2, .int (nI j)), (3, .int (nI k))] → HH G s υ H locs → WI l G p e s m args below meth c 5 116 (fun r τ => r = sp_turned (nI i) (nI j) (nI k) a ∧ RC τ a ∧ FrC σ τ) H locs (F0 m 47 ls []) := by
        intro km
        induction km using Nat.strongRecOn with
        | ind km ih =>
          intro q hk hi υ hR0 hf0 ls H locs hl hh
          refine lv_iload X.x X.b dX4_turned_47 (lv_at hl 0 rfl) ?_
          refine lv_iload X.x X.b dX4_turned_49 (lv_at hl 1 rfl) ?_
          refine lv_icmp_ge (tgt := 118) X.x X.b dX4_turned_51 (by decide) (fun c_5 => ?_) (fun c_5 => ?_)
          · have c_5 : (bN (aB a) (3 + j)) ≤ q := (nI_leI (a := (bN (aB a) (3 + j))) (b := q) (by omega) (by omega)).mp c_5
            refine lv_iload_n X.x X.b dX4_turned_118 rfl (lv_at hl 7 rfl) ?_
            refine lv_if_ne (tgt := 127) X.x X.b dX4_turned_119 (by decide) (fun c_6 => ?_) (fun c_6 => ?_)
            · have c_6 : ¬ k = 0 := fun q9 => c_6 ((nI_eq (a := k) (b := 0) (by omega) (by omega)).mpr q9)
              refine lv_iload X.x X.b dX4_turned_127 (lv_at hl 2 rfl) ?_
              exact f_iret X hh ⟨by have e9 : q = bN (aB a) (3 + j) := (by omega); unfold sp_turned; rw [if_pos c_1, if_pos c_3, ei, ej, if_neg (fun q9 => c_6 ((nI_z (by omega)).mp q9)), e9], hR0, hf0.c⟩ dX4_turned_129
            · have c_6 : k = 0 := (nI_eq (a := k) (b := 0) (by omega) (by omega)).mp c_6
              refine lv_iload X.x X.b dX4_turned_122 (lv_at hl 3 rfl) ?_
              refine lv_goto (tgt := 129) X.x X.b dX4_turned_124 (by decide) ?_
              exact f_iret X hh ⟨by have e9 : q = bN (aB a) (3 + j) := (by omega); unfold sp_turned; rw [if_pos c_1, if_pos c_3, ei, ej, if_pos ((nI_z (by omega)).mpr c_6), e9], hR0, hf0.c⟩ dX4_turned_129
          · have c_5 : ¬ (bN (aB a) (3 + j)) ≤ q := fun q9 => c_5 ((nI_leI (a := (bN (aB a) (3 + j))) (b := q) (by omega) (by omega)).mpr q9)
            refine lv_aload_n X.x X.b dX4_turned_54 rfl (lv_at hl 4 rfl) ?_
            refine f_get X hh (v := .ref (gad G 85)) (sh_81 G _) (by decide) rfl in_X4 3 (by decide) kf_X4_30 rfl dX4_turned_55 ?_
            refine lv_aload_n X.x X.b dX4_turned_58 rfl (lv_at hl 4 rfl) ?_
            refine f_get X hh (v := .ref (gad G 69)) (sh_81 G _) (by decide) rfl in_X4 1 (by decide) kf_X4_19 rfl dX4_turned_59 ?_
            refine lv_iload_n X.x X.b dX4_turned_62 rfl (lv_at hl 5 rfl) ?_
            refine lv_iload_n X.x X.b dX4_turned_63 rfl (lv_at hl 6 rfl) ?_
            refine f_callv X hh (c_take l G (i := i) (j := j) (by omega) (by omega) hR0.2.1) mf_yX1_take ki_yX1_take kl_yX1_take km_X4_99 (sh_85 G _) (by decide) rfl rfl hl.1 [] rfl (Nat.le_of_ble_eq_true rfl) ⟨by decide, by decide⟩ ⟨Nat.zero_le _, Nat.zero_le _⟩ dX4_turned_64 (fun τ H locs hq hh => ?_)
            obtain ⟨hM1, hf1⟩ := hq
            have hR1 := hR0.kt hf1.t
            refine lv_aload_n X.x X.b dX4_turned_67 rfl (lv_at hl 4 rfl) ?_
            refine f_get X hh (v := .ref (gad G 85)) (sh_81 G _) (by decide) rfl in_X4 3 (by decide) kf_X4_30 rfl dX4_turned_68 ?_
            refine lv_aload_n X.x X.b dX4_turned_71 rfl (lv_at hl 4 rfl) ?_
            refine f_get X hh (v := .ref (gad G 69)) (sh_81 G _) (by decide) rfl in_X4 1 (by decide) kf_X4_19 rfl dX4_turned_72 ?_
            refine f_get X hh (v := .ref (gad G 71)) (sh_69 G _) (by decide) rfl in_X0 1 (by decide) kf_X4_77 rfl dX4_turned_75 ?_
            refine lv_iload_n X.x X.b dX4_turned_78 rfl (lv_at hl 6 rfl) ?_
            refine f_aald X hh (j := j) 2 (sh_71 G _) rfl rfl (by decide) rfl (by omega) (by decide) dX4_turned_79 ?_
            refine lv_iload X.x X.b dX4_turned_80 (lv_at hl 0 rfl) ?_
            refine f_callv X hh (c_turnTune l G (q := 7 * 0 + (3 + j)) (a := q) (by omega) (by omega) (hR1.2.1.1 (3 + j) (by omega)) hm9) mf_yX1_turnTune ki_yX1_turnTune kl_yX1_turnTune km_X4_135 (sh_85 G _) (by decide) rfl rfl hl.1 [] rfl (Nat.le_of_ble_eq_true rfl) ⟨by decide, by decide⟩ ⟨Nat.zero_le _, Nat.zero_le _⟩ dX4_turned_82 (fun τ H locs hq hh => ?_)
            obtain ⟨hv2, hf2⟩ := hq
            have hM2 : LM τ (instT a i j q) := hM1.turn hv2 hf2
            have hR2 := hR1.kt (hf2.t (Or.inr rfl))
            refine lv_aload_n X.x X.b dX4_turned_85 rfl (lv_at hl 4 rfl) ?_
            refine f_get X hh (v := .ref (gad G 85)) (sh_81 G _) (by decide) rfl in_X4 3 (by decide) kf_X4_30 rfl dX4_turned_86 ?_
            refine f_calli X hh (c_leastCost l G (I := instT a i j q) (instT_ok hA (by omega) (by omega)) hM2) mf_yX1_leastCost ki_yX1_leastCost kl_yX1_leastCost km_X4_107 (sh_85 G _) (by decide) rfl rfl hl.1 [] rfl (Nat.le_of_ble_eq_true rfl) ⟨by decide, by decide⟩ ⟨Nat.zero_le _, Nat.zero_le _⟩ dX4_turned_89 (fun r τ H locs hq hh => ?_)
            obtain ⟨rfl, hf3⟩ := hq
            have hR3 := hR2.kt hf3.t
            refine lv_istore (lv' := [(8, .int (lcN (instT a i j q))), (7, .int (nI q)), (6, .int (nI (bN (aB a) (3 + j)))), (5, .int ((tur a i j q).2)), (4, .int ((tur a i j q).1)), (0, .ref (gad G 81)), (1, .int (nI i)), (2, .int (nI j)), (3, .int (nI k))]) X.x X.b dX4_turned_92 hl (by decide) rfl (fun ls hl => ?_)
            refine lv_iload X.x X.b dX4_turned_94 (lv_at hl 0 rfl) ?_
            refine lv_iload X.x X.b dX4_turned_96 (lv_at hl 3 rfl) ?_
            refine f_scalli X hh (c_isCheaper l G (lcN (instT a i j q)) ((tur a i j q).2)) mf_yX4_isCheaper ks_yX4_isCheaper km_X4_132 rfl hl.1 [] rfl (Nat.le_of_ble_eq_true rfl) ⟨by decide, by decide⟩ ⟨Nat.zero_le _, Nat.zero_le _⟩ dX4_turned_98 (fun r τ H locs hq hh => ?_)
            obtain ⟨rfl, hτ⟩ := hq
            rw [hτ] at hh
            clear hτ
            by_cases c_7 : lcN (instT a i j q) ≠ -6 ∧ ((tur a i j q).2 = -6 ∨ lcN (instT a i j q) < (tur a i j q).2)
            · rw [show (if lcN (instT a i j q) ≠ -6 ∧ ((tur a i j q).2 = -6 ∨ lcN (instT a i j q) < (tur a i j q).2) then (1 : Int32) else 0) = 1 from if_pos c_7]
              refine lv_if_eq (tgt := 112) X.x X.b dX4_turned_101 (by decide) (fun h9 => absurd h9 (by decide)) (fun _ => ?_)
              refine lv_iload X.x X.b dX4_turned_104 (lv_at hl 1 rfl) ?_
              refine lv_istore (lv' := [(4, .int (nI q)), (8, .int (lcN (instT a i j q))), (7, .int (nI q)), (6, .int (nI (bN (aB a) (3 + j)))), (5, .int ((tur a i j q).2)), (0, .ref (gad G 81)), (1, .int (nI i)), (2, .int (nI j)), (3, .int (nI k))]) X.x X.b dX4_turned_106 hl (by decide) rfl (fun ls hl => ?_)
              refine lv_iload X.x X.b dX4_turned_108 (lv_at hl 1 rfl) ?_
              refine lv_istore (lv' := [(5, .int (lcN (instT a i j q))), (4, .int (nI q)), (8, .int (lcN (instT a i j q))), (7, .int (nI q)), (6, .int (nI (bN (aB a) (3 + j)))), (0, .ref (gad G 81)), (1, .int (nI i)), (2, .int (nI j)), (3, .int (nI k))]) X.x X.b dX4_turned_110 hl (by decide) rfl (fun ls hl => ?_)
              refine lv_iinc (v := nI (q + 1)) (lv' := [(7, .int (nI (q + 1))), (5, .int (lcN (instT a i j q))), (4, .int (nI q)), (8, .int (lcN (instT a i j q))), (6, .int (nI (bN (aB a) (3 + j)))), (0, .ref (gad G 81)), (1, .int (nI i)), (2, .int (nI j)), (3, .int (nI k))]) X.x X.b dX4_turned_112 hl (k := 3) rfl (nI_1 q) (by decide) rfl (fun ls hl => ?_)
              refine lv_goto (tgt := 47) X.x X.b dX4_turned_115 (by decide) ?_
              refine ih (bN (aB a) (3 + j) - (q + 1)) (by omega) (q + 1) rfl (by omega) _ hR3 (((hf0.tr hf1.t).tr (hf2.t (Or.inr rfl))).tr hf3.t) ls H locs ?_ hh
              rw [show tur a i j (q + 1) = (nI q, lcN (instT a i j q)) from if_pos c_7]
              exact lv_sub hl [0, 4, 1, 2, 5, 6, 7, 8] rfl
            · rw [show (if lcN (instT a i j q) ≠ -6 ∧ ((tur a i j q).2 = -6 ∨ lcN (instT a i j q) < (tur a i j q).2) then (1 : Int32) else 0) = 0 from if_neg c_7]
              refine lv_if_eq (tgt := 112) X.x X.b dX4_turned_101 (by decide) (fun _ => ?_) (fun h9 => absurd (show _ by decide) h9)
              refine lv_iinc (v := nI (q + 1)) (lv' := [(7, .int (nI (q + 1))), (8, .int (lcN (instT a i j q))), (6, .int (nI (bN (aB a) (3 + j)))), (5, .int ((tur a i j q).2)), (4, .int ((tur a i j q).1)), (0, .ref (gad G 81)), (1, .int (nI i)), (2, .int (nI j)), (3, .int (nI k))]) X.x X.b dX4_turned_112 hl (k := 1) rfl (nI_1 q) (by decide) rfl (fun ls hl => ?_)
              refine lv_goto (tgt := 47) X.x X.b dX4_turned_115 (by decide) ?_
              refine ih (bN (aB a) (3 + j) - (q + 1)) (by omega) (q + 1) rfl (by omega) _ hR3 (((hf0.tr hf1.t).tr (hf2.t (Or.inr rfl))).tr hf3.t) ls H locs ?_ hh
              rw [show tur a i j (q + 1) = tur a i j q from if_neg c_7]
              exact lv_sub hl [0, 2, 3, 4, 5, 6, 7, 8] rfl
      refine lv_bipush (v := (-6)) X.x X.b dX4_turned_22 (by decide) ?_
      refine lv_istore (lv' := [(4, .int ((-6))), (0, .ref (gad G 81)), (1, .int (nI i)), (2, .int (nI j)), (3, .int (nI k))]) X.x X.b dX4_turned_24 hl (by decide) rfl (fun ls hl => ?_)
      refine lv_bipush (v := (-6)) X.x X.b dX4_turned_26 (by decide) ?_
      refine lv_istore (lv' := [(5, .int ((-6))), (4, .int ((-6))), (0, .ref (gad G 81)), (1, .int (nI i)), (2, .int (nI j)), (3, .int (nI k))]) X.x X.b dX4_turned_28 hl (by decide) rfl (fun ls hl => ?_)
      refine lv_aload_n X.x X.b dX4_turned_30 rfl (lv_at hl 2 rfl) ?_
      refine f_get X hh (v := .ref (gad G 69)) (sh_81 G _) (by decide) rfl in_X4 1 (by decide) kf_X4_19 rfl dX4_turned_31 ?_
      refine f_get X hh (v := .ref (gad G 71)) (sh_69 G _) (by decide) rfl in_X0 1 (by decide) kf_X4_77 rfl dX4_turned_34 ?_
      refine lv_iload_n X.x X.b dX4_turned_37 rfl (lv_at hl 4 rfl) ?_
      refine f_aald X hh (j := j) 2 (sh_71 G _) rfl rfl (by decide) rfl (by omega) (by decide) dX4_turned_38 ?_
      refine f_geti X hh (x := nI (bN (aB a) (3 + j))) (sh_row G (r := 7 * 0 + (3 + j)) (by omega) _) (by omega) rfl in_X3 3 (by decide) kf_X4_71 rfl (hR.2.1.1 _ (by omega)).1 dX4_turned_39 ?_
      refine lv_istore (lv' := [(6, .int (nI (bN (aB a) (3 + j)))), (5, .int ((-6))), (4, .int ((-6))), (0, .ref (gad G 81)), (1, .int (nI i)), (2, .int (nI j)), (3, .int (nI k))]) X.x X.b dX4_turned_42 hl (by decide) rfl (fun ls hl => ?_)
      refine lv_iconst (v := nI 0) X.x X.b dX4_turned_44 (by decide) ?_
      refine lv_istore (lv' := [(7, .int (nI 0)), (6, .int (nI (bN (aB a) (3 + j)))), (5, .int ((-6))), (4, .int ((-6))), (0, .ref (gad G 81)), (1, .int (nI i)), (2, .int (nI j)), (3, .int (nI k))]) X.x X.b dX4_turned_45 hl (by decide) rfl (fun ls hl => ?_)
      exact lp (bN (aB a) (3 + j)) 0 rfl (by omega) σ hR FrT.rf ls H locs (lv_sub hl [0, 1, 2, 3, 4, 5, 6, 7] rfl) hh
    · rw [show (if inB v 0 1 then (1 : Int32) else 0) = 0 from if_neg c_3]
      refine lv_if_ne (tgt := 22) X.x X.b dX4_turned_16 (by decide) (fun h9 => absurd (show _ by decide) h9) (fun _ => ?_)
      refine lv_bipush (v := (-2)) X.x X.b dX4_turned_19 (by decide) ?_
      exact f_iret X hh ⟨by unfold sp_turned; rw [if_pos c_1, if_neg c_3], hR, FrC.rf⟩ dX4_turned_21
  · rw [show (if kno x y then (1 : Int32) else 0) = 0 from if_neg c_1]
    refine lv_if_ne (tgt := 10) X.x X.b dX4_turned_5 (by decide) (fun h9 => absurd (show _ by decide) h9) (fun _ => ?_)
    refine lv_iconst (v := (-1)) X.x X.b dX4_turned_8 (by decide) ?_
    exact f_iret X hh ⟨(if_neg c_1).symm, hR, FrC.rf⟩ dX4_turned_9
set_option maxHeartbeats 4000000 in
set_option maxRecDepth 100000 in
theorem c4_anew (l : Launch) (G : GG) {σ : Mem} {a : AS} (x y v : Int32) (hA : AOK a) (hR : RC σ a) : Ci l G yX4_anew cX4_anew 11 (some .int) 5 116 [.ref (gad G 81), .int x, .int y, .int v] σ (fun r τ => r = sp_anew x y v a ∧ RC τ a ∧ FrC σ τ) := by
  refine Ci.of (own := RX4) (by decide) rfl (Nat.le_of_ble_eq_true rfl) (fun p e s m args below meth c ls H locs X hl hh => ?_)
  have hl : lv_has ls 11 [(0, .ref (gad G 81)), (1, .int x), (2, .int y), (3, .int v)] := hl
  refine lv_iload_n X.x X.b dX4_anew_0 rfl (lv_at hl 1 rfl) ?_
  refine lv_iload_n X.x X.b dX4_anew_1 rfl (lv_at hl 2 rfl) ?_
  refine f_scalli X hh (c4_areKnown l G x y) mf_yX4_areKnown ks_yX4_areKnown km_X4_91 rfl hl.1 [] rfl (Nat.le_of_ble_eq_true rfl) ⟨by decide, by decide⟩ ⟨Nat.zero_le _, Nat.zero_le _⟩ dX4_anew_2 (fun r τ H locs hq hh => ?_)
  obtain ⟨rfl, hτ⟩ := hq
  rw [hτ] at hh
  clear hτ
  by_cases c_1 : kno x y
  · rw [show (if kno x y then (1 : Int32) else 0) = 1 from if_pos c_1]
    obtain ⟨i, ha_i, hb_i, rfl⟩ := inB_of c_1.1 (by decide)
    obtain ⟨j, ha_j, hb_j, rfl⟩ := inB_of c_1.2 (by decide)
    have hI := inst_ok hA (show i < 3 by omega) (show j < 4 by omega)
    have ei := ix_nI (show i < 2 ^ 31 by omega)
    have ej := ix_nI (show j < 2 ^ 31 by omega)
    refine lv_if_ne (tgt := 10) X.x X.b dX4_anew_5 (by decide) (fun _ => ?_) (fun h9 => absurd h9 (by decide))
    refine lv_iload_n X.x X.b dX4_anew_10 rfl (lv_at hl 3 rfl) ?_
    refine lv_iconst (v := nI 0) X.x X.b dX4_anew_11 (by decide) ?_
    refine lv_iconst (v := nI 2) X.x X.b dX4_anew_12 (by decide) ?_
    refine f_scalli X hh (c_withinB l G v 0 2 (by decide) (by decide)) mf_yX4_isWithin ks_yX4_isWithin km_X4_38 rfl hl.1 [] rfl (Nat.le_of_ble_eq_true rfl) ⟨by decide, by decide⟩ ⟨Nat.zero_le _, Nat.zero_le _⟩ dX4_anew_13 (fun r τ H locs hq hh => ?_)
    obtain ⟨rfl, hτ⟩ := hq
    rw [hτ] at hh
    clear hτ
    by_cases c_3 : inB v 0 2
    · rw [show (if inB v 0 2 then (1 : Int32) else 0) = 1 from if_pos c_3]
      obtain ⟨k, ha_k, hb_k, rfl⟩ := inB_of c_3 (by decide)
      refine lv_if_ne (tgt := 22) X.x X.b dX4_anew_16 (by decide) (fun _ => ?_) (fun h9 => absurd h9 (by decide))
      have hm9 : bN (aB a) i ≤ 9 := hI.1
      have lp : ∀ (q0 q : Nat), bN (aB a) i - q = q0 → q ≤ bN (aB a) i → ∀ (υ : Mem), RC υ a → FrT σ υ → ∀ (ls : Array Slot) (H : Heap) (locs : List Loc), lv_has ls 11 [(8, .int (nI q)), (7, .int (nI (bN (aB a) i))), (6, .int ((anN a i j (3 * q)).2.2)), (5, .int ((anN a i j (3 * q)).2.1)), (4, .int ((anN a i j (3 * q)).1)), (0, .ref (gad G 81)), (1, .int (nI i)), (2, .int (nI j)), (3, .int (nI k))] → HH G s υ H locs → WI l G p e s m args below meth c 5 116 (fun r τ => r = sp_anew (nI i) (nI j) (nI k) a ∧ RC τ a ∧ FrC σ τ) H locs (F0 m 69 ls []) := by
        intro km
        induction km using Nat.strongRecOn with
        | ind km ih =>
          intro q hk hi υ hR4 hf4 ls H locs hl hh
          refine lv_iload X.x X.b dX4_anew_69 (lv_at hl 0 rfl) ?_
          refine lv_iload X.x X.b dX4_anew_71 (lv_at hl 1 rfl) ?_
          refine lv_icmp_ge (tgt := 152) X.x X.b dX4_anew_73 (by decide) (fun c_5 => ?_) (fun c_5 => ?_)
          · have c_5 : (bN (aB a) i) ≤ q := (nI_leI (a := (bN (aB a) i)) (b := q) (by omega) (by omega)).mp c_5
            refine lv_iload_n X.x X.b dX4_anew_152 rfl (lv_at hl 8 rfl) ?_
            refine lv_iconst (v := nI 2) X.x X.b dX4_anew_153 (by decide) ?_
            refine lv_icmp_ne (tgt := 172) X.x X.b dX4_anew_154 (by decide) (fun c_6 => ?_) (fun c_6 => ?_)
            · have c_6 : ¬ k = 2 := fun q9 => c_6 ((nI_eq (a := k) (b := 2) (by omega) (by omega)).mpr q9)
              refine lv_iload_n X.x X.b dX4_anew_172 rfl (lv_at hl 8 rfl) ?_
              refine lv_if_ne (tgt := 181) X.x X.b dX4_anew_173 (by decide) (fun c_7 => ?_) (fun c_7 => ?_)
              · have c_7 : ¬ k = 0 := fun q9 => c_7 ((nI_eq (a := k) (b := 0) (by omega) (by omega)).mpr q9)
                refine lv_iload X.x X.b dX4_anew_181 (lv_at hl 3 rfl) ?_
                exact f_iret X hh ⟨by have e9 : q = bN (aB a) i := (by omega); subst e9; unfold sp_anew; rw [if_pos c_1, if_pos c_3, ei, ej]; unfold anr; rw [if_neg (fun q9 => c_6 ((nI_2 (by omega)).mp q9)), if_neg (fun q9 => c_7 ((nI_z (by omega)).mp q9))], hR4, hf4.c⟩ dX4_anew_183
              · have c_7 : k = 0 := (nI_eq (a := k) (b := 0) (by omega) (by omega)).mp c_7
                refine lv_iload X.x X.b dX4_anew_176 (lv_at hl 4 rfl) ?_
                refine lv_goto (tgt := 183) X.x X.b dX4_anew_178 (by decide) ?_
                exact f_iret X hh ⟨by have e9 : q = bN (aB a) i := (by omega); subst e9; unfold sp_anew; rw [if_pos c_1, if_pos c_3, ei, ej]; unfold anr; rw [if_neg (fun q9 => c_6 ((nI_2 (by omega)).mp q9)), if_pos ((nI_z (by omega)).mpr c_7)], hR4, hf4.c⟩ dX4_anew_183
            · have c_6 : k = 2 := (nI_eq (a := k) (b := 2) (by omega) (by omega)).mp c_6
              refine lv_iload X.x X.b dX4_anew_157 (lv_at hl 4 rfl) ?_
              refine lv_bipush (v := (-6)) X.x X.b dX4_anew_159 (by decide) ?_
              refine lv_icmp_ne (tgt := 169) X.x X.b dX4_anew_161 (by decide) (fun c_8 => ?_) (fun c_8 => ?_)
              · refine lv_iload X.x X.b dX4_anew_169 (lv_at hl 2 rfl) ?_
                exact f_iret X hh ⟨by have e9 : q = bN (aB a) i := (by omega); subst e9; unfold sp_anew; rw [if_pos c_1, if_pos c_3, ei, ej]; unfold anr; rw [if_pos ((nI_2 (by omega)).mpr c_6), if_neg c_8], hR4, hf4.c⟩ dX4_anew_171
              · refine lv_bipush (v := (-6)) X.x X.b dX4_anew_164 (by decide) ?_
                refine lv_goto (tgt := 171) X.x X.b dX4_anew_166 (by decide) ?_
                exact f_iret X hh ⟨by have e9 : q = bN (aB a) i := (by omega); subst e9; unfold sp_anew; rw [if_pos c_1, if_pos c_3, ei, ej]; unfold anr; rw [if_pos ((nI_2 (by omega)).mpr c_6), if_pos c_8], hR4, hf4.c⟩ dX4_anew_171
          · have c_5 : ¬ (bN (aB a) i) ≤ q := fun q9 => c_5 ((nI_leI (a := (bN (aB a) i)) (b := q) (by omega) (by omega)).mpr q9)
            refine lv_iconst (v := nI 0) X.x X.b dX4_anew_76 (by decide) ?_
            refine lv_istore (lv' := [(9, .int (nI 0)), (8, .int (nI q)), (7, .int (nI (bN (aB a) i))), (6, .int ((anN a i j (3 * q)).2.2)), (5, .int ((anN a i j (3 * q)).2.1)), (4, .int ((anN a i j (3 * q)).1)), (0, .ref (gad G 81)), (1, .int (nI i)), (2, .int (nI j)), (3, .int (nI k))]) X.x X.b dX4_anew_77 hl (by decide) rfl (fun ls hl => ?_)
            have lpi : ∀ (u0 u : Nat), 3 - u = u0 → u ≤ 3 → ∀ (ξ : Mem), RC ξ a → FrT σ ξ → ∀ (ls : Array Slot) (H : Heap) (locs : List Loc), lv_has ls 11 [(9, .int (nI u)), (8, .int (nI q)), (7, .int (nI (bN (aB a) i))), (6, .int ((anN a i j (3 * q + u)).2.2)), (5, .int ((anN a i j (3 * q + u)).2.1)), (4, .int ((anN a i j (3 * q + u)).1)), (0, .ref (gad G 81)), (1, .int (nI i)), (2, .int (nI j)), (3, .int (nI k))] → HH G s ξ H locs → WI l G p e s m args below meth c 5 116 (fun r τ => r = sp_anew (nI i) (nI j) (nI k) a ∧ RC τ a ∧ FrC σ τ) H locs (F0 m 79 ls []) := by
              intro km
              induction km using Nat.strongRecOn with
              | ind km ih2 =>
                intro u hk2 hu ξ hR5 hf5 ls H locs hl hh
                refine lv_iload X.x X.b dX4_anew_79 (lv_at hl 0 rfl) ?_
                refine lv_iconst (v := nI 2) X.x X.b dX4_anew_81 (by decide) ?_
                refine lv_icmp_gt (tgt := 146) X.x X.b dX4_anew_82 (by decide) (fun c_9 => ?_) (fun c_9 => ?_)
                · have c_9 : 2 < u := (nI_ltI (a := 2) (b := u) (by omega) (by omega)).mp c_9
                  refine lv_iinc (v := nI (q + 1)) (lv' := [(8, .int (nI (q + 1))), (9, .int (nI u)), (7, .int (nI (bN (aB a) i))), (6, .int ((anN a i j (3 * q + u)).2.2)), (5, .int ((anN a i j (3 * q + u)).2.1)), (4, .int ((anN a i j (3 * q + u)).1)), (0, .ref (gad G 81)), (1, .int (nI i)), (2, .int (nI j)), (3, .int (nI k))]) X.x X.b dX4_anew_146 hl (k := 1) rfl (nI_1 q) (by decide) rfl (fun ls hl => ?_)
                  refine lv_goto (tgt := 69) X.x X.b dX4_anew_149 (by decide) ?_
                  refine ih (bN (aB a) i - (q + 1)) (by omega) (q + 1) rfl (by omega) _ hR5 hf5 ls H locs ?_ hh
                  rw [show 3 * (q + 1) = 3 * q + u by omega]
                  exact lv_sub hl [0, 2, 3, 4, 5, 6, 7, 8, 9] rfl
                · have c_9 : ¬ 2 < u := fun q9 => c_9 ((nI_ltI (a := 2) (b := u) (by omega) (by omega)).mpr q9)
                  refine lv_aload_n X.x X.b dX4_anew_85 rfl (lv_at hl 6 rfl) ?_
                  refine f_get X hh (v := .ref (gad G 85)) (sh_81 G _) (by decide) rfl in_X4 3 (by decide) kf_X4_30 rfl dX4_anew_86 ?_
                  refine lv_aload_n X.x X.b dX4_anew_89 rfl (lv_at hl 6 rfl) ?_
                  refine f_get X hh (v := .ref (gad G 69)) (sh_81 G _) (by decide) rfl in_X4 1 (by decide) kf_X4_19 rfl dX4_anew_90 ?_
                  refine lv_iload_n X.x X.b dX4_anew_93 rfl (lv_at hl 7 rfl) ?_
                  refine lv_iload_n X.x X.b dX4_anew_94 rfl (lv_at hl 8 rfl) ?_
                  refine f_callv X hh (c_take l G (i := i) (j := j) (by omega) (by omega) hR5.2.1) mf_yX1_take ki_yX1_take kl_yX1_take km_X4_99 (sh_85 G _) (by decide) rfl rfl hl.1 [] rfl (Nat.le_of_ble_eq_true rfl) ⟨by decide, by decide⟩ ⟨Nat.zero_le _, Nat.zero_le _⟩ dX4_anew_95 (fun τ H locs hq hh => ?_)
                  obtain ⟨hM6, hf6⟩ := hq
                  have hR6 := hR5.kt hf6.t
                  refine lv_aload_n X.x X.b dX4_anew_98 rfl (lv_at hl 6 rfl) ?_
                  refine f_get X hh (v := .ref (gad G 85)) (sh_81 G _) (by decide) rfl in_X4 3 (by decide) kf_X4_30 rfl dX4_anew_99 ?_
                  refine lv_iload X.x X.b dX4_anew_102 (lv_at hl 1 rfl) ?_
                  refine lv_iload X.x X.b dX4_anew_104 (lv_at hl 0 rfl) ?_
                  refine f_callv X hh (c_stress l G (i := q) (x := u) hM6.1 (show q < bN (aB a) i by omega)) mf_yX1_stressSyllable ki_yX1_stressSyllable kl_yX1_stressSyllable km_X4_139 (sh_85 G _) (by decide) rfl rfl hl.1 [] rfl (Nat.le_of_ble_eq_true rfl) ⟨by decide, by decide⟩ ⟨Nat.zero_le _, Nat.zero_le _⟩ dX4_anew_106 (fun τ H locs hq hh => ?_)
                  obtain ⟨hv7, hf7⟩ := hq
                  have hM7 : LM τ (instA a i j q u) := hM6.strs hv7 hf7
                  have hR7 := hR6.kt (hf7.t (Or.inl rfl))
                  refine lv_aload_n X.x X.b dX4_anew_109 rfl (lv_at hl 6 rfl) ?_
                  refine f_get X hh (v := .ref (gad G 85)) (sh_81 G _) (by decide) rfl in_X4 3 (by decide) kf_X4_30 rfl dX4_anew_110 ?_
                  refine f_calli X hh (c_leastCost l G (I := instA a i j q u) (instA_ok hA (by omega) (by omega) (by omega)) hM7) mf_yX1_leastCost ki_yX1_leastCost kl_yX1_leastCost km_X4_107 (sh_85 G _) (by decide) rfl rfl hl.1 [] rfl (Nat.le_of_ble_eq_true rfl) ⟨by decide, by decide⟩ ⟨Nat.zero_le _, Nat.zero_le _⟩ dX4_anew_113 (fun r τ H locs hq hh => ?_)
                  obtain ⟨rfl, hf8⟩ := hq
                  have hR8 := hR7.kt hf8.t
                  refine lv_istore (lv' := [(10, .int (lcN (instA a i j q u))), (9, .int (nI u)), (8, .int (nI q)), (7, .int (nI (bN (aB a) i))), (6, .int ((anN a i j (3 * q + u)).2.2)), (5, .int ((anN a i j (3 * q + u)).2.1)), (4, .int ((anN a i j (3 * q + u)).1)), (0, .ref (gad G 81)), (1, .int (nI i)), (2, .int (nI j)), (3, .int (nI k))]) X.x X.b dX4_anew_116 hl (by decide) rfl (fun ls hl => ?_)
                  refine lv_iload X.x X.b dX4_anew_118 (lv_at hl 0 rfl) ?_
                  refine lv_iload X.x X.b dX4_anew_120 (lv_at hl 4 rfl) ?_
                  refine f_scalli X hh (c_isCheaper l G (lcN (instA a i j q u)) ((anN a i j (3 * q + u)).2.2)) mf_yX4_isCheaper ks_yX4_isCheaper km_X4_132 rfl hl.1 [] rfl (Nat.le_of_ble_eq_true rfl) ⟨by decide, by decide⟩ ⟨Nat.zero_le _, Nat.zero_le _⟩ dX4_anew_122 (fun r τ H locs hq hh => ?_)
                  obtain ⟨rfl, hτ⟩ := hq
                  rw [hτ] at hh
                  clear hτ
                  by_cases c_10 : lcN (instA a i j q u) ≠ -6 ∧ ((anN a i j (3 * q + u)).2.2 = -6 ∨ lcN (instA a i j q u) < (anN a i j (3 * q + u)).2.2)
                  · rw [show (if lcN (instA a i j q u) ≠ -6 ∧ ((anN a i j (3 * q + u)).2.2 = -6 ∨ lcN (instA a i j q u) < (anN a i j (3 * q + u)).2.2) then (1 : Int32) else 0) = 1 from if_pos c_10]
                    refine lv_if_eq (tgt := 140) X.x X.b dX4_anew_125 (by decide) (fun h9 => absurd h9 (by decide)) (fun _ => ?_)
                    refine lv_iload X.x X.b dX4_anew_128 (lv_at hl 2 rfl) ?_
                    refine lv_istore (lv' := [(4, .int (nI q)), (10, .int (lcN (instA a i j q u))), (9, .int (nI u)), (8, .int (nI q)), (7, .int (nI (bN (aB a) i))), (6, .int ((anN a i j (3 * q + u)).2.2)), (5, .int ((anN a i j (3 * q + u)).2.1)), (0, .ref (gad G 81)), (1, .int (nI i)), (2, .int (nI j)), (3, .int (nI k))]) X.x X.b dX4_anew_130 hl (by decide) rfl (fun ls hl => ?_)
                    refine lv_iload X.x X.b dX4_anew_132 (lv_at hl 2 rfl) ?_
                    refine lv_istore (lv' := [(5, .int (nI u)), (4, .int (nI q)), (10, .int (lcN (instA a i j q u))), (9, .int (nI u)), (8, .int (nI q)), (7, .int (nI (bN (aB a) i))), (6, .int ((anN a i j (3 * q + u)).2.2)), (0, .ref (gad G 81)), (1, .int (nI i)), (2, .int (nI j)), (3, .int (nI k))]) X.x X.b dX4_anew_134 hl (by decide) rfl (fun ls hl => ?_)
                    refine lv_iload X.x X.b dX4_anew_136 (lv_at hl 2 rfl) ?_
                    refine lv_istore (lv' := [(6, .int (lcN (instA a i j q u))), (5, .int (nI u)), (4, .int (nI q)), (10, .int (lcN (instA a i j q u))), (9, .int (nI u)), (8, .int (nI q)), (7, .int (nI (bN (aB a) i))), (0, .ref (gad G 81)), (1, .int (nI i)), (2, .int (nI j)), (3, .int (nI k))]) X.x X.b dX4_anew_138 hl (by decide) rfl (fun ls hl => ?_)
                    refine lv_iinc (v := nI (u + 1)) (lv' := [(9, .int (nI (u + 1))), (6, .int (lcN (instA a i j q u))), (5, .int (nI u)), (4, .int (nI q)), (10, .int (lcN (instA a i j q u))), (8, .int (nI q)), (7, .int (nI (bN (aB a) i))), (0, .ref (gad G 81)), (1, .int (nI i)), (2, .int (nI j)), (3, .int (nI k))]) X.x X.b dX4_anew_140 hl (k := 4) rfl (nI_1 u) (by decide) rfl (fun ls hl => ?_)
                    refine lv_goto (tgt := 79) X.x X.b dX4_anew_143 (by decide) ?_
                    refine ih2 (3 - (u + 1)) (by omega) (u + 1) rfl (by omega) _ hR8 (((hf5.tr hf6.t).tr (hf7.t (Or.inl rfl))).tr hf8.t) ls H locs ?_ hh
                    rw [← Nat.add_assoc, anN_s (by omega), if_pos c_10]
                    exact lv_sub hl [0, 5, 6, 1, 2, 3, 7, 8, 9, 10] rfl
                  · rw [show (if lcN (instA a i j q u) ≠ -6 ∧ ((anN a i j (3 * q + u)).2.2 = -6 ∨ lcN (instA a i j q u) < (anN a i j (3 * q + u)).2.2) then (1 : Int32) else 0) = 0 from if_neg c_10]
                    refine lv_if_eq (tgt := 140) X.x X.b dX4_anew_125 (by decide) (fun _ => ?_) (fun h9 => absurd (show _ by decide) h9)
                    refine lv_iinc (v := nI (u + 1)) (lv' := [(9, .int (nI (u + 1))), (10, .int (lcN (instA a i j q u))), (8, .int (nI q)), (7, .int (nI (bN (aB a) i))), (6, .int ((anN a i j (3 * q + u)).2.2)), (5, .int ((anN a i j (3 * q + u)).2.1)), (4, .int ((anN a i j (3 * q + u)).1)), (0, .ref (gad G 81)), (1, .int (nI i)), (2, .int (nI j)), (3, .int (nI k))]) X.x X.b dX4_anew_140 hl (k := 1) rfl (nI_1 u) (by decide) rfl (fun ls hl => ?_)
                    refine lv_goto (tgt := 79) X.x X.b dX4_anew_143 (by decide) ?_
                    refine ih2 (3 - (u + 1)) (by omega) (u + 1) rfl (by omega) _ hR8 (((hf5.tr hf6.t).tr (hf7.t (Or.inl rfl))).tr hf8.t) ls H locs ?_ hh
                    rw [← Nat.add_assoc, anN_s (by omega), if_neg c_10]
                    exact lv_sub hl [0, 2, 3, 4, 5, 6, 7, 8, 9, 10] rfl
            exact lpi 3 0 rfl (by omega) υ hR4 hf4 ls H locs (lv_sub hl [0, 1, 2, 3, 4, 5, 6, 7, 8, 9] rfl) hh
      refine lv_bipush (v := (-6)) X.x X.b dX4_anew_22 (by decide) ?_
      refine lv_istore (lv' := [(4, .int ((-6))), (0, .ref (gad G 81)), (1, .int (nI i)), (2, .int (nI j)), (3, .int (nI k))]) X.x X.b dX4_anew_24 hl (by decide) rfl (fun ls hl => ?_)
      refine lv_bipush (v := (-6)) X.x X.b dX4_anew_26 (by decide) ?_
      refine lv_istore (lv' := [(5, .int ((-6))), (4, .int ((-6))), (0, .ref (gad G 81)), (1, .int (nI i)), (2, .int (nI j)), (3, .int (nI k))]) X.x X.b dX4_anew_28 hl (by decide) rfl (fun ls hl => ?_)
      refine lv_aload_n X.x X.b dX4_anew_30 rfl (lv_at hl 2 rfl) ?_
      refine f_get X hh (v := .ref (gad G 85)) (sh_81 G _) (by decide) rfl in_X4 3 (by decide) kf_X4_30 rfl dX4_anew_31 ?_
      refine lv_aload_n X.x X.b dX4_anew_34 rfl (lv_at hl 2 rfl) ?_
      refine f_get X hh (v := .ref (gad G 69)) (sh_81 G _) (by decide) rfl in_X4 1 (by decide) kf_X4_19 rfl dX4_anew_35 ?_
      refine lv_iload_n X.x X.b dX4_anew_38 rfl (lv_at hl 3 rfl) ?_
      refine lv_iload_n X.x X.b dX4_anew_39 rfl (lv_at hl 4 rfl) ?_
      refine f_callv X hh (c_take l G (i := i) (j := j) (by omega) (by omega) hR.2.1) mf_yX1_take ki_yX1_take kl_yX1_take km_X4_99 (sh_85 G _) (by decide) rfl rfl hl.1 [] rfl (Nat.le_of_ble_eq_true rfl) ⟨by decide, by decide⟩ ⟨Nat.zero_le _, Nat.zero_le _⟩ dX4_anew_40 (fun τ H locs hq hh => ?_)
      obtain ⟨hM1, hf1⟩ := hq
      have hR1 := hR.kt hf1.t
      refine lv_aload_n X.x X.b dX4_anew_43 rfl (lv_at hl 2 rfl) ?_
      refine f_get X hh (v := .ref (gad G 85)) (sh_81 G _) (by decide) rfl in_X4 3 (by decide) kf_X4_30 rfl dX4_anew_44 ?_
      refine f_calli X hh (c_leastCost l G (I := inst a i j) hI hM1) mf_yX1_leastCost ki_yX1_leastCost kl_yX1_leastCost km_X4_107 (sh_85 G _) (by decide) rfl rfl hl.1 [] rfl (Nat.le_of_ble_eq_true rfl) ⟨by decide, by decide⟩ ⟨Nat.zero_le _, Nat.zero_le _⟩ dX4_anew_47 (fun r τ H locs hq hh => ?_)
      obtain ⟨rfl, hf2⟩ := hq
      have hR2 := hR1.kt hf2.t
      refine lv_istore (lv' := [(6, .int (lcN (inst a i j))), (5, .int ((-6))), (4, .int ((-6))), (0, .ref (gad G 81)), (1, .int (nI i)), (2, .int (nI j)), (3, .int (nI k))]) X.x X.b dX4_anew_50 hl (by decide) rfl (fun ls hl => ?_)
      refine lv_aload_n X.x X.b dX4_anew_52 rfl (lv_at hl 3 rfl) ?_
      refine f_get X hh (v := .ref (gad G 69)) (sh_81 G _) (by decide) rfl in_X4 1 (by decide) kf_X4_19 rfl dX4_anew_53 ?_
      refine f_get X hh (v := .ref (gad G 70)) (sh_69 G _) (by decide) rfl in_X0 0 (by decide) kf_X4_63 rfl dX4_anew_56 ?_
      refine lv_iload_n X.x X.b dX4_anew_59 rfl (lv_at hl 4 rfl) ?_
      refine f_aald X hh (j := i) 2 (sh_70 G _) rfl rfl (by decide) rfl (by omega) (by decide) dX4_anew_60 ?_
      refine f_geti X hh (x := nI (bN (aB a) i)) (sh_row G (r := 7 * 0 + i) (by omega) _) (by omega) rfl in_X3 3 (by decide) kf_X4_71 rfl (hR2.2.1.1 _ (by omega)).1 dX4_anew_61 ?_
      refine lv_istore (lv' := [(7, .int (nI (bN (aB a) i))), (6, .int (lcN (inst a i j))), (5, .int ((-6))), (4, .int ((-6))), (0, .ref (gad G 81)), (1, .int (nI i)), (2, .int (nI j)), (3, .int (nI k))]) X.x X.b dX4_anew_64 hl (by decide) rfl (fun ls hl => ?_)
      refine lv_iconst (v := nI 0) X.x X.b dX4_anew_66 (by decide) ?_
      refine lv_istore (lv' := [(8, .int (nI 0)), (7, .int (nI (bN (aB a) i))), (6, .int (lcN (inst a i j))), (5, .int ((-6))), (4, .int ((-6))), (0, .ref (gad G 81)), (1, .int (nI i)), (2, .int (nI j)), (3, .int (nI k))]) X.x X.b dX4_anew_67 hl (by decide) rfl (fun ls hl => ?_)
      exact lp (bN (aB a) i) 0 rfl (by omega) _ hR2 (hf1.t.tr hf2.t) ls H locs (lv_sub hl [0, 1, 2, 3, 4, 5, 6, 7, 8] rfl) hh
    · rw [show (if inB v 0 2 then (1 : Int32) else 0) = 0 from if_neg c_3]
      refine lv_if_ne (tgt := 22) X.x X.b dX4_anew_16 (by decide) (fun h9 => absurd (show _ by decide) h9) (fun _ => ?_)
      refine lv_bipush (v := (-2)) X.x X.b dX4_anew_19 (by decide) ?_
      exact f_iret X hh ⟨by unfold sp_anew; rw [if_pos c_1, if_neg c_3], hR, FrC.rf⟩ dX4_anew_21
  · rw [show (if kno x y then (1 : Int32) else 0) = 0 from if_neg c_1]
    refine lv_if_ne (tgt := 10) X.x X.b dX4_anew_5 (by decide) (fun h9 => absurd (show _ by decide) h9) (fun _ => ?_)
    refine lv_iconst (v := (-1)) X.x X.b dX4_anew_8 (by decide) ?_
    exact f_iret X hh ⟨(if_neg c_1).symm, hR, FrC.rf⟩ dX4_anew_9
set_option maxHeartbeats 4000000 in
set_option maxRecDepth 100000 in
theorem c4_image (l : Launch) (G : GG) {σ : Mem} {a : AS} (x : Int32) (hA : AOK a) (hR : RC σ a) : Ci l G yX4_image cX4_image 2 (some .int) 4 90 [.ref (gad G 81), .int x] σ (fun r τ => r = sp_image x a ∧ RC τ (ns_image x a) ∧ FrC σ τ) := by
  refine Ci.of (own := RX4) (by decide) rfl (Nat.le_of_ble_eq_true rfl) (fun p e s m args below meth c ls H locs X hl hh => ?_)
  have hl : lv_has ls 2 [(0, .ref (gad G 81)), (1, .int x)] := hl
  refine lv_iload_n X.x X.b dX4_image_0 rfl (lv_at hl 1 rfl) ?_
  refine lv_iconst (v := nI 0) X.x X.b dX4_image_1 (by decide) ?_
  refine lv_iconst (v := nI 1) X.x X.b dX4_image_2 (by decide) ?_
  refine f_scalli X hh (c_withinB l G x 0 1 (by decide) (by decide)) mf_yX4_isWithin ks_yX4_isWithin km_X4_38 rfl hl.1 [] rfl (Nat.le_of_ble_eq_true rfl) ⟨by decide, by decide⟩ ⟨Nat.zero_le _, Nat.zero_le _⟩ dX4_image_3 (fun r τ H locs hq hh => ?_)
  obtain ⟨rfl, hτ⟩ := hq
  rw [hτ] at hh
  clear hτ
  by_cases c_1 : inB x 0 1
  · rw [show (if inB x 0 1 then (1 : Int32) else 0) = 1 from if_pos c_1]
    obtain ⟨k, ha_k, hb_k, rfl⟩ := inB_of c_1 (by decide)
    refine lv_if_ne (tgt := 12) X.x X.b dX4_image_6 (by decide) (fun _ => ?_) (fun h9 => absurd h9 (by decide))
    refine lv_aload_n X.x X.b dX4_image_12 rfl (lv_at hl 0 rfl) ?_
    refine f_get X hh (v := .ref (gad G 82)) (sh_81 G _) (by decide) rfl in_X4 2 (by decide) kf_X4_23 rfl dX4_image_13 ?_
    refine lv_iload_n X.x X.b dX4_image_16 rfl (lv_at hl 1 rfl) ?_
    refine f_aald X hh (j := k) 3 (sh_82 G _) rfl rfl (by decide) rfl (by omega) (by decide) dX4_image_17 ?_
    refine lv_aload_n X.x X.b dX4_image_18 rfl (lv_at hl 0 rfl) ?_
    refine f_get X hh (v := .ref (gad G 69)) (sh_81 G _) (by decide) rfl in_X4 1 (by decide) kf_X4_19 rfl dX4_image_19 ?_
    refine f_callv X hh (c_bookCopy l G (a := 0) (b := 1 + k) (by decide) (by omega) (by omega) hR.2.1) mf_yX0_copyFrom ki_yX0_copyFrom kl_yX0_copyFrom km_X4_143 (sh_book G (b := 1 + k) (by omega) _) (by omega) rfl rfl hl.1 [] rfl (Nat.le_of_ble_eq_true rfl) ⟨by decide, by decide⟩ ⟨Nat.zero_le _, Nat.zero_le _⟩ dX4_image_22 (fun τ H locs hq hh => ?_)
    obtain ⟨hb1, hf1⟩ := hq
    have hk1 : τ 81 = σ 81 := hf1 _ (by omega) (by omega)
    refine lv_aload_n X.x X.b dX4_image_25 rfl (lv_at hl 0 rfl) ?_
    refine lv_dup X.x X.b dX4_image_26 rfl ?_
    refine f_geti X hh (x := nI (kbit a)) (sh_81 G _) (by decide) rfl in_X4 4 (by decide) kf_X4_34 rfl (by rw [hk1]; exact hR.2.2.2) dX4_image_27 ?_
    refine lv_iconst (v := nI 1) X.x X.b dX4_image_30 (by decide) ?_
    refine lv_iload_n X.x X.b dX4_image_31 rfl (lv_at hl 1 rfl) ?_
    refine lv_ishl X.x X.b dX4_image_32 ?_
    refine lv_ior X.x X.b dX4_image_33 ?_
    rw [kb_or (by omega)]
    refine f_put X hh (x := nI (kbit (ns_image (nI k) a))) (sh_81 G _) (by decide) rfl in_X4 4 (sh_81 G _) tyX4 tyX4_ok nmX4 (by decide) kf_X4_34 rfl (by decide +kernel) (Nat.le_of_ble_eq_true rfl) dX4_image_34 (fun H locs hh => ?_)
    refine lv_iconst (v := nI 1) X.x X.b dX4_image_37 (by decide) ?_
    exact f_iret X hh ⟨(if_pos c_1).symm, hR.img (by omega) hb1 hf1 (fun j9 h9 => mset_n h9) mset_ss, fun k9 h9 => by rw [mset_n (by omega)]; exact hf1 k9 (by omega) (by omega)⟩ dX4_image_38
  · rw [show (if inB x 0 1 then (1 : Int32) else 0) = 0 from if_neg c_1]
    refine lv_if_ne (tgt := 12) X.x X.b dX4_image_6 (by decide) (fun h9 => absurd (show _ by decide) h9) (fun _ => ?_)
    refine lv_bipush (v := (-2)) X.x X.b dX4_image_9 (by decide) ?_
    exact f_iret X hh ⟨(if_neg c_1).symm, by unfold ns_image; rw [if_neg c_1]; exact hR, FrC.rf⟩ dX4_image_11
set_option maxHeartbeats 4000000 in
set_option maxRecDepth 100000 in
theorem c4_restore (l : Launch) (G : GG) {σ : Mem} {a : AS} (x : Int32) (hA : AOK a) (hR : RC σ a) : Ci l G yX4_restore cX4_restore 2 (some .int) 4 90 [.ref (gad G 81), .int x] σ (fun r τ => r = sp_restore x a ∧ RC τ (ns_restore x a) ∧ FrC σ τ) := by
  refine Ci.of (own := RX4) (by decide) rfl (Nat.le_of_ble_eq_true rfl) (fun p e s m args below meth c ls H locs X hl hh => ?_)
  have hl : lv_has ls 2 [(0, .ref (gad G 81)), (1, .int x)] := hl
  refine lv_iload_n X.x X.b dX4_restore_0 rfl (lv_at hl 1 rfl) ?_
  refine lv_iconst (v := nI 0) X.x X.b dX4_restore_1 (by decide) ?_
  refine lv_iconst (v := nI 1) X.x X.b dX4_restore_2 (by decide) ?_
  refine f_scalli X hh (c_withinB l G x 0 1 (by decide) (by decide)) mf_yX4_isWithin ks_yX4_isWithin km_X4_38 rfl hl.1 [] rfl (Nat.le_of_ble_eq_true rfl) ⟨by decide, by decide⟩ ⟨Nat.zero_le _, Nat.zero_le _⟩ dX4_restore_3 (fun r τ H locs hq hh => ?_)
  obtain ⟨rfl, hτ⟩ := hq
  rw [hτ] at hh
  clear hτ
  by_cases c_1 : inB x 0 1
  · rw [show (if inB x 0 1 then (1 : Int32) else 0) = 1 from if_pos c_1]
    obtain ⟨k, ha_k, hb_k, rfl⟩ := inB_of c_1 (by decide)
    refine lv_if_ne (tgt := 12) X.x X.b dX4_restore_6 (by decide) (fun _ => ?_) (fun h9 => absurd h9 (by decide))
    refine lv_aload_n X.x X.b dX4_restore_12 rfl (lv_at hl 0 rfl) ?_
    refine f_geti X hh (x := nI (kbit a)) (sh_81 G _) (by decide) rfl in_X4 4 (by decide) kf_X4_34 rfl hR.2.2.2 dX4_restore_13 ?_
    refine lv_iload_n X.x X.b dX4_restore_16 rfl (lv_at hl 1 rfl) ?_
    refine lv_ishr X.x X.b dX4_restore_17 ?_
    refine lv_iconst (v := nI 1) X.x X.b dX4_restore_18 (by decide) ?_
    refine lv_iand X.x X.b dX4_restore_19 ?_
    rw [kb_shr (by omega)]
    have hk8 : (if aK a k = true then 1 else 0) ≤ 1 := by split <;> omega
    refine lv_if_ne (tgt := 26) X.x X.b dX4_restore_20 (by decide) (fun c_3 => ?_) (fun c_3 => ?_)
    · have c_3 : ¬ (if aK a k = true then 1 else 0) = 0 := fun q9 => c_3 ((nI_eq (a := (if aK a k = true then 1 else 0)) (b := 0) (by omega) (by omega)).mpr q9)
      refine lv_aload_n X.x X.b dX4_restore_26 rfl (lv_at hl 0 rfl) ?_
      refine f_get X hh (v := .ref (gad G 69)) (sh_81 G _) (by decide) rfl in_X4 1 (by decide) kf_X4_19 rfl dX4_restore_27 ?_
      refine lv_aload_n X.x X.b dX4_restore_30 rfl (lv_at hl 0 rfl) ?_
      refine f_get X hh (v := .ref (gad G 82)) (sh_81 G _) (by decide) rfl in_X4 2 (by decide) kf_X4_23 rfl dX4_restore_31 ?_
      refine lv_iload_n X.x X.b dX4_restore_34 rfl (lv_at hl 1 rfl) ?_
      refine f_aald X hh (j := k) 3 (sh_82 G _) rfl rfl (by decide) rfl (by omega) (by decide) dX4_restore_35 ?_
      have hk9 : aK a k = true := Classical.byContradiction (fun q9 => c_3 (if_neg q9))
      refine f_callv X hh (c_bookCopy l G (a := 1 + k) (b := 0) (by omega) (by decide) (by omega) (hR.2.2.1 k (by omega) hk9)) mf_yX0_copyFrom ki_yX0_copyFrom kl_yX0_copyFrom km_X4_143 (sh_69 G _) (by decide) rfl rfl hl.1 [] rfl (Nat.le_of_ble_eq_true rfl) ⟨by decide, by decide⟩ ⟨Nat.zero_le _, Nat.zero_le _⟩ dX4_restore_36 (fun τ H locs hq hh => ?_)
      obtain ⟨hb1, hf1⟩ := hq
      refine lv_iconst (v := nI 1) X.x X.b dX4_restore_39 (by decide) ?_
      exact f_iret X hh ⟨by unfold sp_restore; rw [if_pos c_1, ix_nI (by omega), if_pos hk9], by unfold ns_restore; rw [if_pos c_1, ix_nI (by omega), if_pos hk9]; exact hR.rst (by omega) hb1 hf1, fun k9 h9 => hf1 k9 (by omega) (by omega)⟩ dX4_restore_40
    · have c_3 : (if aK a k = true then 1 else 0) = 0 := (nI_eq (a := (if aK a k = true then 1 else 0)) (b := 0) (by omega) (by omega)).mp c_3
      refine lv_bipush (v := (-3)) X.x X.b dX4_restore_23 (by decide) ?_
      exact f_iret X hh ⟨by unfold sp_restore; rw [if_pos c_1, ix_nI (by omega), if_neg (fun q9 => by rw [if_pos q9] at c_3; cases c_3)], by unfold ns_restore; rw [if_pos c_1, ix_nI (by omega), if_neg (fun q9 => by rw [if_pos q9] at c_3; cases c_3)]; exact hR, FrC.rf⟩ dX4_restore_25
  · rw [show (if inB x 0 1 then (1 : Int32) else 0) = 0 from if_neg c_1]
    refine lv_if_ne (tgt := 12) X.x X.b dX4_restore_6 (by decide) (fun h9 => absurd (show _ by decide) h9) (fun _ => ?_)
    refine lv_bipush (v := (-2)) X.x X.b dX4_restore_9 (by decide) ?_
    exact f_iret X hh ⟨(if_neg c_1).symm, by unfold ns_restore; rw [if_neg c_1]; exact hR, FrC.rf⟩ dX4_restore_11
set_option maxHeartbeats 4000000 in
set_option maxRecDepth 100000 in
theorem c4_count (l : Launch) (G : GG) {σ : Mem} {a : AS} (x : Int32) (hA : AOK a) (hR : RC σ a) : Ci l G yX4_count cX4_count 2 (some .int) 2 44 [.ref (gad G 81), .int x] σ (fun r τ => r = sp_count x a ∧ RC τ a ∧ FrC σ τ) := by
  refine Ci.of (own := RX4) (by decide) rfl (Nat.le_of_ble_eq_true rfl) (fun p e s m args below meth c ls H locs X hl hh => ?_)
  have hl : lv_has ls 2 [(0, .ref (gad G 81)), (1, .int x)] := hl
  refine lv_iload_n X.x X.b dX4_count_0 rfl (lv_at hl 1 rfl) ?_
  refine lv_bipush (v := nI 10) X.x X.b dX4_count_1 (by decide) ?_
  refine lv_bipush (v := nI 13) X.x X.b dX4_count_3 (by decide) ?_
  refine f_scalli X hh (c_withinB l G x 10 13 (by decide) (by decide)) mf_yX4_isWithin ks_yX4_isWithin km_X4_38 rfl hl.1 [] rfl (Nat.le_of_ble_eq_true rfl) ⟨by decide, by decide⟩ ⟨Nat.zero_le _, Nat.zero_le _⟩ dX4_count_5 (fun r τ H locs hq hh => ?_)
  obtain ⟨rfl, hτ⟩ := hq
  rw [hτ] at hh
  clear hτ
  by_cases c_1 : inB x 10 13
  · rw [show (if inB x 10 13 then (1 : Int32) else 0) = 1 from if_pos c_1]
    obtain ⟨k, ha_k, hb_k, rfl⟩ := inB_of c_1 (by decide)
    refine lv_if_eq (tgt := 24) X.x X.b dX4_count_8 (by decide) (fun h9 => absurd h9 (by decide)) (fun _ => ?_)
    refine lv_aload_n X.x X.b dX4_count_11 rfl (lv_at hl 0 rfl) ?_
    refine f_get X hh (v := .ref (gad G 69)) (sh_81 G _) (by decide) rfl in_X4 1 (by decide) kf_X4_19 rfl dX4_count_12 ?_
    refine f_get X hh (v := .ref (gad G 72)) (sh_69 G _) (by decide) rfl in_X0 2 (by decide) kf_X4_83 rfl dX4_count_15 ?_
    refine lv_iload_n X.x X.b dX4_count_18 rfl (lv_at hl 1 rfl) ?_
    refine lv_bipush (v := nI 10) X.x X.b dX4_count_19 (by decide) ?_
    refine f_isub X (z := nI (k - 10)) (pk_sub (a := k) (b := 10) (by omega)) dX4_count_21 ?_
    refine f_ialdx X hh (j := k - 10) (y := nI (bU (aB a) (k - 10))) (sh_72 G _) (by decide) rfl (by omega) (by decide) (hR.2.1.2 _ (by omega)) dX4_count_22 ?_
    exact f_iret X hh ⟨by unfold sp_count; rw [if_pos c_1, ix_nI (by omega)], hR, FrC.rf⟩ dX4_count_23
  · rw [show (if inB x 10 13 then (1 : Int32) else 0) = 0 from if_neg c_1]
    refine lv_if_eq (tgt := 24) X.x X.b dX4_count_8 (by decide) (fun _ => ?_) (fun h9 => absurd (show _ by decide) h9)
    by_cases hx : inB x 0 4
    · obtain ⟨k, ha_k, hb_k, rfl⟩ := inB_of hx (by decide)
      rcases (show k = 0 ∨ k = 1 ∨ k = 2 ∨ k = 3 ∨ k = 4 by omega) with rfl | rfl | rfl | rfl | rfl
      · refine lv_iload_n X.x X.b dX4_count_24 rfl (lv_at hl 1 rfl) ?_
        refine lv_tableIn (off := 35) (tgt := 60) X.x X.b dX4_count_25 (by decide) (by decide) (by decide +kernel) (by decide) ?_
        refine lv_aload_n X.x X.b dX4_count_60 rfl (lv_at hl 0 rfl) ?_
        refine f_get X hh (v := .ref (gad G 69)) (sh_81 G _) (by decide) rfl in_X4 1 (by decide) kf_X4_19 rfl dX4_count_61 ?_
        refine f_calli X hh (c_syllablesInAll l G (b := 0) (by decide) hR.2.1) mf_yX0_syllablesInAll ki_yX0_syllablesInAll kl_yX0_syllablesInAll km_X4_147 (sh_69 G _) (by decide) rfl rfl hl.1 [] rfl (Nat.le_of_ble_eq_true rfl) ⟨by decide, by decide⟩ ⟨Nat.zero_le _, Nat.zero_le _⟩ dX4_count_64 (fun r τ H locs hq hh => ?_)
        obtain ⟨rfl, hτ⟩ := hq
        rw [hτ] at hh
        clear hτ
        exact f_iret X hh ⟨by unfold sp_count; rw [if_neg c_1, if_pos (by decide)], hR, FrC.rf⟩ dX4_count_67
      · refine lv_iload_n X.x X.b dX4_count_24 rfl (lv_at hl 1 rfl) ?_
        refine lv_tableIn (off := 43) (tgt := 68) X.x X.b dX4_count_25 (by decide) (by decide) (by decide +kernel) (by decide) ?_
        refine lv_aload_n X.x X.b dX4_count_68 rfl (lv_at hl 0 rfl) ?_
        refine f_get X hh (v := .ref (gad G 69)) (sh_81 G _) (by decide) rfl in_X4 1 (by decide) kf_X4_19 rfl dX4_count_69 ?_
        refine f_calli X hh (c_notesInAll l G (b := 0) (by decide) hR.2.1) mf_yX0_notesInAll ki_yX0_notesInAll kl_yX0_notesInAll km_X4_150 (sh_69 G _) (by decide) rfl rfl hl.1 [] rfl (Nat.le_of_ble_eq_true rfl) ⟨by decide, by decide⟩ ⟨Nat.zero_le _, Nat.zero_le _⟩ dX4_count_72 (fun r τ H locs hq hh => ?_)
        obtain ⟨rfl, hτ⟩ := hq
        rw [hτ] at hh
        clear hτ
        exact f_iret X hh ⟨by unfold sp_count; rw [if_neg c_1, if_neg (by decide), if_pos (by decide)], hR, FrC.rf⟩ dX4_count_75
      · refine lv_iload_n X.x X.b dX4_count_24 rfl (lv_at hl 1 rfl) ?_
        refine lv_tableIn (off := 51) (tgt := 76) X.x X.b dX4_count_25 (by decide) (by decide) (by decide +kernel) (by decide) ?_
        refine lv_aload_n X.x X.b dX4_count_76 rfl (lv_at hl 0 rfl) ?_
        refine f_get X hh (v := .ref (gad G 83)) (sh_81 G _) (by decide) rfl in_X4 0 (by decide) kf_X4_12 rfl dX4_count_77 ?_
        refine f_geti X hh (x := nI (apn a)) (sh_83 G _) (by decide) rfl in_X2 1 (by decide) kf_X4_42 rfl hR.1.1 dX4_count_80 ?_
        exact f_iret X hh ⟨by unfold sp_count; rw [if_neg c_1, if_neg (by decide), if_neg (by decide), if_pos (by decide)], hR, FrC.rf⟩ dX4_count_83
      · refine lv_iload_n X.x X.b dX4_count_24 rfl (lv_at hl 1 rfl) ?_
        refine lv_tableIn (off := 59) (tgt := 84) X.x X.b dX4_count_25 (by decide) (by decide) (by decide +kernel) (by decide) ?_
        refine lv_aload_n X.x X.b dX4_count_84 rfl (lv_at hl 0 rfl) ?_
        refine f_get X hh (v := .ref (gad G 69)) (sh_81 G _) (by decide) rfl in_X4 1 (by decide) kf_X4_19 rfl dX4_count_85 ?_
        refine f_calli X hh (c_lengthsInAll l G (b := 0) (by decide) hR.2.1) mf_yX0_lengthsInAll ki_yX0_lengthsInAll kl_yX0_lengthsInAll km_X4_153 (sh_69 G _) (by decide) rfl rfl hl.1 [] rfl (Nat.le_of_ble_eq_true rfl) ⟨by decide, by decide⟩ ⟨Nat.zero_le _, Nat.zero_le _⟩ dX4_count_88 (fun r τ H locs hq hh => ?_)
        obtain ⟨rfl, hτ⟩ := hq
        rw [hτ] at hh
        clear hτ
        exact f_iret X hh ⟨by unfold sp_count; rw [if_neg c_1, if_neg (by decide), if_neg (by decide), if_neg (by decide), if_pos (by decide)], hR, FrC.rf⟩ dX4_count_91
      · refine lv_iload_n X.x X.b dX4_count_24 rfl (lv_at hl 1 rfl) ?_
        refine lv_tableIn (off := 67) (tgt := 92) X.x X.b dX4_count_25 (by decide) (by decide) (by decide +kernel) (by decide) ?_
        refine lv_aload_n X.x X.b dX4_count_92 rfl (lv_at hl 0 rfl) ?_
        refine f_geti X hh (x := nI (kbit a)) (sh_81 G _) (by decide) rfl in_X4 4 (by decide) kf_X4_34 rfl hR.2.2.2 dX4_count_93 ?_
        exact f_iret X hh ⟨by unfold sp_count; rw [if_neg c_1, if_neg (by decide), if_neg (by decide), if_neg (by decide), if_neg (by decide), if_pos (by decide)], hR, FrC.rf⟩ dX4_count_96
    · refine lv_iload_n X.x X.b dX4_count_24 rfl (lv_at hl 1 rfl) ?_
      refine lv_tableOut (tgt := 97) X.x X.b dX4_count_25 (by omega) (by decide) ?_
      refine lv_bipush (v := (-2)) X.x X.b dX4_count_97 (by decide) ?_
      exact f_iret X hh ⟨by unfold sp_count; rw [if_neg c_1, if_neg (fun q9 => hx (by rw [q9]; decide)), if_neg (fun q9 => hx (by rw [q9]; decide)), if_neg (fun q9 => hx (by rw [q9]; decide)), if_neg (fun q9 => hx (by rw [q9]; decide)), if_neg (fun q9 => hx (by rw [q9]; decide))], hR, FrC.rf⟩ dX4_count_99
end
