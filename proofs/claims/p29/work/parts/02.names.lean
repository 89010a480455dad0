-- ===== PART A: goes FIRST, ahead of the names: the tables' words, and 'selects' of the private methods out of them =====
/-- a private method of a class that the tables say can be made, by its rows of tables_1 -/
def lw_okq (q : MethodName × Nat) : Prop := (q.1.cls ≠ "java/lang/invoke/MethodHandle" ∧ q.1.cls ≠ "java/lang/invoke/VarHandle") ∧ Cond.instantiable q.1.cls q.2 ∈ tables_1 ∧ Cond.privateMethod q.1 ∈ tables_1 ∧ Cond.instanceMethod q.1 ∈ tables_1
theorem lw_p0 : lw_okq (⟨"SpeechCleaner", "currentCuts", "()LSpeechCleaner$CutList;"⟩, 7) := ⟨⟨by decide +kernel, by decide +kernel⟩, List.mem_of_getElem? (i := 10) (by decide +kernel), List.mem_of_getElem? (i := 276) (by decide +kernel), List.mem_of_getElem? (i := 277) (by decide +kernel)⟩
theorem lw_p1 : lw_okq (⟨"SpeechCleaner", "currentResult", "()LSpeechCleaner$Result;"⟩, 7) := ⟨⟨by decide +kernel, by decide +kernel⟩, List.mem_of_getElem? (i := 10) (by decide +kernel), List.mem_of_getElem? (i := 362) (by decide +kernel), List.mem_of_getElem? (i := 363) (by decide +kernel)⟩
theorem lw_p2 : lw_okq (⟨"SpeechCleaner", "withMarks", "(JLSpeechCleaner$CutList;)J"⟩, 7) := ⟨⟨by decide +kernel, by decide +kernel⟩, List.mem_of_getElem? (i := 10) (by decide +kernel), List.mem_of_getElem? (i := 435) (by decide +kernel), List.mem_of_getElem? (i := 436) (by decide +kernel)⟩
theorem lw_p3 : lw_okq (⟨"SpeechCleaner", "withCuts", "(JLSpeechCleaner$CutList;)J"⟩, 7) := ⟨⟨by decide +kernel, by decide +kernel⟩, List.mem_of_getElem? (i := 10) (by decide +kernel), List.mem_of_getElem? (i := 439) (by decide +kernel), List.mem_of_getElem? (i := 440) (by decide +kernel)⟩
theorem lw_p4 : lw_okq (⟨"SpeechCleaner", "withResult", "(JLSpeechCleaner$Result;)J"⟩, 7) := ⟨⟨by decide +kernel, by decide +kernel⟩, List.mem_of_getElem? (i := 10) (by decide +kernel), List.mem_of_getElem? (i := 447) (by decide +kernel), List.mem_of_getElem? (i := 448) (by decide +kernel)⟩
def lw_privs_1 : List (MethodName × Nat) := [(⟨"SpeechCleaner", "currentCuts", "()LSpeechCleaner$CutList;"⟩, 7), (⟨"SpeechCleaner", "currentResult", "()LSpeechCleaner$Result;"⟩, 7), (⟨"SpeechCleaner", "withMarks", "(JLSpeechCleaner$CutList;)J"⟩, 7), (⟨"SpeechCleaner", "withCuts", "(JLSpeechCleaner$CutList;)J"⟩, 7), (⟨"SpeechCleaner", "withResult", "(JLSpeechCleaner$Result;)J"⟩, 7)]
theorem lw_r1 : ∀ q ∈ lw_privs_1, lw_okq q := List.forall_mem_cons.mpr ⟨lw_p0, List.forall_mem_cons.mpr ⟨lw_p1, List.forall_mem_cons.mpr ⟨lw_p2, List.forall_mem_cons.mpr ⟨lw_p3, List.forall_mem_cons.mpr ⟨lw_p4, fun _ h => absurd h List.not_mem_nil⟩⟩⟩⟩⟩
def lw_privs : List (MethodName × Nat) := lw_privs_1
def lw_tbl : List Cond := k2_sels lw_privs ++ tables_1
theorem lw_privs_ok : ∀ q ∈ lw_privs, lw_okq q := lw_r1
/-- the streams that the claim lets the run draw from -/
abbrev lw_cs : List Choice := [Jvm.Choice.named "NaN.bits"]
theorem lw_bits : nanBits ∈ lw_cs := by first | decide | exact List.mem_cons_self | simp [lw_cs, nanBits]

def RX0 : String := "SpeechCleaner$CutList"
def TX0 : u_T := fun k => match k with
  | 0 => ("SpeechCleaner$CutList", "begins", "[I", true)
  | 1 => ("SpeechCleaner$CutList", "ends", "[I", true)
  | 2 => ("SpeechCleaner$CutList", "pauses", "[I", true)
  | 3 => ("SpeechCleaner$CutList", "rough", "[Z", true)
  | 4 => ("SpeechCleaner$CutList", "markNumbers", "[I", true)
  | _ => ("SpeechCleaner$CutList", "count", "I", false)
def tyX0 : Nat → FieldType := fun k => match k with
  | 0 => .array .int
  | 1 => .array .int
  | 2 => .array .int
  | 3 => .array .boolean
  | 4 => .array .int
  | _ => .int
abbrev wsX00 : List Cond := u_ws RX0 TX0 6
theorem nmX0 : ∀ a, a < 6 → ∀ b, b < 6 → a ≠ b → (TX0 a).2.1 ≠ (TX0 b).2.1 := by decide +kernel
theorem tyX0_ok : ∀ k, k < 6 → parseFieldDescriptor (TX0 k).2.2.1 = some (tyX0 k) := by decide +kernel
abbrev cX0_init : ByteArray := prog_2_method_1_code
def yX0_init : MethodName := ⟨RX0, "<init>", "()V"⟩
abbrev cX0_find : ByteArray := prog_2_method_2_code
def yX0_find : MethodName := ⟨RX0, "find", "(LSpeechCleaner$Recording;II)V"⟩
abbrev cX0_addFillerCut : ByteArray := prog_2_method_3_code
def yX0_addFillerCut : MethodName := ⟨RX0, "addFillerCut", "(LSpeechCleaner$Recording;II)V"⟩
abbrev cX0_addBreathCut : ByteArray := prog_2_method_4_code
def yX0_addBreathCut : MethodName := ⟨RX0, "addBreathCut", "(LSpeechCleaner$Recording;I)V"⟩
abbrev cX0_addCut : ByteArray := prog_2_method_5_code
def yX0_addCut : MethodName := ⟨RX0, "addCut", "(IIIZI)V"⟩
abbrev cX0_endOfLastCut : ByteArray := prog_2_method_6_code
def yX0_endOfLastCut : MethodName := ⟨RX0, "endOfLastCut", "()I"⟩
abbrev cX0_cutOfMark : ByteArray := prog_2_method_7_code
def yX0_cutOfMark : MethodName := ⟨RX0, "cutOfMark", "(I)I"⟩
abbrev cX0_numberOfCut : ByteArray := prog_2_method_8_code
def yX0_numberOfCut : MethodName := ⟨RX0, "numberOfCut", "(II)I"⟩
abbrev cX0_cutFrames : ByteArray := prog_2_method_9_code
def yX0_cutFrames : MethodName := ⟨RX0, "cutFrames", "()I"⟩
abbrev cX0_pauseFrames : ByteArray := prog_2_method_10_code
def yX0_pauseFrames : MethodName := ⟨RX0, "pauseFrames", "()I"⟩
abbrev cX0_roughCuts : ByteArray := prog_2_method_11_code
def yX0_roughCuts : MethodName := ⟨RX0, "roughCuts", "()I"⟩
def RX1 : String := "SpeechCleaner$History"
def TX1 : u_T := fun k => match k with
  | 0 => ("SpeechCleaner$History", "states", "[LSpeechCleaner$Recording;", true)
  | _ => ("SpeechCleaner$History", "count", "I", false)
def tyX1 : Nat → FieldType := fun k => match k with
  | 0 => .array (.object "SpeechCleaner$Recording")
  | _ => .int
abbrev wsX10 : List Cond := u_ws RX1 TX1 2
theorem nmX1 : ∀ a, a < 2 → ∀ b, b < 2 → a ≠ b → (TX1 a).2.1 ≠ (TX1 b).2.1 := by decide +kernel
theorem tyX1_ok : ∀ k, k < 2 → parseFieldDescriptor (TX1 k).2.2.1 = some (tyX1 k) := by decide +kernel
abbrev cX1_init : ByteArray := prog_3_method_1_code
def yX1_init : MethodName := ⟨RX1, "<init>", "()V"⟩
abbrev cX1_keep : ByteArray := prog_3_method_2_code
def yX1_keep : MethodName := ⟨RX1, "keep", "(LSpeechCleaner$Recording;)V"⟩
abbrev cX1_dropOldest : ByteArray := prog_3_method_3_code
def yX1_dropOldest : MethodName := ⟨RX1, "dropOldest", "()V"⟩
abbrev cX1_restoreLatest : ByteArray := prog_3_method_4_code
def yX1_restoreLatest : MethodName := ⟨RX1, "restoreLatest", "(LSpeechCleaner$Recording;)V"⟩
def RX2 : String := "SpeechCleaner$Recording"
def TX2 : u_T := fun k => match k with
  | 0 => ("SpeechCleaner$Recording", "levels", "[I", true)
  | 1 => ("SpeechCleaner$Recording", "frames", "I", false)
  | 2 => ("SpeechCleaner$Recording", "kinds", "[I", true)
  | 3 => ("SpeechCleaner$Recording", "firsts", "[I", true)
  | 4 => ("SpeechCleaner$Recording", "ends", "[I", true)
  | 5 => ("SpeechCleaner$Recording", "doubts", "[I", true)
  | 6 => ("SpeechCleaner$Recording", "held", "[Z", true)
  | 7 => ("SpeechCleaner$Recording", "marks", "I", false)
  | _ => ("SpeechCleaner$Recording", "settings", "[I", true)
def tyX2 : Nat → FieldType := fun k => match k with
  | 0 => .array .int
  | 1 => .int
  | 2 => .array .int
  | 3 => .array .int
  | 4 => .array .int
  | 5 => .array .int
  | 6 => .array .boolean
  | 7 => .int
  | _ => .array .int
abbrev wsX20 : List Cond := u_ws RX2 TX2 9
theorem nmX2 : ∀ a, a < 9 → ∀ b, b < 9 → a ≠ b → (TX2 a).2.1 ≠ (TX2 b).2.1 := by decide +kernel
theorem tyX2_ok : ∀ k, k < 9 → parseFieldDescriptor (TX2 k).2.2.1 = some (tyX2 k) := by decide +kernel
abbrev cX2_init : ByteArray := prog_4_method_1_code
def yX2_init : MethodName := ⟨RX2, "<init>", "()V"⟩
abbrev cX2_copyAll : ByteArray := prog_4_method_2_code
def yX2_copyAll : MethodName := ⟨RX2, "copyAll", "(LSpeechCleaner$Recording;)V"⟩
abbrev cX2_copySound : ByteArray := prog_4_method_3_code
def yX2_copySound : MethodName := ⟨RX2, "copySound", "(LSpeechCleaner$Recording;)V"⟩
abbrev cX2_addFrame : ByteArray := prog_4_method_5_code
def yX2_addFrame : MethodName := ⟨RX2, "addFrame", "(I)V"⟩
abbrev cX2_hasFrame : ByteArray := prog_4_method_6_code
def yX2_hasFrame : MethodName := ⟨RX2, "hasFrame", "(I)Z"⟩
abbrev cX2_levelAt : ByteArray := prog_4_method_7_code
def yX2_levelAt : MethodName := ⟨RX2, "levelAt", "(I)I"⟩
abbrev cX2_hasMark : ByteArray := prog_4_method_8_code
def yX2_hasMark : MethodName := ⟨RX2, "hasMark", "(I)Z"⟩
abbrev cX2_overlaps : ByteArray := prog_4_method_9_code
def yX2_overlaps : MethodName := ⟨RX2, "overlaps", "(II)Z"⟩
abbrev cX2_addMark : ByteArray := prog_4_method_10_code
def yX2_addMark : MethodName := ⟨RX2, "addMark", "(IIII)I"⟩
abbrev cX2_removeMark : ByteArray := prog_4_method_11_code
def yX2_removeMark : MethodName := ⟨RX2, "removeMark", "(I)V"⟩
abbrev cX2_copyMark : ByteArray := prog_4_method_12_code
def yX2_copyMark : MethodName := ⟨RX2, "copyMark", "(LSpeechCleaner$Recording;II)V"⟩
abbrev cX2_numberOfMark : ByteArray := prog_4_method_13_code
def yX2_numberOfMark : MethodName := ⟨RX2, "numberOfMark", "(II)I"⟩
abbrev cX2_hasFillerOfDoubt : ByteArray := prog_4_method_14_code
def yX2_hasFillerOfDoubt : MethodName := ⟨RX2, "hasFillerOfDoubt", "(I)Z"⟩
abbrev cX2_endOfMarkBefore : ByteArray := prog_4_method_15_code
def yX2_endOfMarkBefore : MethodName := ⟨RX2, "endOfMarkBefore", "(I)I"⟩
abbrev cX2_firstOfMarkAfter : ByteArray := prog_4_method_16_code
def yX2_firstOfMarkAfter : MethodName := ⟨RX2, "firstOfMarkAfter", "(I)I"⟩
abbrev cX2_nearestQuietSeam : ByteArray := prog_4_method_17_code
def yX2_nearestQuietSeam : MethodName := ⟨RX2, "nearestQuietSeam", "(IIII)I"⟩
abbrev cX2_isQuiet : ByteArray := prog_4_method_18_code
def yX2_isQuiet : MethodName := ⟨RX2, "isQuiet", "(I)Z"⟩
def RX3 : String := "SpeechCleaner$Result"
def TX3 : u_T := fun k => match k with
  | 0 => ("SpeechCleaner$Result", "sources", "[I", true)
  | 1 => ("SpeechCleaner$Result", "levels", "[I", true)
  | 2 => ("SpeechCleaner$Result", "count", "I", false)
  | 3 => ("SpeechCleaner$Result", "room", "[I", true)
  | 4 => ("SpeechCleaner$Result", "roomFrames", "I", false)
  | 5 => ("SpeechCleaner$Result", "roomPlace", "I", false)
  | _ => ("SpeechCleaner$Result", "noisy", "[Z", true)
def tyX3 : Nat → FieldType := fun k => match k with
  | 0 => .array .int
  | 1 => .array .int
  | 2 => .int
  | 3 => .array .int
  | 4 => .int
  | 5 => .int
  | _ => .array .boolean
abbrev wsX30 : List Cond := u_ws RX3 TX3 7
theorem nmX3 : ∀ a, a < 7 → ∀ b, b < 7 → a ≠ b → (TX3 a).2.1 ≠ (TX3 b).2.1 := by decide +kernel
theorem tyX3_ok : ∀ k, k < 7 → parseFieldDescriptor (TX3 k).2.2.1 = some (tyX3 k) := by decide +kernel
abbrev cX3_init : ByteArray := prog_5_method_1_code
def yX3_init : MethodName := ⟨RX3, "<init>", "()V"⟩
abbrev cX3_build : ByteArray := prog_5_method_2_code
def yX3_build : MethodName := ⟨RX3, "build", "(LSpeechCleaner$Recording;LSpeechCleaner$CutList;)V"⟩
abbrev cX3_gatherRoomAndNoise : ByteArray := prog_5_method_3_code
def yX3_gatherRoomAndNoise : MethodName := ⟨RX3, "gatherRoomAndNoise", "(LSpeechCleaner$Recording;)V"⟩
abbrev cX3_gatherFrame : ByteArray := prog_5_method_4_code
def yX3_gatherFrame : MethodName := ⟨RX3, "gatherFrame", "(II)V"⟩
abbrev cX3_addRecorded : ByteArray := prog_5_method_5_code
def yX3_addRecorded : MethodName := ⟨RX3, "addRecorded", "(LSpeechCleaner$Recording;II)V"⟩
abbrev cX3_addPause : ByteArray := prog_5_method_6_code
def yX3_addPause : MethodName := ⟨RX3, "addPause", "(LSpeechCleaner$Recording;I)V"⟩
abbrev cX3_nextRoomFrame : ByteArray := prog_5_method_7_code
def yX3_nextRoomFrame : MethodName := ⟨RX3, "nextRoomFrame", "()I"⟩
abbrev cX3_add : ByteArray := prog_5_method_8_code
def yX3_add : MethodName := ⟨RX3, "add", "(II)V"⟩
abbrev cX3_placeOfSource : ByteArray := prog_5_method_9_code
def yX3_placeOfSource : MethodName := ⟨RX3, "placeOfSource", "(I)I"⟩
abbrev cX3_stepsGreaterThan : ByteArray := prog_5_method_10_code
def yX3_stepsGreaterThan : MethodName := ⟨RX3, "stepsGreaterThan", "(I)I"⟩
abbrev cX3_sumOfLevels : ByteArray := prog_5_method_11_code
def yX3_sumOfLevels : MethodName := ⟨RX3, "sumOfLevels", "()I"⟩
abbrev cX3_longestStretchUpTo : ByteArray := prog_5_method_12_code
def yX3_longestStretchUpTo : MethodName := ⟨RX3, "longestStretchUpTo", "(I)I"⟩
def RX4 : String := "SpeechCleaner$TextReader"
def TX4 : u_T := fun k => match k with
  | 0 => ("SpeechCleaner$TextReader", "draft", "LSpeechCleaner$Recording;", true)
  | 1 => ("SpeechCleaner$TextReader", "stage", "I", false)
  | 2 => ("SpeechCleaner$TextReader", "kind", "I", false)
  | 3 => ("SpeechCleaner$TextReader", "first", "I", false)
  | 4 => ("SpeechCleaner$TextReader", "doubt", "I", false)
  | 5 => ("SpeechCleaner$TextReader", "doubtDigits", "I", false)
  | _ => ("SpeechCleaner$TextReader", "wrongDoubtPlace", "I", false)
def tyX4 : Nat → FieldType := fun k => match k with
  | 0 => .object "SpeechCleaner$Recording"
  | 1 => .int
  | 2 => .int
  | 3 => .int
  | 4 => .int
  | 5 => .int
  | _ => .int
abbrev wsX40 : List Cond := u_ws RX4 TX4 7
theorem nmX4 : ∀ a, a < 7 → ∀ b, b < 7 → a ≠ b → (TX4 a).2.1 ≠ (TX4 b).2.1 := by decide +kernel
theorem tyX4_ok : ∀ k, k < 7 → parseFieldDescriptor (TX4 k).2.2.1 = some (tyX4 k) := by decide +kernel
abbrev cX4_init : ByteArray := prog_6_method_1_code
def yX4_init : MethodName := ⟨RX4, "<init>", "()V"⟩
def RX5 : String := "SpeechCleaner"
def TX5 : u_T := fun k => match k with
  | 0 => ("SpeechCleaner", "buffer", "[I", true)
  | 1 => ("SpeechCleaner", "characters", "I", false)
  | 2 => ("SpeechCleaner", "recording", "LSpeechCleaner$Recording;", true)
  | 3 => ("SpeechCleaner", "history", "LSpeechCleaner$History;", true)
  | 4 => ("SpeechCleaner", "reader", "LSpeechCleaner$TextReader;", true)
  | 5 => ("SpeechCleaner", "cutList", "LSpeechCleaner$CutList;", true)
  | _ => ("SpeechCleaner", "result", "LSpeechCleaner$Result;", true)
def tyX5 : Nat → FieldType := fun k => match k with
  | 0 => .array .int
  | 1 => .int
  | 2 => .object "SpeechCleaner$Recording"
  | 3 => .object "SpeechCleaner$History"
  | 4 => .object "SpeechCleaner$TextReader"
  | 5 => .object "SpeechCleaner$CutList"
  | _ => .object "SpeechCleaner$Result"
abbrev wsX50 : List Cond := u_ws RX5 TX5 7
theorem nmX5 : ∀ a, a < 7 → ∀ b, b < 7 → a ≠ b → (TX5 a).2.1 ≠ (TX5 b).2.1 := by decide +kernel
theorem tyX5_ok : ∀ k, k < 7 → parseFieldDescriptor (TX5 k).2.2.1 = some (tyX5 k) := by decide +kernel
abbrev cX5_init : ByteArray := prog_1_method_1_code
def yX5_init : MethodName := ⟨RX5, "<init>", "()V"⟩
abbrev cX5_type : ByteArray := prog_1_method_2_code
def yX5_type : MethodName := ⟨RX5, "type", "(I)I"⟩
abbrev cX5_append : ByteArray := prog_1_method_5_code
def yX5_append : MethodName := ⟨RX5, "append", "(II)I"⟩
abbrev cX5_babble : ByteArray := prog_1_method_6_code
def yX5_babble : MethodName := ⟨RX5, "babble", "(II)I"⟩
abbrev cX5_mark : ByteArray := prog_1_method_7_code
def yX5_mark : MethodName := ⟨RX5, "mark", "(IIII)I"⟩
abbrev cX5_unmark : ByteArray := prog_1_method_8_code
def yX5_unmark : MethodName := ⟨RX5, "unmark", "(I)I"⟩
abbrev cX5_hold : ByteArray := prog_1_method_9_code
def yX5_hold : MethodName := ⟨RX5, "hold", "(IZ)I"⟩
abbrev cX5_set : ByteArray := prog_1_method_10_code
def yX5_set : MethodName := ⟨RX5, "set", "(II)I"⟩
abbrev cX5_setting : ByteArray := prog_1_method_11_code
def yX5_setting : MethodName := ⟨RX5, "setting", "(I)I"⟩
abbrev cX5_about : ByteArray := prog_1_method_12_code
def yX5_about : MethodName := ⟨RX5, "about", "(II)I"⟩
abbrev cX5_level : ByteArray := prog_1_method_13_code
def yX5_level : MethodName := ⟨RX5, "level", "(I)I"⟩
abbrev cX5_cuts : ByteArray := prog_1_method_14_code
def yX5_cuts : MethodName := ⟨RX5, "cuts", "()I"⟩
abbrev cX5_cut : ByteArray := prog_1_method_15_code
def yX5_cut : MethodName := ⟨RX5, "cut", "(II)I"⟩
abbrev cX5_sum : ByteArray := prog_1_method_16_code
def yX5_sum : MethodName := ⟨RX5, "sum", "(I)I"⟩
abbrev cX5_bestWindow : ByteArray := prog_1_method_17_code
def yX5_bestWindow : MethodName := ⟨RX5, "bestWindow", "()I"⟩
abbrev cX5_greatestDoubt : ByteArray := prog_1_method_18_code
def yX5_greatestDoubt : MethodName := ⟨RX5, "greatestDoubt", "(I)I"⟩
abbrev cX5_length : ByteArray := prog_1_method_19_code
def yX5_length : MethodName := ⟨RX5, "length", "()I"⟩
abbrev cX5_heard : ByteArray := prog_1_method_20_code
def yX5_heard : MethodName := ⟨RX5, "heard", "(II)I"⟩
abbrev cX5_where : ByteArray := prog_1_method_21_code
def yX5_where : MethodName := ⟨RX5, "where", "(I)I"⟩
abbrev cX5_clicks : ByteArray := prog_1_method_22_code
def yX5_clicks : MethodName := ⟨RX5, "clicks", "(I)I"⟩
abbrev cX5_loudness : ByteArray := prog_1_method_23_code
def yX5_loudness : MethodName := ⟨RX5, "loudness", "()F"⟩
abbrev cX5_share : ByteArray := prog_1_method_24_code
def yX5_share : MethodName := ⟨RX5, "share", "()F"⟩
abbrev cX5_silence : ByteArray := prog_1_method_25_code
def yX5_silence : MethodName := ⟨RX5, "silence", "()I"⟩
abbrev cX5_undo : ByteArray := prog_1_method_26_code
def yX5_undo : MethodName := ⟨RX5, "undo", "()I"⟩
abbrev cX5_fingerprint : ByteArray := prog_1_method_27_code
def yX5_fingerprint : MethodName := ⟨RX5, "fingerprint", "()J"⟩
abbrev cX5_withMarks : ByteArray := prog_1_method_28_code
def yX5_withMarks : MethodName := ⟨RX5, "withMarks", "(JLSpeechCleaner$CutList;)J"⟩
abbrev cX5_withCuts : ByteArray := prog_1_method_29_code
def yX5_withCuts : MethodName := ⟨RX5, "withCuts", "(JLSpeechCleaner$CutList;)J"⟩
abbrev cX5_withResult : ByteArray := prog_1_method_30_code
def yX5_withResult : MethodName := ⟨RX5, "withResult", "(JLSpeechCleaner$Result;)J"⟩
abbrev cX5_currentCuts : ByteArray := prog_1_method_31_code
def yX5_currentCuts : MethodName := ⟨RX5, "currentCuts", "()LSpeechCleaner$CutList;"⟩
abbrev cX5_currentResult : ByteArray := prog_1_method_32_code
def yX5_currentResult : MethodName := ⟨RX5, "currentResult", "()LSpeechCleaner$Result;"⟩
def RX6 : String := "SpeechCleanerModel"
def TX6 : u_T := fun k => match k with
  | _ => ("", "", "", false)
def tyX6 : Nat → FieldType := fun k => match k with
  | _ => .int
abbrev wsX60 : List Cond := u_ws RX6 TX6 0
theorem nmX6 : ∀ a, a < 0 → ∀ b, b < 0 → a ≠ b → (TX6 a).2.1 ≠ (TX6 b).2.1 := by decide +kernel
theorem tyX6_ok : ∀ k, k < 0 → parseFieldDescriptor (TX6 k).2.2.1 = some (tyX6 k) := by decide +kernel
def RJ9 : String := "java/lang/Math"
def TJ9 : u_T := fun k => match k with
  | _ => ("", "", "", false)
def tyJ9 : Nat → FieldType := fun k => match k with
  | _ => .int
abbrev wsJ90 : List Cond := u_ws RJ9 TJ9 0
theorem nmJ9 : ∀ a, a < 0 → ∀ b, b < 0 → a ≠ b → (TJ9 a).2.1 ≠ (TJ9 b).2.1 := by decide +kernel
theorem tyJ9_ok : ∀ k, k < 0 → parseFieldDescriptor (TJ9 k).2.2.1 = some (tyJ9 k) := by decide +kernel
abbrev cJ9_abs_0f7a4 : ByteArray := prog_9_method_59_code
def yJ9_abs_0f7a4 : MethodName := ⟨RJ9, "abs", "(I)I"⟩
abbrev cJ9_max_7cf53 : ByteArray := prog_9_method_65_code
def yJ9_max_7cf53 : MethodName := ⟨RJ9, "max", "(II)I"⟩
abbrev cJ9_min_7cf53 : ByteArray := prog_9_method_69_code
def yJ9_min_7cf53 : MethodName := ⟨RJ9, "min", "(II)I"⟩
def RJ10 : String := "java/lang/System"
def TJ10 : u_T := fun k => match k with
  | _ => ("", "", "", false)
def tyJ10 : Nat → FieldType := fun k => match k with
  | _ => .int
abbrev wsJ100 : List Cond := u_ws RJ10 TJ10 0
theorem nmJ10 : ∀ a, a < 0 → ∀ b, b < 0 → a ≠ b → (TJ10 a).2.1 ≠ (TJ10 b).2.1 := by decide +kernel
theorem tyJ10_ok : ∀ k, k < 0 → parseFieldDescriptor (TJ10 k).2.2.1 = some (tyJ10 k) := by decide +kernel
def RL : String := "SpeechCleanerLaw"
abbrev cL_cell : ByteArray := method_2_code
def yL_cell : MethodName := ⟨RL, "cell", "([II)I"⟩
abbrev cL_up : ByteArray := method_3_code
def yL_up : MethodName := ⟨RL, "up", "(II)I"⟩
abbrev cL_fails : ByteArray := method_4_code
def yL_fails : MethodName := ⟨RL, "fails", "(LSpeechCleaner;)Z"⟩
abbrev cL_cuts : ByteArray := method_5_code
def yL_cuts : MethodName := ⟨RL, "cuts", "(LSpeechCleaner;)Z"⟩
abbrev cL_result : ByteArray := method_6_code
def yL_result : MethodName := ⟨RL, "result", "(LSpeechCleaner;)Z"⟩
abbrev cL_asks : ByteArray := method_7_code
def yL_asks : MethodName := ⟨RL, "asks", "(LSpeechCleaner;I)Z"⟩
abbrev cL_law : ByteArray := code
def yL_law : MethodName := ⟨RL, "law", "([I)Z"⟩
/-- the words that every contract here stands on: the tables' own, and 'selects' of the private methods -/
def z_ws : List Cond := lw_tbl.filter goodWord
theorem z_ws_t (i : Nat) {w : Cond} (h : tables_1[i]? = some w) (hg : goodWord w = true) : w ∈ z_ws := List.mem_filter.mpr ⟨List.mem_append_right _ (List.mem_of_getElem? h), hg⟩
theorem z_ws_p (i : Nat) {w : Cond} (h : (k2_sels lw_privs)[i]? = some w) (hg : goodWord w = true) : w ∈ z_ws := List.mem_filter.mpr ⟨List.mem_append_left _ (List.mem_of_getElem? h), hg⟩
theorem z_ws_good {ws : List Cond} (h : ∀ w ∈ ws, w ∈ z_ws) {y : MethodName} {c : ByteArray} {n : Nat} {r : Option FieldType} : GoodIn (.code y c n r :: z_ws) ws := fun w hw => ⟨List.mem_cons_of_mem _ (h w hw), good_of_word (List.mem_filter.mp (h w hw)).2⟩
theorem z_ws_in {ws : List Cond} (h : ∀ w ∈ ws, w ∈ lw_tbl) (hg : ws.all goodWord = true) : ∀ w ∈ ws, w ∈ z_ws := fun w hw => List.mem_filter.mpr ⟨h w hw, List.all_eq_true.mp hg w hw⟩

theorem z_inX0 : ∀ w ∈ u_ws RX0 TX0 6, w ∈ z_ws := z_ws_in (by decide +kernel) (by decide +kernel)
theorem z_inX1 : ∀ w ∈ u_ws RX1 TX1 2, w ∈ z_ws := z_ws_in (by decide +kernel) (by decide +kernel)
theorem z_inX2 : ∀ w ∈ u_ws RX2 TX2 9, w ∈ z_ws := z_ws_in (by decide +kernel) (by decide +kernel)
theorem z_inX3 : ∀ w ∈ u_ws RX3 TX3 7, w ∈ z_ws := z_ws_in (by decide +kernel) (by decide +kernel)
theorem z_inX4 : ∀ w ∈ u_ws RX4 TX4 7, w ∈ z_ws := z_ws_in (by decide +kernel) (by decide +kernel)
theorem z_inX5 : ∀ w ∈ u_ws RX5 TX5 7, w ∈ z_ws := z_ws_in (by decide +kernel) (by decide +kernel)
