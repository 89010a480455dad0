-- ===== PART A: goes FIRST, ahead of the names: the tables' words, and 'selects' of the private methods out of them =====
/-- a private method of a class that the tables say can be made, by its rows of tables_1 -/
def lw_okq (q : MethodName × Nat) : Prop := (q.1.cls ≠ "java/lang/invoke/MethodHandle" ∧ q.1.cls ≠ "java/lang/invoke/VarHandle") ∧ Cond.instantiable q.1.cls q.2 ∈ tables_1 ∧ Cond.privateMethod q.1 ∈ tables_1 ∧ Cond.instanceMethod q.1 ∈ tables_1
theorem lw_p0 : lw_okq (⟨"SpeechCleaner", "currentCuts", "()LSpeechCleaner$CutList;"⟩, 7) := ⟨⟨by decide +kernel, by decide +kernel⟩, List.mem_of_getElem? (i := 11) (by decide +kernel), List.mem_of_getElem? (i := 336) (by decide +kernel), List.mem_of_getElem? (i := 337) (by decide +kernel)⟩
theorem lw_p1 : lw_okq (⟨"SpeechCleaner", "currentResult", "()LSpeechCleaner$Result;"⟩, 7) := ⟨⟨by decide +kernel, by decide +kernel⟩, List.mem_of_getElem? (i := 11) (by decide +kernel), List.mem_of_getElem? (i := 447) (by decide +kernel), List.mem_of_getElem? (i := 448) (by decide +kernel)⟩
theorem lw_p2 : lw_okq (⟨"SpeechCleaner", "withMarks", "(JLSpeechCleaner$CutList;)J"⟩, 7) := ⟨⟨by decide +kernel, by decide +kernel⟩, List.mem_of_getElem? (i := 11) (by decide +kernel), List.mem_of_getElem? (i := 540) (by decide +kernel), List.mem_of_getElem? (i := 541) (by decide +kernel)⟩
theorem lw_p3 : lw_okq (⟨"SpeechCleaner", "withCuts", "(JLSpeechCleaner$CutList;)J"⟩, 7) := ⟨⟨by decide +kernel, by decide +kernel⟩, List.mem_of_getElem? (i := 11) (by decide +kernel), List.mem_of_getElem? (i := 544) (by decide +kernel), List.mem_of_getElem? (i := 545) (by decide +kernel)⟩
theorem lw_p4 : lw_okq (⟨"SpeechCleaner", "withResult", "(JLSpeechCleaner$Result;)J"⟩, 7) := ⟨⟨by decide +kernel, by decide +kernel⟩, List.mem_of_getElem? (i := 11) (by decide +kernel), List.mem_of_getElem? (i := 548) (by decide +kernel), List.mem_of_getElem? (i := 549) (by decide +kernel)⟩
theorem lw_p5 : lw_okq (⟨"SpeechCleanerModel", "wrongAt", "()I"⟩, 19) := ⟨⟨by decide +kernel, by decide +kernel⟩, List.mem_of_getElem? (i := 552) (by decide +kernel), List.mem_of_getElem? (i := 631) (by decide +kernel), List.mem_of_getElem? (i := 632) (by decide +kernel)⟩
theorem lw_p6 : lw_okq (⟨"SpeechCleanerModel", "isDigit", "()Z"⟩, 19) := ⟨⟨by decide +kernel, by decide +kernel⟩, List.mem_of_getElem? (i := 552) (by decide +kernel), List.mem_of_getElem? (i := 635) (by decide +kernel), List.mem_of_getElem? (i := 636) (by decide +kernel)⟩
theorem lw_p7 : lw_okq (⟨"SpeechCleanerModel", "sign", "()I"⟩, 19) := ⟨⟨by decide +kernel, by decide +kernel⟩, List.mem_of_getElem? (i := 552) (by decide +kernel), List.mem_of_getElem? (i := 639) (by decide +kernel), List.mem_of_getElem? (i := 640) (by decide +kernel)⟩
theorem lw_p8 : lw_okq (⟨"SpeechCleanerModel", "takesFrames", "()V"⟩, 19) := ⟨⟨by decide +kernel, by decide +kernel⟩, List.mem_of_getElem? (i := 552) (by decide +kernel), List.mem_of_getElem? (i := 643) (by decide +kernel), List.mem_of_getElem? (i := 644) (by decide +kernel)⟩
theorem lw_p9 : lw_okq (⟨"SpeechCleanerModel", "readsMark", "()Z"⟩, 19) := ⟨⟨by decide +kernel, by decide +kernel⟩, List.mem_of_getElem? (i := 552) (by decide +kernel), List.mem_of_getElem? (i := 647) (by decide +kernel), List.mem_of_getElem? (i := 648) (by decide +kernel)⟩
theorem lw_p10 : lw_okq (⟨"SpeechCleanerModel", "doubt", "()Z"⟩, 19) := ⟨⟨by decide +kernel, by decide +kernel⟩, List.mem_of_getElem? (i := 552) (by decide +kernel), List.mem_of_getElem? (i := 651) (by decide +kernel), List.mem_of_getElem? (i := 652) (by decide +kernel)⟩
theorem lw_p11 : lw_okq (⟨"SpeechCleanerModel", "takes", "(I)Z"⟩, 19) := ⟨⟨by decide +kernel, by decide +kernel⟩, List.mem_of_getElem? (i := 552) (by decide +kernel), List.mem_of_getElem? (i := 655) (by decide +kernel), List.mem_of_getElem? (i := 656) (by decide +kernel)⟩
theorem lw_p12 : lw_okq (⟨"SpeechCleanerModel", "act", "()V"⟩, 19) := ⟨⟨by decide +kernel, by decide +kernel⟩, List.mem_of_getElem? (i := 552) (by decide +kernel), List.mem_of_getElem? (i := 659) (by decide +kernel), List.mem_of_getElem? (i := 660) (by decide +kernel)⟩
theorem lw_p13 : lw_okq (⟨"SpeechCleanerModel", "of", "(II)I"⟩, 19) := ⟨⟨by decide +kernel, by decide +kernel⟩, List.mem_of_getElem? (i := 552) (by decide +kernel), List.mem_of_getElem? (i := 676) (by decide +kernel), List.mem_of_getElem? (i := 677) (by decide +kernel)⟩
theorem lw_p14 : lw_okq (⟨"SpeechCleanerModel", "isMark", "(I)Z"⟩, 19) := ⟨⟨by decide +kernel, by decide +kernel⟩, List.mem_of_getElem? (i := 552) (by decide +kernel), List.mem_of_getElem? (i := 684) (by decide +kernel), List.mem_of_getElem? (i := 685) (by decide +kernel)⟩
theorem lw_p15 : lw_okq (⟨"SpeechCleanerModel", "sets", "(II)I"⟩, 19) := ⟨⟨by decide +kernel, by decide +kernel⟩, List.mem_of_getElem? (i := 552) (by decide +kernel), List.mem_of_getElem? (i := 692) (by decide +kernel), List.mem_of_getElem? (i := 693) (by decide +kernel)⟩
def lw_privs_1 : List (MethodName × Nat) := [(⟨"SpeechCleaner", "currentCuts", "()LSpeechCleaner$CutList;"⟩, 7), (⟨"SpeechCleaner", "currentResult", "()LSpeechCleaner$Result;"⟩, 7), (⟨"SpeechCleaner", "withMarks", "(JLSpeechCleaner$CutList;)J"⟩, 7), (⟨"SpeechCleaner", "withCuts", "(JLSpeechCleaner$CutList;)J"⟩, 7), (⟨"SpeechCleaner", "withResult", "(JLSpeechCleaner$Result;)J"⟩, 7), (⟨"SpeechCleanerModel", "wrongAt", "()I"⟩, 19), (⟨"SpeechCleanerModel", "isDigit", "()Z"⟩, 19), (⟨"SpeechCleanerModel", "sign", "()I"⟩, 19), (⟨"SpeechCleanerModel", "takesFrames", "()V"⟩, 19), (⟨"SpeechCleanerModel", "readsMark", "()Z"⟩, 19), (⟨"SpeechCleanerModel", "doubt", "()Z"⟩, 19), (⟨"SpeechCleanerModel", "takes", "(I)Z"⟩, 19), (⟨"SpeechCleanerModel", "act", "()V"⟩, 19), (⟨"SpeechCleanerModel", "of", "(II)I"⟩, 19), (⟨"SpeechCleanerModel", "isMark", "(I)Z"⟩, 19), (⟨"SpeechCleanerModel", "sets", "(II)I"⟩, 19)]
theorem lw_r1 : ∀ q ∈ lw_privs_1, lw_okq q := List.forall_mem_cons.mpr ⟨lw_p0, List.forall_mem_cons.mpr ⟨lw_p1, List.forall_mem_cons.mpr ⟨lw_p2, List.forall_mem_cons.mpr ⟨lw_p3, List.forall_mem_cons.mpr ⟨lw_p4, List.forall_mem_cons.mpr ⟨lw_p5, List.forall_mem_cons.mpr ⟨lw_p6, List.forall_mem_cons.mpr ⟨lw_p7, List.forall_mem_cons.mpr ⟨lw_p8, List.forall_mem_cons.mpr ⟨lw_p9, List.forall_mem_cons.mpr ⟨lw_p10, List.forall_mem_cons.mpr ⟨lw_p11, List.forall_mem_cons.mpr ⟨lw_p12, List.forall_mem_cons.mpr ⟨lw_p13, List.forall_mem_cons.mpr ⟨lw_p14, List.forall_mem_cons.mpr ⟨lw_p15, fun _ h => absurd h List.not_mem_nil⟩⟩⟩⟩⟩⟩⟩⟩⟩⟩⟩⟩⟩⟩⟩⟩
theorem lw_p16 : lw_okq (⟨"SpeechCleanerModel", "finds", "()V"⟩, 19) := ⟨⟨by decide +kernel, by decide +kernel⟩, List.mem_of_getElem? (i := 552) (by decide +kernel), List.mem_of_getElem? (i := 715) (by decide +kernel), List.mem_of_getElem? (i := 716) (by decide +kernel)⟩
theorem lw_p17 : lw_okq (⟨"SpeechCleanerModel", "fills", "(I)V"⟩, 19) := ⟨⟨by decide +kernel, by decide +kernel⟩, List.mem_of_getElem? (i := 552) (by decide +kernel), List.mem_of_getElem? (i := 719) (by decide +kernel), List.mem_of_getElem? (i := 720) (by decide +kernel)⟩
theorem lw_p18 : lw_okq (⟨"SpeechCleanerModel", "seam", "(III)I"⟩, 19) := ⟨⟨by decide +kernel, by decide +kernel⟩, List.mem_of_getElem? (i := 552) (by decide +kernel), List.mem_of_getElem? (i := 723) (by decide +kernel), List.mem_of_getElem? (i := 724) (by decide +kernel)⟩
theorem lw_p19 : lw_okq (⟨"SpeechCleanerModel", "isQuiet", "(I)Z"⟩, 19) := ⟨⟨by decide +kernel, by decide +kernel⟩, List.mem_of_getElem? (i := 552) (by decide +kernel), List.mem_of_getElem? (i := 727) (by decide +kernel), List.mem_of_getElem? (i := 728) (by decide +kernel)⟩
theorem lw_p20 : lw_okq (⟨"SpeechCleanerModel", "levelAt", "(I)I"⟩, 19) := ⟨⟨by decide +kernel, by decide +kernel⟩, List.mem_of_getElem? (i := 552) (by decide +kernel), List.mem_of_getElem? (i := 731) (by decide +kernel), List.mem_of_getElem? (i := 732) (by decide +kernel)⟩
theorem lw_p21 : lw_okq (⟨"SpeechCleanerModel", "lays", "(IIIII)V"⟩, 19) := ⟨⟨by decide +kernel, by decide +kernel⟩, List.mem_of_getElem? (i := 552) (by decide +kernel), List.mem_of_getElem? (i := 735) (by decide +kernel), List.mem_of_getElem? (i := 736) (by decide +kernel)⟩
theorem lw_p22 : lw_okq (⟨"SpeechCleanerModel", "told", "(II)I"⟩, 19) := ⟨⟨by decide +kernel, by decide +kernel⟩, List.mem_of_getElem? (i := 552) (by decide +kernel), List.mem_of_getElem? (i := 739) (by decide +kernel), List.mem_of_getElem? (i := 740) (by decide +kernel)⟩
theorem lw_p23 : lw_okq (⟨"SpeechCleanerModel", "cutOf", "(I)I"⟩, 19) := ⟨⟨by decide +kernel, by decide +kernel⟩, List.mem_of_getElem? (i := 552) (by decide +kernel), List.mem_of_getElem? (i := 743) (by decide +kernel), List.mem_of_getElem? (i := 744) (by decide +kernel)⟩
theorem lw_p24 : lw_okq (⟨"SpeechCleanerModel", "sumOf", "(I)I"⟩, 19) := ⟨⟨by decide +kernel, by decide +kernel⟩, List.mem_of_getElem? (i := 552) (by decide +kernel), List.mem_of_getElem? (i := 759) (by decide +kernel), List.mem_of_getElem? (i := 760) (by decide +kernel)⟩
theorem lw_p25 : lw_okq (⟨"SpeechCleanerModel", "plays", "()V"⟩, 19) := ⟨⟨by decide +kernel, by decide +kernel⟩, List.mem_of_getElem? (i := 552) (by decide +kernel), List.mem_of_getElem? (i := 775) (by decide +kernel), List.mem_of_getElem? (i := 776) (by decide +kernel)⟩
theorem lw_p26 : lw_okq (⟨"SpeechCleanerModel", "isNoise", "(I)Z"⟩, 19) := ⟨⟨by decide +kernel, by decide +kernel⟩, List.mem_of_getElem? (i := 552) (by decide +kernel), List.mem_of_getElem? (i := 779) (by decide +kernel), List.mem_of_getElem? (i := 780) (by decide +kernel)⟩
theorem lw_p27 : lw_okq (⟨"SpeechCleanerModel", "hears", "(II)V"⟩, 19) := ⟨⟨by decide +kernel, by decide +kernel⟩, List.mem_of_getElem? (i := 552) (by decide +kernel), List.mem_of_getElem? (i := 783) (by decide +kernel), List.mem_of_getElem? (i := 784) (by decide +kernel)⟩
theorem lw_p28 : lw_okq (⟨"SpeechCleanerModel", "pauses", "(I)V"⟩, 19) := ⟨⟨by decide +kernel, by decide +kernel⟩, List.mem_of_getElem? (i := 552) (by decide +kernel), List.mem_of_getElem? (i := 787) (by decide +kernel), List.mem_of_getElem? (i := 788) (by decide +kernel)⟩
def lw_privs_2 : List (MethodName × Nat) := [(⟨"SpeechCleanerModel", "finds", "()V"⟩, 19), (⟨"SpeechCleanerModel", "fills", "(I)V"⟩, 19), (⟨"SpeechCleanerModel", "seam", "(III)I"⟩, 19), (⟨"SpeechCleanerModel", "isQuiet", "(I)Z"⟩, 19), (⟨"SpeechCleanerModel", "levelAt", "(I)I"⟩, 19), (⟨"SpeechCleanerModel", "lays", "(IIIII)V"⟩, 19), (⟨"SpeechCleanerModel", "told", "(II)I"⟩, 19), (⟨"SpeechCleanerModel", "cutOf", "(I)I"⟩, 19), (⟨"SpeechCleanerModel", "sumOf", "(I)I"⟩, 19), (⟨"SpeechCleanerModel", "plays", "()V"⟩, 19), (⟨"SpeechCleanerModel", "isNoise", "(I)Z"⟩, 19), (⟨"SpeechCleanerModel", "hears", "(II)V"⟩, 19), (⟨"SpeechCleanerModel", "pauses", "(I)V"⟩, 19)]
theorem lw_r2 : ∀ q ∈ lw_privs_2, lw_okq q := List.forall_mem_cons.mpr ⟨lw_p16, List.forall_mem_cons.mpr ⟨lw_p17, List.forall_mem_cons.mpr ⟨lw_p18, List.forall_mem_cons.mpr ⟨lw_p19, List.forall_mem_cons.mpr ⟨lw_p20, List.forall_mem_cons.mpr ⟨lw_p21, List.forall_mem_cons.mpr ⟨lw_p22, List.forall_mem_cons.mpr ⟨lw_p23, List.forall_mem_cons.mpr ⟨lw_p24, List.forall_mem_cons.mpr ⟨lw_p25, List.forall_mem_cons.mpr ⟨lw_p26, List.forall_mem_cons.mpr ⟨lw_p27, List.forall_mem_cons.mpr ⟨lw_p28, fun _ h => absurd h List.not_mem_nil⟩⟩⟩⟩⟩⟩⟩⟩⟩⟩⟩⟩⟩
def lw_privs : List (MethodName × Nat) := lw_privs_1 ++ (lw_privs_2)
def lw_tbl : List Cond := k2_sels lw_privs ++ tables_1
theorem lw_privs_ok : ∀ q ∈ lw_privs, lw_okq q := by
  show ∀ q ∈ lw_privs_1 ++ (lw_privs_2), lw_okq q
  exact List.forall_mem_append.mpr ⟨lw_r1, lw_r2⟩
/-- the streams that the claim lets the run draw from -/
abbrev lw_cs : List Choice := [Jvm.Choice.named "NaN.bits"]
theorem lw_bits : nanBits ∈ lw_cs := by first | decide | exact List.mem_cons_self | simp [lw_cs, nanBits]

def RX0 : String := "SpeechCleaner$CutList"
def TX0 : u_T := fun k => match k with
  | 0 => ("SpeechCleaner$CutList", "begins", "[I", true)
  | 1 => ("SpeechCleaner$CutList", "ends", "[I", true)
  | 2 => ("SpeechCleaner$CutList", "pauses", "[I", true)
  | 3 => ("SpeechCleaner$CutList", "rough", "[Z", true)
  | 4 => ("SpeechCleaner$CutList", "markNumbers", "[I", true)
  | _ => ("SpeechCleaner$CutList", "count", "I", false)
def tyX0 : Nat → FieldType := fun k => match k with
  | 0 => .array .int
  | 1 => .array .int
  | 2 => .array .int
  | 3 => .array .boolean
  | 4 => .array .int
  | _ => .int
abbrev wsX00 : List Cond := u_ws RX0 TX0 6
theorem nmX0 : ∀ a, a < 6 → ∀ b, b < 6 → a ≠ b → (TX0 a).2.1 ≠ (TX0 b).2.1 := by decide +kernel
theorem tyX0_ok : ∀ k, k < 6 → parseFieldDescriptor (TX0 k).2.2.1 = some (tyX0 k) := by decide +kernel
abbrev cX0_init : ByteArray := prog_2_method_1_code
def yX0_init : MethodName := ⟨RX0, "<init>", "()V"⟩
abbrev cX0_find : ByteArray := prog_2_method_2_code
def yX0_find : MethodName := ⟨RX0, "find", "(LSpeechCleaner$Recording;II)V"⟩
abbrev cX0_addFillerCut : ByteArray := prog_2_method_3_code
def yX0_addFillerCut : MethodName := ⟨RX0, "addFillerCut", "(LSpeechCleaner$Recording;II)V"⟩
abbrev cX0_addBreathCut : ByteArray := prog_2_method_4_code
def yX0_addBreathCut : MethodName := ⟨RX0, "addBreathCut", "(LSpeechCleaner$Recording;I)V"⟩
abbrev cX0_addCut : ByteArray := prog_2_method_5_code
def yX0_addCut : MethodName := ⟨RX0, "addCut", "(IIIZI)V"⟩
abbrev cX0_endOfLastCut : ByteArray := prog_2_method_6_code
def yX0_endOfLastCut : MethodName := ⟨RX0, "endOfLastCut", "()I"⟩
abbrev cX0_cutOfMark : ByteArray := prog_2_method_7_code
def yX0_cutOfMark : MethodName := ⟨RX0, "cutOfMark", "(I)I"⟩
abbrev cX0_numberOfCut : ByteArray := prog_2_method_8_code
def yX0_numberOfCut : MethodName := ⟨RX0, "numberOfCut", "(II)I"⟩
abbrev cX0_cutFrames : ByteArray := prog_2_method_9_code
def yX0_cutFrames : MethodName := ⟨RX0, "cutFrames", "()I"⟩
abbrev cX0_pauseFrames : ByteArray := prog_2_method_10_code
def yX0_pauseFrames : MethodName := ⟨RX0, "pauseFrames", "()I"⟩
abbrev cX0_roughCuts : ByteArray := prog_2_method_11_code
def yX0_roughCuts : MethodName := ⟨RX0, "roughCuts", "()I"⟩
def RX1 : String := "SpeechCleaner$History"
def TX1 : u_T := fun k => match k with
  | 0 => ("SpeechCleaner$History", "states", "[LSpeechCleaner$Recording;", true)
  | _ => ("SpeechCleaner$History", "count", "I", false)
def tyX1 : Nat → FieldType := fun k => match k with
  | 0 => .array (.object "SpeechCleaner$Recording")
  | _ => .int
abbrev wsX10 : List Cond := u_ws RX1 TX1 2
theorem nmX1 : ∀ a, a < 2 → ∀ b, b < 2 → a ≠ b → (TX1 a).2.1 ≠ (TX1 b).2.1 := by decide +kernel
theorem tyX1_ok : ∀ k, k < 2 → parseFieldDescriptor (TX1 k).2.2.1 = some (tyX1 k) := by decide +kernel
abbrev cX1_init : ByteArray := prog_3_method_1_code
def yX1_init : MethodName := ⟨RX1, "<init>", "()V"⟩
abbrev cX1_keep : ByteArray := prog_3_method_2_code
def yX1_keep : MethodName := ⟨RX1, "keep", "(LSpeechCleaner$Recording;)V"⟩
abbrev cX1_dropOldest : ByteArray := prog_3_method_3_code
def yX1_dropOldest : MethodName := ⟨RX1, "dropOldest", "()V"⟩
abbrev cX1_restoreLatest : ByteArray := prog_3_method_4_code
def yX1_restoreLatest : MethodName := ⟨RX1, "restoreLatest", "(LSpeechCleaner$Recording;)V"⟩
def RX2 : String := "SpeechCleaner$Recording"
def TX2 : u_T := fun k => match k with
  | 0 => ("SpeechCleaner$Recording", "levels", "[I", true)
  | 1 => ("SpeechCleaner$Recording", "frames", "I", false)
  | 2 => ("SpeechCleaner$Recording", "kinds", "[I", true)
  | 3 => ("SpeechCleaner$Recording", "firsts", "[I", true)
  | 4 => ("SpeechCleaner$Recording", "ends", "[I", true)
  | 5 => ("SpeechCleaner$Recording", "doubts", "[I", true)
  | 6 => ("SpeechCleaner$Recording", "held", "[Z", true)
  | 7 => ("SpeechCleaner$Recording", "marks", "I", false)
  | _ => ("SpeechCleaner$Recording", "settings", "[I", true)
def tyX2 : Nat → FieldType := fun k => match k with
  | 0 => .array .int
  | 1 => .int
  | 2 => .array .int
  | 3 => .array .int
  | 4 => .array .int
  | 5 => .array .int
  | 6 => .array .boolean
  | 7 => .int
  | _ => .array .int
abbrev wsX20 : List Cond := u_ws RX2 TX2 9
theorem nmX2 : ∀ a, a < 9 → ∀ b, b < 9 → a ≠ b → (TX2 a).2.1 ≠ (TX2 b).2.1 := by decide +kernel
theorem tyX2_ok : ∀ k, k < 9 → parseFieldDescriptor (TX2 k).2.2.1 = some (tyX2 k) := by decide +kernel
abbrev cX2_init : ByteArray := prog_4_method_1_code
def yX2_init : MethodName := ⟨RX2, "<init>", "()V"⟩
abbrev cX2_copyAll : ByteArray := prog_4_method_2_code
def yX2_copyAll : MethodName := ⟨RX2, "copyAll", "(LSpeechCleaner$Recording;)V"⟩
abbrev cX2_copySound : ByteArray := prog_4_method_3_code
def yX2_copySound : MethodName := ⟨RX2, "copySound", "(LSpeechCleaner$Recording;)V"⟩
abbrev cX2_removeSound : ByteArray := prog_4_method_4_code
def yX2_removeSound : MethodName := ⟨RX2, "removeSound", "()V"⟩
abbrev cX2_addFrame : ByteArray := prog_4_method_5_code
def yX2_addFrame : MethodName := ⟨RX2, "addFrame", "(I)V"⟩
abbrev cX2_hasFrame : ByteArray := prog_4_method_6_code
def yX2_hasFrame : MethodName := ⟨RX2, "hasFrame", "(I)Z"⟩
abbrev cX2_levelAt : ByteArray := prog_4_method_7_code
def yX2_levelAt : MethodName := ⟨RX2, "levelAt", "(I)I"⟩
abbrev cX2_hasMark : ByteArray := prog_4_method_8_code
def yX2_hasMark : MethodName := ⟨RX2, "hasMark", "(I)Z"⟩
abbrev cX2_overlaps : ByteArray := prog_4_method_9_code
def yX2_overlaps : MethodName := ⟨RX2, "overlaps", "(II)Z"⟩
abbrev cX2_addMark : ByteArray := prog_4_method_10_code
def yX2_addMark : MethodName := ⟨RX2, "addMark", "(IIII)I"⟩
abbrev cX2_removeMark : ByteArray := prog_4_method_11_code
def yX2_removeMark : MethodName := ⟨RX2, "removeMark", "(I)V"⟩
abbrev cX2_copyMark : ByteArray := prog_4_method_12_code
def yX2_copyMark : MethodName := ⟨RX2, "copyMark", "(LSpeechCleaner$Recording;II)V"⟩
abbrev cX2_numberOfMark : ByteArray := prog_4_method_13_code
def yX2_numberOfMark : MethodName := ⟨RX2, "numberOfMark", "(II)I"⟩
abbrev cX2_hasFillerOfDoubt : ByteArray := prog_4_method_14_code
def yX2_hasFillerOfDoubt : MethodName := ⟨RX2, "hasFillerOfDoubt", "(I)Z"⟩
abbrev cX2_endOfMarkBefore : ByteArray := prog_4_method_15_code
def yX2_endOfMarkBefore : MethodName := ⟨RX2, "endOfMarkBefore", "(I)I"⟩
abbrev cX2_firstOfMarkAfter : ByteArray := prog_4_method_16_code
def yX2_firstOfMarkAfter : MethodName := ⟨RX2, "firstOfMarkAfter", "(I)I"⟩
abbrev cX2_nearestQuietSeam : ByteArray := prog_4_method_17_code
def yX2_nearestQuietSeam : MethodName := ⟨RX2, "nearestQuietSeam", "(IIII)I"⟩
abbrev cX2_isQuiet : ByteArray := prog_4_method_18_code
def yX2_isQuiet : MethodName := ⟨RX2, "isQuiet", "(I)Z"⟩
def RX3 : String := "SpeechCleaner$Result"
def TX3 : u_T := fun k => match k with
  | 0 => ("SpeechCleaner$Result", "sources", "[I", true)
  | 1 => ("SpeechCleaner$Result", "levels", "[I", true)
  | 2 => ("SpeechCleaner$Result", "count", "I", false)
  | 3 => ("SpeechCleaner$Result", "room", "[I", true)
  | 4 => ("SpeechCleaner$Result", "roomFrames", "I", false)
  | 5 => ("SpeechCleaner$Result", "roomPlace", "I", false)
  | _ => ("SpeechCleaner$Result", "noisy", "[Z", true)
def tyX3 : Nat → FieldType := fun k => match k with
  | 0 => .array .int
  | 1 => .array .int
  | 2 => .int
  | 3 => .array .int
  | 4 => .int
  | 5 => .int
  | _ => .array .boolean
abbrev wsX30 : List Cond := u_ws RX3 TX3 7
theorem nmX3 : ∀ a, a < 7 → ∀ b, b < 7 → a ≠ b → (TX3 a).2.1 ≠ (TX3 b).2.1 := by decide +kernel
theorem tyX3_ok : ∀ k, k < 7 → parseFieldDescriptor (TX3 k).2.2.1 = some (tyX3 k) := by decide +kernel
abbrev cX3_init : ByteArray := prog_5_method_1_code
def yX3_init : MethodName := ⟨RX3, "<init>", "()V"⟩
abbrev cX3_build : ByteArray := prog_5_method_2_code
def yX3_build : MethodName := ⟨RX3, "build", "(LSpeechCleaner$Recording;LSpeechCleaner$CutList;)V"⟩
abbrev cX3_gatherRoomAndNoise : ByteArray := prog_5_method_3_code
def yX3_gatherRoomAndNoise : MethodName := ⟨RX3, "gatherRoomAndNoise", "(LSpeechCleaner$Recording;)V"⟩
abbrev cX3_gatherFrame : ByteArray := prog_5_method_4_code
def yX3_gatherFrame : MethodName := ⟨RX3, "gatherFrame", "(II)V"⟩
abbrev cX3_addRecorded : ByteArray := prog_5_method_5_code
def yX3_addRecorded : MethodName := ⟨RX3, "addRecorded", "(LSpeechCleaner$Recording;II)V"⟩
abbrev cX3_addPause : ByteArray := prog_5_method_6_code
def yX3_addPause : MethodName := ⟨RX3, "addPause", "(LSpeechCleaner$Recording;I)V"⟩
abbrev cX3_nextRoomFrame : ByteArray := prog_5_method_7_code
def yX3_nextRoomFrame : MethodName := ⟨RX3, "nextRoomFrame", "()I"⟩
abbrev cX3_add : ByteArray := prog_5_method_8_code
def yX3_add : MethodName := ⟨RX3, "add", "(II)V"⟩
abbrev cX3_placeOfSource : ByteArray := prog_5_method_9_code
def yX3_placeOfSource : MethodName := ⟨RX3, "placeOfSource", "(I)I"⟩
abbrev cX3_stepsGreaterThan : ByteArray := prog_5_method_10_code
def yX3_stepsGreaterThan : MethodName := ⟨RX3, "stepsGreaterThan", "(I)I"⟩
abbrev cX3_sumOfLevels : ByteArray := prog_5_method_11_code
def yX3_sumOfLevels : MethodName := ⟨RX3, "sumOfLevels", "()I"⟩
abbrev cX3_longestStretchUpTo : ByteArray := prog_5_method_12_code
def yX3_longestStretchUpTo : MethodName := ⟨RX3, "longestStretchUpTo", "(I)I"⟩
def RX4 : String := "SpeechCleaner$TextReader"
def TX4 : u_T := fun k => match k with
  | 0 => ("SpeechCleaner$TextReader", "draft", "LSpeechCleaner$Recording;", true)
  | 1 => ("SpeechCleaner$TextReader", "stage", "I", false)
  | 2 => ("SpeechCleaner$TextReader", "kind", "I", false)
  | 3 => ("SpeechCleaner$TextReader", "first", "I", false)
  | 4 => ("SpeechCleaner$TextReader", "doubt", "I", false)
  | 5 => ("SpeechCleaner$TextReader", "doubtDigits", "I", false)
  | _ => ("SpeechCleaner$TextReader", "wrongDoubtPlace", "I", false)
def tyX4 : Nat → FieldType := fun k => match k with
  | 0 => .object "SpeechCleaner$Recording"
  | 1 => .int
  | 2 => .int
  | 3 => .int
  | 4 => .int
  | 5 => .int
  | _ => .int
abbrev wsX40 : List Cond := u_ws RX4 TX4 7
theorem nmX4 : ∀ a, a < 7 → ∀ b, b < 7 → a ≠ b → (TX4 a).2.1 ≠ (TX4 b).2.1 := by decide +kernel
theorem tyX4_ok : ∀ k, k < 7 → parseFieldDescriptor (TX4 k).2.2.1 = some (tyX4 k) := by decide +kernel
abbrev cX4_init : ByteArray := prog_6_method_1_code
def yX4_init : MethodName := ⟨RX4, "<init>", "()V"⟩
abbrev cX4_parse : ByteArray := prog_6_method_2_code
def yX4_parse : MethodName := ⟨RX4, "parse", "([II)I"⟩
abbrev cX4_takes : ByteArray := prog_6_method_3_code
def yX4_takes : MethodName := ⟨RX4, "takes", "(II)Z"⟩
abbrev cX4_takesOutside : ByteArray := prog_6_method_4_code
def yX4_takesOutside : MethodName := ⟨RX4, "takesOutside", "(I)Z"⟩
abbrev cX4_takesKind : ByteArray := prog_6_method_5_code
def yX4_takesKind : MethodName := ⟨RX4, "takesKind", "(I)Z"⟩
abbrev cX4_takesDoubt : ByteArray := prog_6_method_6_code
def yX4_takesDoubt : MethodName := ⟨RX4, "takesDoubt", "(II)Z"⟩
abbrev cX4_takesColon : ByteArray := prog_6_method_7_code
def yX4_takesColon : MethodName := ⟨RX4, "takesColon", "(I)Z"⟩
abbrev cX4_takesInside : ByteArray := prog_6_method_8_code
def yX4_takesInside : MethodName := ⟨RX4, "takesInside", "(I)Z"⟩
abbrev cX4_isDigit : ByteArray := prog_6_method_9_code
def yX4_isDigit : MethodName := ⟨RX4, "isDigit", "(I)Z"⟩
def RX5 : String := "SpeechCleaner"
def TX5 : u_T := fun k => match k with
  | 0 => ("SpeechCleaner", "buffer", "[I", true)
  | 1 => ("SpeechCleaner", "characters", "I", false)
  | 2 => ("SpeechCleaner", "recording", "LSpeechCleaner$Recording;", true)
  | 3 => ("SpeechCleaner", "history", "LSpeechCleaner$History;", true)
  | 4 => ("SpeechCleaner", "reader", "LSpeechCleaner$TextReader;", true)
  | 5 => ("SpeechCleaner", "cutList", "LSpeechCleaner$CutList;", true)
  | _ => ("SpeechCleaner", "result", "LSpeechCleaner$Result;", true)
def tyX5 : Nat → FieldType := fun k => match k with
  | 0 => .array .int
  | 1 => .int
  | 2 => .object "SpeechCleaner$Recording"
  | 3 => .object "SpeechCleaner$History"
  | 4 => .object "SpeechCleaner$TextReader"
  | 5 => .object "SpeechCleaner$CutList"
  | _ => .object "SpeechCleaner$Result"
abbrev wsX50 : List Cond := u_ws RX5 TX5 7
theorem nmX5 : ∀ a, a < 7 → ∀ b, b < 7 → a ≠ b → (TX5 a).2.1 ≠ (TX5 b).2.1 := by decide +kernel
theorem tyX5_ok : ∀ k, k < 7 → parseFieldDescriptor (TX5 k).2.2.1 = some (tyX5 k) := by decide +kernel
abbrev cX5_init : ByteArray := prog_1_method_1_code
def yX5_init : MethodName := ⟨RX5, "<init>", "()V"⟩
abbrev cX5_type : ByteArray := prog_1_method_2_code
def yX5_type : MethodName := ⟨RX5, "type", "(I)I"⟩
abbrev cX5_clear : ByteArray := prog_1_method_3_code
def yX5_clear : MethodName := ⟨RX5, "clear", "()I"⟩
abbrev cX5_read : ByteArray := prog_1_method_4_code
def yX5_read : MethodName := ⟨RX5, "read", "()I"⟩
abbrev cX5_append : ByteArray := prog_1_method_5_code
def yX5_append : MethodName := ⟨RX5, "append", "(II)I"⟩
abbrev cX5_babble : ByteArray := prog_1_method_6_code
def yX5_babble : MethodName := ⟨RX5, "babble", "(II)I"⟩
abbrev cX5_mark : ByteArray := prog_1_method_7_code
def yX5_mark : MethodName := ⟨RX5, "mark", "(IIII)I"⟩
abbrev cX5_unmark : ByteArray := prog_1_method_8_code
def yX5_unmark : MethodName := ⟨RX5, "unmark", "(I)I"⟩
abbrev cX5_hold : ByteArray := prog_1_method_9_code
def yX5_hold : MethodName := ⟨RX5, "hold", "(IZ)I"⟩
abbrev cX5_set : ByteArray := prog_1_method_10_code
def yX5_set : MethodName := ⟨RX5, "set", "(II)I"⟩
abbrev cX5_setting : ByteArray := prog_1_method_11_code
def yX5_setting : MethodName := ⟨RX5, "setting", "(I)I"⟩
abbrev cX5_about : ByteArray := prog_1_method_12_code
def yX5_about : MethodName := ⟨RX5, "about", "(II)I"⟩
abbrev cX5_level : ByteArray := prog_1_method_13_code
def yX5_level : MethodName := ⟨RX5, "level", "(I)I"⟩
abbrev cX5_cuts : ByteArray := prog_1_method_14_code
def yX5_cuts : MethodName := ⟨RX5, "cuts", "()I"⟩
abbrev cX5_cut : ByteArray := prog_1_method_15_code
def yX5_cut : MethodName := ⟨RX5, "cut", "(II)I"⟩
abbrev cX5_sum : ByteArray := prog_1_method_16_code
def yX5_sum : MethodName := ⟨RX5, "sum", "(I)I"⟩
abbrev cX5_bestWindow : ByteArray := prog_1_method_17_code
def yX5_bestWindow : MethodName := ⟨RX5, "bestWindow", "()I"⟩
abbrev cX5_greatestDoubt : ByteArray := prog_1_method_18_code
def yX5_greatestDoubt : MethodName := ⟨RX5, "greatestDoubt", "(I)I"⟩
abbrev cX5_length : ByteArray := prog_1_method_19_code
def yX5_length : MethodName := ⟨RX5, "length", "()I"⟩
abbrev cX5_heard : ByteArray := prog_1_method_20_code
def yX5_heard : MethodName := ⟨RX5, "heard", "(II)I"⟩
abbrev cX5_where : ByteArray := prog_1_method_21_code
def yX5_where : MethodName := ⟨RX5, "where", "(I)I"⟩
abbrev cX5_clicks : ByteArray := prog_1_method_22_code
def yX5_clicks : MethodName := ⟨RX5, "clicks", "(I)I"⟩
abbrev cX5_loudness : ByteArray := prog_1_method_23_code
def yX5_loudness : MethodName := ⟨RX5, "loudness", "()F"⟩
abbrev cX5_share : ByteArray := prog_1_method_24_code
def yX5_share : MethodName := ⟨RX5, "share", "()F"⟩
abbrev cX5_silence : ByteArray := prog_1_method_25_code
def yX5_silence : MethodName := ⟨RX5, "silence", "()I"⟩
abbrev cX5_undo : ByteArray := prog_1_method_26_code
def yX5_undo : MethodName := ⟨RX5, "undo", "()I"⟩
abbrev cX5_fingerprint : ByteArray := prog_1_method_27_code
def yX5_fingerprint : MethodName := ⟨RX5, "fingerprint", "()J"⟩
abbrev cX5_withMarks : ByteArray := prog_1_method_28_code
def yX5_withMarks : MethodName := ⟨RX5, "withMarks", "(JLSpeechCleaner$CutList;)J"⟩
abbrev cX5_withCuts : ByteArray := prog_1_method_29_code
def yX5_withCuts : MethodName := ⟨RX5, "withCuts", "(JLSpeechCleaner$CutList;)J"⟩
abbrev cX5_withResult : ByteArray := prog_1_method_30_code
def yX5_withResult : MethodName := ⟨RX5, "withResult", "(JLSpeechCleaner$Result;)J"⟩
abbrev cX5_currentCuts : ByteArray := prog_1_method_31_code
def yX5_currentCuts : MethodName := ⟨RX5, "currentCuts", "()LSpeechCleaner$CutList;"⟩
abbrev cX5_currentResult : ByteArray := prog_1_method_32_code
def yX5_currentResult : MethodName := ⟨RX5, "currentResult", "()LSpeechCleaner$Result;"⟩
def RX6 : String := "SpeechCleanerModel"
def TX6 : u_T := fun k => match k with
  | 0 => ("SpeechCleanerModel", "v", "[I", true)
  | 1 => ("SpeechCleanerModel", "past", "[I", true)
  | 2 => ("SpeechCleanerModel", "pastMany", "I", false)
  | 3 => ("SpeechCleanerModel", "text", "[I", true)
  | 4 => ("SpeechCleanerModel", "typed", "I", false)
  | 5 => ("SpeechCleanerModel", "at", "I", false)
  | 6 => ("SpeechCleanerModel", "wrong", "I", false)
  | 7 => ("SpeechCleanerModel", "frameMany", "I", false)
  | 8 => ("SpeechCleanerModel", "markMany", "I", false)
  | 9 => ("SpeechCleanerModel", "levels", "[I", true)
  | 10 => ("SpeechCleanerModel", "marks", "[I", true)
  | 11 => ("SpeechCleanerModel", "cut", "[I", true)
  | 12 => ("SpeechCleanerModel", "cutMany", "I", false)
  | 13 => ("SpeechCleanerModel", "source", "[I", true)
  | 14 => ("SpeechCleanerModel", "heardLevel", "[I", true)
  | 15 => ("SpeechCleanerModel", "heardMany", "I", false)
  | 16 => ("SpeechCleanerModel", "room", "[I", true)
  | 17 => ("SpeechCleanerModel", "roomMany", "I", false)
  | _ => ("SpeechCleanerModel", "taken", "I", false)
def tyX6 : Nat → FieldType := fun k => match k with
  | 0 => .array .int
  | 1 => .array .int
  | 2 => .int
  | 3 => .array .int
  | 4 => .int
  | 5 => .int
  | 6 => .int
  | 7 => .int
  | 8 => .int
  | 9 => .array .int
  | 10 => .array .int
  | 11 => .array .int
  | 12 => .int
  | 13 => .array .int
  | 14 => .array .int
  | 15 => .int
  | 16 => .array .int
  | 17 => .int
  | _ => .int
abbrev wsX60 : List Cond := u_ws RX6 TX6 19
theorem nmX6 : ∀ a, a < 19 → ∀ b, b < 19 → a ≠ b → (TX6 a).2.1 ≠ (TX6 b).2.1 := by decide +kernel
theorem tyX6_ok : ∀ k, k < 19 → parseFieldDescriptor (TX6 k).2.2.1 = some (tyX6 k) := by decide +kernel
abbrev cX6_init : ByteArray := prog_8_method_1_code
def yX6_init : MethodName := ⟨RX6, "<init>", "()V"⟩
abbrev cX6_in : ByteArray := prog_8_method_2_code
def yX6_in : MethodName := ⟨RX6, "in", "(III)Z"⟩
abbrev cX6_act : ByteArray := prog_8_method_3_code
def yX6_act : MethodName := ⟨RX6, "act", "()V"⟩
abbrev cX6_levelAt : ByteArray := prog_8_method_4_code
def yX6_levelAt : MethodName := ⟨RX6, "levelAt", "(I)I"⟩
abbrev cX6_isQuiet : ByteArray := prog_8_method_5_code
def yX6_isQuiet : MethodName := ⟨RX6, "isQuiet", "(I)Z"⟩
abbrev cX6_of : ByteArray := prog_8_method_6_code
def yX6_of : MethodName := ⟨RX6, "of", "(II)I"⟩
abbrev cX6_isMark : ByteArray := prog_8_method_7_code
def yX6_isMark : MethodName := ⟨RX6, "isMark", "(I)Z"⟩
abbrev cX6_type : ByteArray := prog_8_method_8_code
def yX6_type : MethodName := ⟨RX6, "type", "(I)I"⟩
abbrev cX6_clear : ByteArray := prog_8_method_9_code
def yX6_clear : MethodName := ⟨RX6, "clear", "()I"⟩
abbrev cX6_sign : ByteArray := prog_8_method_10_code
def yX6_sign : MethodName := ⟨RX6, "sign", "()I"⟩
abbrev cX6_isDigit : ByteArray := prog_8_method_11_code
def yX6_isDigit : MethodName := ⟨RX6, "isDigit", "()Z"⟩
abbrev cX6_takesFrames : ByteArray := prog_8_method_12_code
def yX6_takesFrames : MethodName := ⟨RX6, "takesFrames", "()V"⟩
abbrev cX6_doubt : ByteArray := prog_8_method_13_code
def yX6_doubt : MethodName := ⟨RX6, "doubt", "()Z"⟩
abbrev cX6_takes : ByteArray := prog_8_method_14_code
def yX6_takes : MethodName := ⟨RX6, "takes", "(I)Z"⟩
abbrev cX6_readsMark : ByteArray := prog_8_method_15_code
def yX6_readsMark : MethodName := ⟨RX6, "readsMark", "()Z"⟩
abbrev cX6_wrongAt : ByteArray := prog_8_method_16_code
def yX6_wrongAt : MethodName := ⟨RX6, "wrongAt", "()I"⟩
abbrev cX6_read : ByteArray := prog_8_method_17_code
def yX6_read : MethodName := ⟨RX6, "read", "()I"⟩
abbrev cX6_append : ByteArray := prog_8_method_18_code
def yX6_append : MethodName := ⟨RX6, "append", "(II)I"⟩
abbrev cX6_babble : ByteArray := prog_8_method_19_code
def yX6_babble : MethodName := ⟨RX6, "babble", "(II)I"⟩
abbrev cX6_mark : ByteArray := prog_8_method_20_code
def yX6_mark : MethodName := ⟨RX6, "mark", "(IIII)I"⟩
abbrev cX6_unmark : ByteArray := prog_8_method_21_code
def yX6_unmark : MethodName := ⟨RX6, "unmark", "(I)I"⟩
abbrev cX6_sets : ByteArray := prog_8_method_22_code
def yX6_sets : MethodName := ⟨RX6, "sets", "(II)I"⟩
abbrev cX6_hold : ByteArray := prog_8_method_23_code
def yX6_hold : MethodName := ⟨RX6, "hold", "(IZ)I"⟩
abbrev cX6_most : ByteArray := prog_8_method_24_code
def yX6_most : MethodName := ⟨RX6, "most", "(I)I"⟩
abbrev cX6_set : ByteArray := prog_8_method_25_code
def yX6_set : MethodName := ⟨RX6, "set", "(II)I"⟩
abbrev cX6_setting : ByteArray := prog_8_method_26_code
def yX6_setting : MethodName := ⟨RX6, "setting", "(I)I"⟩
abbrev cX6_level : ByteArray := prog_8_method_27_code
def yX6_level : MethodName := ⟨RX6, "level", "(I)I"⟩
abbrev cX6_seam : ByteArray := prog_8_method_28_code
def yX6_seam : MethodName := ⟨RX6, "seam", "(III)I"⟩
abbrev cX6_lays : ByteArray := prog_8_method_29_code
def yX6_lays : MethodName := ⟨RX6, "lays", "(IIIII)V"⟩
abbrev cX6_fills : ByteArray := prog_8_method_30_code
def yX6_fills : MethodName := ⟨RX6, "fills", "(I)V"⟩
abbrev cX6_finds : ByteArray := prog_8_method_31_code
def yX6_finds : MethodName := ⟨RX6, "finds", "()V"⟩
abbrev cX6_cutOf : ByteArray := prog_8_method_32_code
def yX6_cutOf : MethodName := ⟨RX6, "cutOf", "(I)I"⟩
abbrev cX6_told : ByteArray := prog_8_method_33_code
def yX6_told : MethodName := ⟨RX6, "told", "(II)I"⟩
abbrev cX6_about : ByteArray := prog_8_method_34_code
def yX6_about : MethodName := ⟨RX6, "about", "(II)I"⟩
abbrev cX6_cuts : ByteArray := prog_8_method_35_code
def yX6_cuts : MethodName := ⟨RX6, "cuts", "()I"⟩
abbrev cX6_cut : ByteArray := prog_8_method_36_code
def yX6_cut : MethodName := ⟨RX6, "cut", "(II)I"⟩
abbrev cX6_sumOf : ByteArray := prog_8_method_37_code
def yX6_sumOf : MethodName := ⟨RX6, "sumOf", "(I)I"⟩
abbrev cX6_sum : ByteArray := prog_8_method_38_code
def yX6_sum : MethodName := ⟨RX6, "sum", "(I)I"⟩
abbrev cX6_bestWindow : ByteArray := prog_8_method_39_code
def yX6_bestWindow : MethodName := ⟨RX6, "bestWindow", "()I"⟩
abbrev cX6_greatestDoubt : ByteArray := prog_8_method_40_code
def yX6_greatestDoubt : MethodName := ⟨RX6, "greatestDoubt", "(I)I"⟩
abbrev cX6_hears : ByteArray := prog_8_method_41_code
def yX6_hears : MethodName := ⟨RX6, "hears", "(II)V"⟩
abbrev cX6_pauses : ByteArray := prog_8_method_42_code
def yX6_pauses : MethodName := ⟨RX6, "pauses", "(I)V"⟩
abbrev cX6_isNoise : ByteArray := prog_8_method_43_code
def yX6_isNoise : MethodName := ⟨RX6, "isNoise", "(I)Z"⟩
abbrev cX6_plays : ByteArray := prog_8_method_44_code
def yX6_plays : MethodName := ⟨RX6, "plays", "()V"⟩
abbrev cX6_length : ByteArray := prog_8_method_45_code
def yX6_length : MethodName := ⟨RX6, "length", "()I"⟩
abbrev cX6_heard : ByteArray := prog_8_method_46_code
def yX6_heard : MethodName := ⟨RX6, "heard", "(II)I"⟩
abbrev cX6_where : ByteArray := prog_8_method_47_code
def yX6_where : MethodName := ⟨RX6, "where", "(I)I"⟩
abbrev cX6_clicks : ByteArray := prog_8_method_48_code
def yX6_clicks : MethodName := ⟨RX6, "clicks", "(I)I"⟩
abbrev cX6_loudness : ByteArray := prog_8_method_49_code
def yX6_loudness : MethodName := ⟨RX6, "loudness", "()F"⟩
abbrev cX6_share : ByteArray := prog_8_method_50_code
def yX6_share : MethodName := ⟨RX6, "share", "()F"⟩
abbrev cX6_silence : ByteArray := prog_8_method_51_code
def yX6_silence : MethodName := ⟨RX6, "silence", "()I"⟩
abbrev cX6_undo : ByteArray := prog_8_method_52_code
def yX6_undo : MethodName := ⟨RX6, "undo", "()I"⟩
abbrev cX6_fingerprint : ByteArray := prog_8_method_53_code
def yX6_fingerprint : MethodName := ⟨RX6, "fingerprint", "()J"⟩
def RJ9 : String := "java/lang/Math"
def TJ9 : u_T := fun k => match k with
  | _ => ("", "", "", false)
def tyJ9 : Nat → FieldType := fun k => match k with
  | _ => .int
abbrev wsJ90 : List Cond := u_ws RJ9 TJ9 0
theorem nmJ9 : ∀ a, a < 0 → ∀ b, b < 0 → a ≠ b → (TJ9 a).2.1 ≠ (TJ9 b).2.1 := by decide +kernel
theorem tyJ9_ok : ∀ k, k < 0 → parseFieldDescriptor (TJ9 k).2.2.1 = some (tyJ9 k) := by decide +kernel
abbrev cJ9_abs_0f7a4 : ByteArray := prog_9_method_59_code
def yJ9_abs_0f7a4 : MethodName := ⟨RJ9, "abs", "(I)I"⟩
abbrev cJ9_max_7cf53 : ByteArray := prog_9_method_65_code
def yJ9_max_7cf53 : MethodName := ⟨RJ9, "max", "(II)I"⟩
abbrev cJ9_min_7cf53 : ByteArray := prog_9_method_69_code
def yJ9_min_7cf53 : MethodName := ⟨RJ9, "min", "(II)I"⟩
def RJ10 : String := "java/lang/System"
def TJ10 : u_T := fun k => match k with
  | _ => ("", "", "", false)
def tyJ10 : Nat → FieldType := fun k => match k with
  | _ => .int
abbrev wsJ100 : List Cond := u_ws RJ10 TJ10 0
theorem nmJ10 : ∀ a, a < 0 → ∀ b, b < 0 → a ≠ b → (TJ10 a).2.1 ≠ (TJ10 b).2.1 := by decide +kernel
theorem tyJ10_ok : ∀ k, k < 0 → parseFieldDescriptor (TJ10 k).2.2.1 = some (tyJ10 k) := by decide +kernel
def RL : String := "SpeechCleanerLaw"
abbrev cL_law : ByteArray := code
def yL_law : MethodName := ⟨RL, "law", "([I)Z"⟩
/-- the words that every contract here stands on: the tables' own, and 'selects' of the private methods -/
def z_ws : List Cond := lw_tbl.filter goodWord
theorem z_ws_t (i : Nat) {w : Cond} (h : tables_1[i]? = some w) (hg : goodWord w = true) : w ∈ z_ws := List.mem_filter.mpr ⟨List.mem_append_right _ (List.mem_of_getElem? h), hg⟩
theorem z_ws_p (i : Nat) {w : Cond} (h : (k2_sels lw_privs)[i]? = some w) (hg : goodWord w = true) : w ∈ z_ws := List.mem_filter.mpr ⟨List.mem_append_left _ (List.mem_of_getElem? h), hg⟩
theorem z_ws_good {ws : List Cond} (h : ∀ w ∈ ws, w ∈ z_ws) {y : MethodName} {c : ByteArray} {n : Nat} {r : Option FieldType} : GoodIn (.code y c n r :: z_ws) ws := fun w hw => ⟨List.mem_cons_of_mem _ (h w hw), good_of_word (List.mem_filter.mp (h w hw)).2⟩
theorem z_ws_in {ws : List Cond} (h : ∀ w ∈ ws, w ∈ lw_tbl) (hg : ws.all goodWord = true) : ∀ w ∈ ws, w ∈ z_ws := fun w hw => List.mem_filter.mpr ⟨h w hw, List.all_eq_true.mp hg w hw⟩

theorem z_inX0 : ∀ w ∈ u_ws RX0 TX0 6, w ∈ z_ws := z_ws_in (by decide +kernel) (by decide +kernel)
theorem z_inX1 : ∀ w ∈ u_ws RX1 TX1 2, w ∈ z_ws := z_ws_in (by decide +kernel) (by decide +kernel)
theorem z_inX2 : ∀ w ∈ u_ws RX2 TX2 9, w ∈ z_ws := z_ws_in (by decide +kernel) (by decide +kernel)
theorem z_inX3 : ∀ w ∈ u_ws RX3 TX3 7, w ∈ z_ws := z_ws_in (by decide +kernel) (by decide +kernel)
theorem z_inX4 : ∀ w ∈ u_ws RX4 TX4 7, w ∈ z_ws := z_ws_in (by decide +kernel) (by decide +kernel)
theorem z_inX5 : ∀ w ∈ u_ws RX5 TX5 7, w ∈ z_ws := z_ws_in (by decide +kernel) (by decide +kernel)
theorem z_inX6 : ∀ w ∈ u_ws RX6 TX6 19, w ∈ z_ws := z_ws_in (by decide +kernel) (by decide +kernel)
