section
/-! THE METHODS AS FUNCTIONS OF NUMBERS. zS: what the cells hold, by the cell's place and the index in it; zr: the range of an int. -/
abbrev zS : Type := Nat → Int → Int
abbrev zr (z : Int) : Prop := -2147483648 ≤ z ∧ z < 2147483648
def z_up (σ : zS) (k : Nat) (i v : Int) : zS := fun a b => if a = k ∧ b = i then v else σ a b
def z_put {α : Type} (σ : zS) (k : Nat) (i v : Int) (K : zS → Option α) : Option α := K (z_up σ k i v)
def z_bind {α β : Type} (o : Option (α × zS)) (K : α → zS → Option β) : Option β := match o with
  | some (a, s) => K a s
  | none => none
/-- an int shifted right by n without its sign -/
def z_ushr (x : Int) (n : Nat) : Int := (x % 4294967296) / (2 ^ n : Nat)
/-- n values of a row to another -/
def z_cpy (σ : zS) (k1 : Nat) (i1 : Int) (k2 : Nat) (i2 n : Int) : zS := fun a b => if a = k2 ∧ i2 ≤ b ∧ b < i2 + n then σ k1 (i1 + (b - i2)) else σ a b
def z_copy {α : Type} (σ : zS) (k1 : Nat) (i1 : Int) (k2 : Nat) (i2 n : Int) (K : zS → Option α) : Option α := K (z_cpy σ k1 i1 k2 i2 n)
/-- the turns that a loop is given: more than any takes -/
def z_fuel : Nat := 100000
theorem z_bind_some {α β : Type} {o : Option (α × zS)} {K : α → zS → Option β} {r : β} (h : z_bind o K = some r) : ∃ a s, o = some (a, s) ∧ K a s = some r := by
  match o, h with
  | some (a, s), h => exact ⟨a, s, rfl, h⟩
theorem z_if {α : Type} {g c : Prop} [Decidable g] [Decidable c] {A B : Option α} {r : α} (h : (if g then (if c then A else B) else none) = some r) : g ∧ ((c ∧ A = some r) ∨ (¬ c ∧ B = some r)) := by
  by_cases hg : g
  · rw [if_pos hg] at h
    by_cases hc : c
    · rw [if_pos hc] at h; exact ⟨hg, Or.inl ⟨hc, h⟩⟩
    · rw [if_neg hc] at h; exact ⟨hg, Or.inr ⟨hc, h⟩⟩
  · rw [if_neg hg] at h; cases h
theorem z_gd {α : Type} {g : Prop} [Decidable g] {A : Option α} {r : α} (h : (if g then A else none) = some r) : g ∧ A = some r := by
  by_cases hg : g
  · rw [if_pos hg] at h; exact ⟨hg, h⟩
  · rw [if_neg hg] at h; cases h
end
section
-- ===== PART A: goes FIRST, ahead of the names: the tables' words, and 'selects' of the private methods out of them =====
/-- a private method of a class that the tables say can be made, by its rows of tables_1 -/
def lw_okq (q : MethodName × Nat) : Prop := (q.1.cls ≠ "java/lang/invoke/MethodHandle" ∧ q.1.cls ≠ "java/lang/invoke/VarHandle") ∧ Cond.instantiable q.1.cls q.2 ∈ tables_1 ∧ Cond.privateMethod q.1 ∈ tables_1 ∧ Cond.instanceMethod q.1 ∈ tables_1
theorem lw_p0 : lw_okq (⟨"SpeechCleaner", "currentCuts", "()LSpeechCleaner$CutList;"⟩, 7) := ⟨⟨by decide +kernel, by decide +kernel⟩, List.mem_of_getElem? (i := 11) (by decide +kernel), List.mem_of_getElem? (i := 336) (by decide +kernel), List.mem_of_getElem? (i := 337) (by decide +kernel)⟩
theorem lw_p1 : lw_okq (⟨"SpeechCleaner", "currentResult", "()LSpeechCleaner$Result;"⟩, 7) := ⟨⟨by decide +kernel, by decide +kernel⟩, List.mem_of_getElem? (i := 11) (by decide +kernel), List.mem_of_getElem? (i := 447) (by decide +kernel), List.mem_of_getElem? (i := 448) (by decide +kernel)⟩
theorem lw_p2 : lw_okq (⟨"SpeechCleaner", "withMarks", "(JLSpeechCleaner$CutList;)J"⟩, 7) := ⟨⟨by decide +kernel, by decide +kernel⟩, List.mem_of_getElem? (i := 11) (by decide +kernel), List.mem_of_getElem? (i := 540) (by decide +kernel), List.mem_of_getElem? (i := 541) (by decide +kernel)⟩
theorem lw_p3 : lw_okq (⟨"SpeechCleaner", "withCuts", "(JLSpeechCleaner$CutList;)J"⟩, 7) := ⟨⟨by decide +kernel, by decide +kernel⟩, List.mem_of_getElem? (i := 11) (by decide +kernel), List.mem_of_getElem? (i := 544) (by decide +kernel), List.mem_of_getElem? (i := 545) (by decide +kernel)⟩
theorem lw_p4 : lw_okq (⟨"SpeechCleaner", "withResult", "(JLSpeechCleaner$Result;)J"⟩, 7) := ⟨⟨by decide +kernel, by decide +kernel⟩, List.mem_of_getElem? (i := 11) (by decide +kernel), List.mem_of_getElem? (i := 548) (by decide +kernel), List.mem_of_getElem? (i := 549) (by decide +kernel)⟩
theorem lw_p5 : lw_okq (⟨"SpeechCleanerModel", "wrongAt", "()I"⟩, 19) := ⟨⟨by decide +kernel, by decide +kernel⟩, List.mem_of_getElem? (i := 552) (by decide +kernel), List.mem_of_getElem? (i := 631) (by decide +kernel), List.mem_of_getElem? (i := 632) (by decide +kernel)⟩
theorem lw_p6 : lw_okq (⟨"SpeechCleanerModel", "isDigit", "()Z"⟩, 19) := ⟨⟨by decide +kernel, by decide +kernel⟩, List.mem_of_getElem? (i := 552) (by decide +kernel), List.mem_of_getElem? (i := 635) (by decide +kernel), List.mem_of_getElem? (i := 636) (by decide +kernel)⟩
theorem lw_p7 : lw_okq (⟨"SpeechCleanerModel", "sign", "()I"⟩, 19) := ⟨⟨by decide +kernel, by decide +kernel⟩, List.mem_of_getElem? (i := 552) (by decide +kernel), List.mem_of_getElem? (i := 639) (by decide +kernel), List.mem_of_getElem? (i := 640) (by decide +kernel)⟩
theorem lw_p8 : lw_okq (⟨"SpeechCleanerModel", "takesFrames", "()V"⟩, 19) := ⟨⟨by decide +kernel, by decide +kernel⟩, List.mem_of_getElem? (i := 552) (by decide +kernel), List.mem_of_getElem? (i := 643) (by decide +kernel), List.mem_of_getElem? (i := 644) (by decide +kernel)⟩
theorem lw_p9 : lw_okq (⟨"SpeechCleanerModel", "readsMark", "()Z"⟩, 19) := ⟨⟨by decide +kernel, by decide +kernel⟩, List.mem_of_getElem? (i := 552) (by decide +kernel), List.mem_of_getElem? (i := 647) (by decide +kernel), List.mem_of_getElem? (i := 648) (by decide +kernel)⟩
theorem lw_p10 : lw_okq (⟨"SpeechCleanerModel", "doubt", "()Z"⟩, 19) := ⟨⟨by decide +kernel, by decide +kernel⟩, List.mem_of_getElem? (i := 552) (by decide +kernel), List.mem_of_getElem? (i := 651) (by decide +kernel), List.mem_of_getElem? (i := 652) (by decide +kernel)⟩
theorem lw_p11 : lw_okq (⟨"SpeechCleanerModel", "takes", "(I)Z"⟩, 19) := ⟨⟨by decide +kernel, by decide +kernel⟩, List.mem_of_getElem? (i := 552) (by decide +kernel), List.mem_of_getElem? (i := 655) (by decide +kernel), List.mem_of_getElem? (i := 656) (by decide +kernel)⟩
theorem lw_p12 : lw_okq (⟨"SpeechCleanerModel", "act", "()V"⟩, 19) := ⟨⟨by decide +kernel, by decide +kernel⟩, List.mem_of_getElem? (i := 552) (by decide +kernel), List.mem_of_getElem? (i := 659) (by decide +kernel), List.mem_of_getElem? (i := 660) (by decide +kernel)⟩
theorem lw_p13 : lw_okq (⟨"SpeechCleanerModel", "of", "(II)I"⟩, 19) := ⟨⟨by decide +kernel, by decide +kernel⟩, List.mem_of_getElem? (i := 552) (by decide +kernel), List.mem_of_getElem? (i := 676) (by decide +kernel), List.mem_of_getElem? (i := 677) (by decide +kernel)⟩
theorem lw_p14 : lw_okq (⟨"SpeechCleanerModel", "isMark", "(I)Z"⟩, 19) := ⟨⟨by decide +kernel, by decide +kernel⟩, List.mem_of_getElem? (i := 552) (by decide +kernel), List.mem_of_getElem? (i := 684) (by decide +kernel), List.mem_of_getElem? (i := 685) (by decide +kernel)⟩
theorem lw_p15 : lw_okq (⟨"SpeechCleanerModel", "sets", "(II)I"⟩, 19) := ⟨⟨by decide +kernel, by decide +kernel⟩, List.mem_of_getElem? (i := 552) (by decide +kernel), List.mem_of_getElem? (i := 692) (by decide +kernel), List.mem_of_getElem? (i := 693) (by decide +kernel)⟩
def lw_privs_1 : List (MethodName × Nat) := [(⟨"SpeechCleaner", "currentCuts", "()LSpeechCleaner$CutList;"⟩, 7), (⟨"SpeechCleaner", "currentResult", "()LSpeechCleaner$Result;"⟩, 7), (⟨"SpeechCleaner", "withMarks", "(JLSpeechCleaner$CutList;)J"⟩, 7), (⟨"SpeechCleaner", "withCuts", "(JLSpeechCleaner$CutList;)J"⟩, 7), (⟨"SpeechCleaner", "withResult", "(JLSpeechCleaner$Result;)J"⟩, 7), (⟨"SpeechCleanerModel", "wrongAt", "()I"⟩, 19), (⟨"SpeechCleanerModel", "isDigit", "()Z"⟩, 19), (⟨"SpeechCleanerModel", "sign", "()I"⟩, 19), (⟨"SpeechCleanerModel", "takesFrames", "()V"⟩, 19), (⟨"SpeechCleanerModel", "readsMark", "()Z"⟩, 19), (⟨"SpeechCleanerModel", "doubt", "()Z"⟩, 19), (⟨"SpeechCleanerModel", "takes", "(I)Z"⟩, 19), (⟨"SpeechCleanerModel", "act", "()V"⟩, 19), (⟨"SpeechCleanerModel", "of", "(II)I"⟩, 19), (⟨"SpeechCleanerModel", "isMark", "(I)Z"⟩, 19), (⟨"SpeechCleanerModel", "sets", "(II)I"⟩, 19)]
theorem lw_r1 : ∀ q ∈ lw_privs_1, lw_okq q := List.forall_mem_cons.mpr ⟨lw_p0, List.forall_mem_cons.mpr ⟨lw_p1, List.forall_mem_cons.mpr ⟨lw_p2, List.forall_mem_cons.mpr ⟨lw_p3, List.forall_mem_cons.mpr ⟨lw_p4, List.forall_mem_cons.mpr ⟨lw_p5, List.forall_mem_cons.mpr ⟨lw_p6, List.forall_mem_cons.mpr ⟨lw_p7, List.forall_mem_cons.mpr ⟨lw_p8, List.forall_mem_cons.mpr ⟨lw_p9, List.forall_mem_cons.mpr ⟨lw_p10, List.forall_mem_cons.mpr ⟨lw_p11, List.forall_mem_cons.mpr ⟨lw_p12, List.forall_mem_cons.mpr ⟨lw_p13, List.forall_mem_cons.mpr ⟨lw_p14, List.forall_mem_cons.mpr ⟨lw_p15, fun _ h => absurd h List.not_mem_nil⟩⟩⟩⟩⟩⟩⟩⟩⟩⟩⟩⟩⟩⟩⟩⟩
theorem lw_p16 : lw_okq (⟨"SpeechCleanerModel", "finds", "()V"⟩, 19) := ⟨⟨by decide +kernel, by decide +kernel⟩, List.mem_of_getElem? (i := 552) (by decide +kernel), List.mem_of_getElem? (i := 715) (by decide +kernel), List.mem_of_getElem? (i := 716) (by decide +kernel)⟩
theorem lw_p17 : lw_okq (⟨"SpeechCleanerModel", "fills", "(I)V"⟩, 19) := ⟨⟨by decide +kernel, by decide +kernel⟩, List.mem_of_getElem? (i := 552) (by decide +kernel), List.mem_of_getElem? (i := 719) (by decide +kernel), List.mem_of_getElem? (i := 720) (by decide +kernel)⟩
theorem lw_p18 : lw_okq (⟨"SpeechCleanerModel", "seam", "(III)I"⟩, 19) := ⟨⟨by decide +kernel, by decide +kernel⟩, List.mem_of_getElem? (i := 552) (by decide +kernel), List.mem_of_getElem? (i := 723) (by decide +kernel), List.mem_of_getElem? (i := 724) (by decide +kernel)⟩
theorem lw_p19 : lw_okq (⟨"SpeechCleanerModel", "isQuiet", "(I)Z"⟩, 19) := ⟨⟨by decide +kernel, by decide +kernel⟩, List.mem_of_getElem? (i := 552) (by decide +kernel), List.mem_of_getElem? (i := 727) (by decide +kernel), List.mem_of_getElem? (i := 728) (by decide +kernel)⟩
theorem lw_p20 : lw_okq (⟨"SpeechCleanerModel", "levelAt", "(I)I"⟩, 19) := ⟨⟨by decide +kernel, by decide +kernel⟩, List.mem_of_getElem? (i := 552) (by decide +kernel), List.mem_of_getElem? (i := 731) (by decide +kernel), List.mem_of_getElem? (i := 732) (by decide +kernel)⟩
theorem lw_p21 : lw_okq (⟨"SpeechCleanerModel", "lays", "(IIIII)V"⟩, 19) := ⟨⟨by decide +kernel, by decide +kernel⟩, List.mem_of_getElem? (i := 552) (by decide +kernel), List.mem_of_getElem? (i := 735) (by decide +kernel), List.mem_of_getElem? (i := 736) (by decide +kernel)⟩
theorem lw_p22 : lw_okq (⟨"SpeechCleanerModel", "told", "(II)I"⟩, 19) := ⟨⟨by decide +kernel, by decide +kernel⟩, List.mem_of_getElem? (i := 552) (by decide +kernel), List.mem_of_getElem? (i := 739) (by decide +kernel), List.mem_of_getElem? (i := 740) (by decide +kernel)⟩
theorem lw_p23 : lw_okq (⟨"SpeechCleanerModel", "cutOf", "(I)I"⟩, 19) := ⟨⟨by decide +kernel, by decide +kernel⟩, List.mem_of_getElem? (i := 552) (by decide +kernel), List.mem_of_getElem? (i := 743) (by decide +kernel), List.mem_of_getElem? (i := 744) (by decide +kernel)⟩
theorem lw_p24 : lw_okq (⟨"SpeechCleanerModel", "sumOf", "(I)I"⟩, 19) := ⟨⟨by decide +kernel, by decide +kernel⟩, List.mem_of_getElem? (i := 552) (by decide +kernel), List.mem_of_getElem? (i := 759) (by decide +kernel), List.mem_of_getElem? (i := 760) (by decide +kernel)⟩
theorem lw_p25 : lw_okq (⟨"SpeechCleanerModel", "plays", "()V"⟩, 19) := ⟨⟨by decide +kernel, by decide +kernel⟩, List.mem_of_getElem? (i := 552) (by decide +kernel), List.mem_of_getElem? (i := 775) (by decide +kernel), List.mem_of_getElem? (i := 776) (by decide +kernel)⟩
theorem lw_p26 : lw_okq (⟨"SpeechCleanerModel", "isNoise", "(I)Z"⟩, 19) := ⟨⟨by decide +kernel, by decide +kernel⟩, List.mem_of_getElem? (i := 552) (by decide +kernel), List.mem_of_getElem? (i := 779) (by decide +kernel), List.mem_of_getElem? (i := 780) (by decide +kernel)⟩
theorem lw_p27 : lw_okq (⟨"SpeechCleanerModel", "hears", "(II)V"⟩, 19) := ⟨⟨by decide +kernel, by decide +kernel⟩, List.mem_of_getElem? (i := 552) (by decide +kernel), List.mem_of_getElem? (i := 783) (by decide +kernel), List.mem_of_getElem? (i := 784) (by decide +kernel)⟩
theorem lw_p28 : lw_okq (⟨"SpeechCleanerModel", "pauses", "(I)V"⟩, 19) := ⟨⟨by decide +kernel, by decide +kernel⟩, List.mem_of_getElem? (i := 552) (by decide +kernel), List.mem_of_getElem? (i := 787) (by decide +kernel), List.mem_of_getElem? (i := 788) (by decide +kernel)⟩
def lw_privs_2 : List (MethodName × Nat) := [(⟨"SpeechCleanerModel", "finds", "()V"⟩, 19), (⟨"SpeechCleanerModel", "fills", "(I)V"⟩, 19), (⟨"SpeechCleanerModel", "seam", "(III)I"⟩, 19), (⟨"SpeechCleanerModel", "isQuiet", "(I)Z"⟩, 19), (⟨"SpeechCleanerModel", "levelAt", "(I)I"⟩, 19), (⟨"SpeechCleanerModel", "lays", "(IIIII)V"⟩, 19), (⟨"SpeechCleanerModel", "told", "(II)I"⟩, 19), (⟨"SpeechCleanerModel", "cutOf", "(I)I"⟩, 19), (⟨"SpeechCleanerModel", "sumOf", "(I)I"⟩, 19), (⟨"SpeechCleanerModel", "plays", "()V"⟩, 19), (⟨"SpeechCleanerModel", "isNoise", "(I)Z"⟩, 19), (⟨"SpeechCleanerModel", "hears", "(II)V"⟩, 19), (⟨"SpeechCleanerModel", "pauses", "(I)V"⟩, 19)]
theorem lw_r2 : ∀ q ∈ lw_privs_2, lw_okq q := List.forall_mem_cons.mpr ⟨lw_p16, List.forall_mem_cons.mpr ⟨lw_p17, List.forall_mem_cons.mpr ⟨lw_p18, List.forall_mem_cons.mpr ⟨lw_p19, List.forall_mem_cons.mpr ⟨lw_p20, List.forall_mem_cons.mpr ⟨lw_p21, List.forall_mem_cons.mpr ⟨lw_p22, List.forall_mem_cons.mpr ⟨lw_p23, List.forall_mem_cons.mpr ⟨lw_p24, List.forall_mem_cons.mpr ⟨lw_p25, List.forall_mem_cons.mpr ⟨lw_p26, List.forall_mem_cons.mpr ⟨lw_p27, List.forall_mem_cons.mpr ⟨lw_p28, fun _ h => absurd h List.not_mem_nil⟩⟩⟩⟩⟩⟩⟩⟩⟩⟩⟩⟩⟩
def lw_privs : List (MethodName × Nat) := lw_privs_1 ++ (lw_privs_2)
def lw_tbl : List Cond := k2_sels lw_privs ++ tables_1
theorem lw_privs_ok : ∀ q ∈ lw_privs, lw_okq q := by
  show ∀ q ∈ lw_privs_1 ++ (lw_privs_2), lw_okq q
  exact List.forall_mem_append.mpr ⟨lw_r1, lw_r2⟩
/-- the streams that the claim lets the run draw from -/
abbrev lw_cs : List Choice := [Jvm.Choice.named "NaN.bits"]
theorem lw_bits : nanBits ∈ lw_cs := by first | decide | exact List.mem_cons_self | simp [lw_cs, nanBits]

def RX0 : String := "SpeechCleaner$CutList"
def TX0 : u_T := fun k => match k with
  | 0 => ("SpeechCleaner$CutList", "begins", "[I", true)
  | 1 => ("SpeechCleaner$CutList", "ends", "[I", true)
  | 2 => ("SpeechCleaner$CutList", "pauses", "[I", true)
  | 3 => ("SpeechCleaner$CutList", "rough", "[Z", true)
  | 4 => ("SpeechCleaner$CutList", "markNumbers", "[I", true)
  | _ => ("SpeechCleaner$CutList", "count", "I", false)
def tyX0 : Nat → FieldType := fun k => match k with
  | 0 => .array .int
  | 1 => .array .int
  | 2 => .array .int
  | 3 => .array .boolean
  | 4 => .array .int
  | _ => .int
abbrev wsX00 : List Cond := u_ws RX0 TX0 6
theorem nmX0 : ∀ a, a < 6 → ∀ b, b < 6 → a ≠ b → (TX0 a).2.1 ≠ (TX0 b).2.1 := by decide +kernel
theorem tyX0_ok : ∀ k, k < 6 → parseFieldDescriptor (TX0 k).2.2.1 = some (tyX0 k) := by decide +kernel
abbrev cX0_init : ByteArray := prog_2_method_1_code
def yX0_init : MethodName := ⟨RX0, "<init>", "()V"⟩
abbrev cX0_find : ByteArray := prog_2_method_2_code
def yX0_find : MethodName := ⟨RX0, "find", "(LSpeechCleaner$Recording;II)V"⟩
abbrev cX0_addFillerCut : ByteArray := prog_2_method_3_code
def yX0_addFillerCut : MethodName := ⟨RX0, "addFillerCut", "(LSpeechCleaner$Recording;II)V"⟩
abbrev cX0_addBreathCut : ByteArray := prog_2_method_4_code
def yX0_addBreathCut : MethodName := ⟨RX0, "addBreathCut", "(LSpeechCleaner$Recording;I)V"⟩
abbrev cX0_addCut : ByteArray := prog_2_method_5_code
def yX0_addCut : MethodName := ⟨RX0, "addCut", "(IIIZI)V"⟩
abbrev cX0_endOfLastCut : ByteArray := prog_2_method_6_code
def yX0_endOfLastCut : MethodName := ⟨RX0, "endOfLastCut", "()I"⟩
abbrev cX0_cutOfMark : ByteArray := prog_2_method_7_code
def yX0_cutOfMark : MethodName := ⟨RX0, "cutOfMark", "(I)I"⟩
abbrev cX0_numberOfCut : ByteArray := prog_2_method_8_code
def yX0_numberOfCut : MethodName := ⟨RX0, "numberOfCut", "(II)I"⟩
abbrev cX0_cutFrames : ByteArray := prog_2_method_9_code
def yX0_cutFrames : MethodName := ⟨RX0, "cutFrames", "()I"⟩
abbrev cX0_pauseFrames : ByteArray := prog_2_method_10_code
def yX0_pauseFrames : MethodName := ⟨RX0, "pauseFrames", "()I"⟩
abbrev cX0_roughCuts : ByteArray := prog_2_method_11_code
def yX0_roughCuts : MethodName := ⟨RX0, "roughCuts", "()I"⟩
def RX1 : String := "SpeechCleaner$History"
def TX1 : u_T := fun k => match k with
  | 0 => ("SpeechCleaner$History", "states", "[LSpeechCleaner$Recording;", true)
  | _ => ("SpeechCleaner$History", "count", "I", false)
def tyX1 : Nat → FieldType := fun k => match k with
  | 0 => .array (.object "SpeechCleaner$Recording")
  | _ => .int
abbrev wsX10 : List Cond := u_ws RX1 TX1 2
theorem nmX1 : ∀ a, a < 2 → ∀ b, b < 2 → a ≠ b → (TX1 a).2.1 ≠ (TX1 b).2.1 := by decide +kernel
theorem tyX1_ok : ∀ k, k < 2 → parseFieldDescriptor (TX1 k).2.2.1 = some (tyX1 k) := by decide +kernel
abbrev cX1_init : ByteArray := prog_3_method_1_code
def yX1_init : MethodName := ⟨RX1, "<init>", "()V"⟩
abbrev cX1_keep : ByteArray := prog_3_method_2_code
def yX1_keep : MethodName := ⟨RX1, "keep", "(LSpeechCleaner$Recording;)V"⟩
abbrev cX1_dropOldest : ByteArray := prog_3_method_3_code
def yX1_dropOldest : MethodName := ⟨RX1, "dropOldest", "()V"⟩
abbrev cX1_restoreLatest : ByteArray := prog_3_method_4_code
def yX1_restoreLatest : MethodName := ⟨RX1, "restoreLatest", "(LSpeechCleaner$Recording;)V"⟩
def RX2 : String := "SpeechCleaner$Recording"
def TX2 : u_T := fun k => match k with
  | 0 => ("SpeechCleaner$Recording", "levels", "[I", true)
  | 1 => ("SpeechCleaner$Recording", "frames", "I", false)
  | 2 => ("SpeechCleaner$Recording", "kinds", "[I", true)
  | 3 => ("SpeechCleaner$Recording", "firsts", "[I", true)
  | 4 => ("SpeechCleaner$Recording", "ends", "[I", true)
  | 5 => ("SpeechCleaner$Recording", "doubts", "[I", true)
  | 6 => ("SpeechCleaner$Recording", "held", "[Z", true)
  | 7 => ("SpeechCleaner$Recording", "marks", "I", false)
  | _ => ("SpeechCleaner$Recording", "settings", "[I", true)
def tyX2 : Nat → FieldType := fun k => match k with
  | 0 => .array .int
  | 1 => .int
  | 2 => .array .int
  | 3 => .array .int
  | 4 => .array .int
  | 5 => .array .int
  | 6 => .array .boolean
  | 7 => .int
  | _ => .array .int
abbrev wsX20 : List Cond := u_ws RX2 TX2 9
theorem nmX2 : ∀ a, a < 9 → ∀ b, b < 9 → a ≠ b → (TX2 a).2.1 ≠ (TX2 b).2.1 := by decide +kernel
theorem tyX2_ok : ∀ k, k < 9 → parseFieldDescriptor (TX2 k).2.2.1 = some (tyX2 k) := by decide +kernel
abbrev cX2_init : ByteArray := prog_4_method_1_code
def yX2_init : MethodName := ⟨RX2, "<init>", "()V"⟩
abbrev cX2_copyAll : ByteArray := prog_4_method_2_code
def yX2_copyAll : MethodName := ⟨RX2, "copyAll", "(LSpeechCleaner$Recording;)V"⟩
abbrev cX2_copySound : ByteArray := prog_4_method_3_code
def yX2_copySound : MethodName := ⟨RX2, "copySound", "(LSpeechCleaner$Recording;)V"⟩
abbrev cX2_removeSound : ByteArray := prog_4_method_4_code
def yX2_removeSound : MethodName := ⟨RX2, "removeSound", "()V"⟩
abbrev cX2_addFrame : ByteArray := prog_4_method_5_code
def yX2_addFrame : MethodName := ⟨RX2, "addFrame", "(I)V"⟩
abbrev cX2_hasFrame : ByteArray := prog_4_method_6_code
def yX2_hasFrame : MethodName := ⟨RX2, "hasFrame", "(I)Z"⟩
abbrev cX2_levelAt : ByteArray := prog_4_method_7_code
def yX2_levelAt : MethodName := ⟨RX2, "levelAt", "(I)I"⟩
abbrev cX2_hasMark : ByteArray := prog_4_method_8_code
def yX2_hasMark : MethodName := ⟨RX2, "hasMark", "(I)Z"⟩
abbrev cX2_overlaps : ByteArray := prog_4_method_9_code
def yX2_overlaps : MethodName := ⟨RX2, "overlaps", "(II)Z"⟩
abbrev cX2_addMark : ByteArray := prog_4_method_10_code
def yX2_addMark : MethodName := ⟨RX2, "addMark", "(IIII)I"⟩
abbrev cX2_removeMark : ByteArray := prog_4_method_11_code
def yX2_removeMark : MethodName := ⟨RX2, "removeMark", "(I)V"⟩
abbrev cX2_copyMark : ByteArray := prog_4_method_12_code
def yX2_copyMark : MethodName := ⟨RX2, "copyMark", "(LSpeechCleaner$Recording;II)V"⟩
abbrev cX2_numberOfMark : ByteArray := prog_4_method_13_code
def yX2_numberOfMark : MethodName := ⟨RX2, "numberOfMark", "(II)I"⟩
abbrev cX2_hasFillerOfDoubt : ByteArray := prog_4_method_14_code
def yX2_hasFillerOfDoubt : MethodName := ⟨RX2, "hasFillerOfDoubt", "(I)Z"⟩
abbrev cX2_endOfMarkBefore : ByteArray := prog_4_method_15_code
def yX2_endOfMarkBefore : MethodName := ⟨RX2, "endOfMarkBefore", "(I)I"⟩
abbrev cX2_firstOfMarkAfter : ByteArray := prog_4_method_16_code
def yX2_firstOfMarkAfter : MethodName := ⟨RX2, "firstOfMarkAfter", "(I)I"⟩
abbrev cX2_nearestQuietSeam : ByteArray := prog_4_method_17_code
def yX2_nearestQuietSeam : MethodName := ⟨RX2, "nearestQuietSeam", "(IIII)I"⟩
abbrev cX2_isQuiet : ByteArray := prog_4_method_18_code
def yX2_isQuiet : MethodName := ⟨RX2, "isQuiet", "(I)Z"⟩
def RX3 : String := "SpeechCleaner$Result"
def TX3 : u_T := fun k => match k with
  | 0 => ("SpeechCleaner$Result", "sources", "[I", true)
  | 1 => ("SpeechCleaner$Result", "levels", "[I", true)
  | 2 => ("SpeechCleaner$Result", "count", "I", false)
  | 3 => ("SpeechCleaner$Result", "room", "[I", true)
  | 4 => ("SpeechCleaner$Result", "roomFrames", "I", false)
  | 5 => ("SpeechCleaner$Result", "roomPlace", "I", false)
  | _ => ("SpeechCleaner$Result", "noisy", "[Z", true)
def tyX3 : Nat → FieldType := fun k => match k with
  | 0 => .array .int
  | 1 => .array .int
  | 2 => .int
  | 3 => .array .int
  | 4 => .int
  | 5 => .int
  | _ => .array .boolean
abbrev wsX30 : List Cond := u_ws RX3 TX3 7
theorem nmX3 : ∀ a, a < 7 → ∀ b, b < 7 → a ≠ b → (TX3 a).2.1 ≠ (TX3 b).2.1 := by decide +kernel
theorem tyX3_ok : ∀ k, k < 7 → parseFieldDescriptor (TX3 k).2.2.1 = some (tyX3 k) := by decide +kernel
abbrev cX3_init : ByteArray := prog_5_method_1_code
def yX3_init : MethodName := ⟨RX3, "<init>", "()V"⟩
abbrev cX3_build : ByteArray := prog_5_method_2_code
def yX3_build : MethodName := ⟨RX3, "build", "(LSpeechCleaner$Recording;LSpeechCleaner$CutList;)V"⟩
abbrev cX3_gatherRoomAndNoise : ByteArray := prog_5_method_3_code
def yX3_gatherRoomAndNoise : MethodName := ⟨RX3, "gatherRoomAndNoise", "(LSpeechCleaner$Recording;)V"⟩
abbrev cX3_gatherFrame : ByteArray := prog_5_method_4_code
def yX3_gatherFrame : MethodName := ⟨RX3, "gatherFrame", "(II)V"⟩
abbrev cX3_addRecorded : ByteArray := prog_5_method_5_code
def yX3_addRecorded : MethodName := ⟨RX3, "addRecorded", "(LSpeechCleaner$Recording;II)V"⟩
abbrev cX3_addPause : ByteArray := prog_5_method_6_code
def yX3_addPause : MethodName := ⟨RX3, "addPause", "(LSpeechCleaner$Recording;I)V"⟩
abbrev cX3_nextRoomFrame : ByteArray := prog_5_method_7_code
def yX3_nextRoomFrame : MethodName := ⟨RX3, "nextRoomFrame", "()I"⟩
abbrev cX3_add : ByteArray := prog_5_method_8_code
def yX3_add : MethodName := ⟨RX3, "add", "(II)V"⟩
abbrev cX3_placeOfSource : ByteArray := prog_5_method_9_code
def yX3_placeOfSource : MethodName := ⟨RX3, "placeOfSource", "(I)I"⟩
abbrev cX3_stepsGreaterThan : ByteArray := prog_5_method_10_code
def yX3_stepsGreaterThan : MethodName := ⟨RX3, "stepsGreaterThan", "(I)I"⟩
abbrev cX3_sumOfLevels : ByteArray := prog_5_method_11_code
def yX3_sumOfLevels : MethodName := ⟨RX3, "sumOfLevels", "()I"⟩
abbrev cX3_longestStretchUpTo : ByteArray := prog_5_method_12_code
def yX3_longestStretchUpTo : MethodName := ⟨RX3, "longestStretchUpTo", "(I)I"⟩
def RX4 : String := "SpeechCleaner$TextReader"
def TX4 : u_T := fun k => match k with
  | 0 => ("SpeechCleaner$TextReader", "draft", "LSpeechCleaner$Recording;", true)
  | 1 => ("SpeechCleaner$TextReader", "stage", "I", false)
  | 2 => ("SpeechCleaner$TextReader", "kind", "I", false)
  | 3 => ("SpeechCleaner$TextReader", "first", "I", false)
  | 4 => ("SpeechCleaner$TextReader", "doubt", "I", false)
  | 5 => ("SpeechCleaner$TextReader", "doubtDigits", "I", false)
  | _ => ("SpeechCleaner$TextReader", "wrongDoubtPlace", "I", false)
def tyX4 : Nat → FieldType := fun k => match k with
  | 0 => .object "SpeechCleaner$Recording"
  | 1 => .int
  | 2 => .int
  | 3 => .int
  | 4 => .int
  | 5 => .int
  | _ => .int
abbrev wsX40 : List Cond := u_ws RX4 TX4 7
theorem nmX4 : ∀ a, a < 7 → ∀ b, b < 7 → a ≠ b → (TX4 a).2.1 ≠ (TX4 b).2.1 := by decide +kernel
theorem tyX4_ok : ∀ k, k < 7 → parseFieldDescriptor (TX4 k).2.2.1 = some (tyX4 k) := by decide +kernel
abbrev cX4_init : ByteArray := prog_6_method_1_code
def yX4_init : MethodName := ⟨RX4, "<init>", "()V"⟩
abbrev cX4_parse : ByteArray := prog_6_method_2_code
def yX4_parse : MethodName := ⟨RX4, "parse", "([II)I"⟩
abbrev cX4_takes : ByteArray := prog_6_method_3_code
def yX4_takes : MethodName := ⟨RX4, "takes", "(II)Z"⟩
abbrev cX4_takesOutside : ByteArray := prog_6_method_4_code
def yX4_takesOutside : MethodName := ⟨RX4, "takesOutside", "(I)Z"⟩
abbrev cX4_takesKind : ByteArray := prog_6_method_5_code
def yX4_takesKind : MethodName := ⟨RX4, "takesKind", "(I)Z"⟩
abbrev cX4_takesDoubt : ByteArray := prog_6_method_6_code
def yX4_takesDoubt : MethodName := ⟨RX4, "takesDoubt", "(II)Z"⟩
abbrev cX4_takesColon : ByteArray := prog_6_method_7_code
def yX4_takesColon : MethodName := ⟨RX4, "takesColon", "(I)Z"⟩
abbrev cX4_takesInside : ByteArray := prog_6_method_8_code
def yX4_takesInside : MethodName := ⟨RX4, "takesInside", "(I)Z"⟩
abbrev cX4_isDigit : ByteArray := prog_6_method_9_code
def yX4_isDigit : MethodName := ⟨RX4, "isDigit", "(I)Z"⟩
def RX5 : String := "SpeechCleaner"
def TX5 : u_T := fun k => match k with
  | 0 => ("SpeechCleaner", "buffer", "[I", true)
  | 1 => ("SpeechCleaner", "characters", "I", false)
  | 2 => ("SpeechCleaner", "recording", "LSpeechCleaner$Recording;", true)
  | 3 => ("SpeechCleaner", "history", "LSpeechCleaner$History;", true)
  | 4 => ("SpeechCleaner", "reader", "LSpeechCleaner$TextReader;", true)
  | 5 => ("SpeechCleaner", "cutList", "LSpeechCleaner$CutList;", true)
  | _ => ("SpeechCleaner", "result", "LSpeechCleaner$Result;", true)
def tyX5 : Nat → FieldType := fun k => match k with
  | 0 => .array .int
  | 1 => .int
  | 2 => .object "SpeechCleaner$Recording"
  | 3 => .object "SpeechCleaner$History"
  | 4 => .object "SpeechCleaner$TextReader"
  | 5 => .object "SpeechCleaner$CutList"
  | _ => .object "SpeechCleaner$Result"
abbrev wsX50 : List Cond := u_ws RX5 TX5 7
theorem nmX5 : ∀ a, a < 7 → ∀ b, b < 7 → a ≠ b → (TX5 a).2.1 ≠ (TX5 b).2.1 := by decide +kernel
theorem tyX5_ok : ∀ k, k < 7 → parseFieldDescriptor (TX5 k).2.2.1 = some (tyX5 k) := by decide +kernel
abbrev cX5_init : ByteArray := prog_1_method_1_code
def yX5_init : MethodName := ⟨RX5, "<init>", "()V"⟩
abbrev cX5_type : ByteArray := prog_1_method_2_code
def yX5_type : MethodName := ⟨RX5, "type", "(I)I"⟩
abbrev cX5_clear : ByteArray := prog_1_method_3_code
def yX5_clear : MethodName := ⟨RX5, "clear", "()I"⟩
abbrev cX5_read : ByteArray := prog_1_method_4_code
def yX5_read : MethodName := ⟨RX5, "read", "()I"⟩
abbrev cX5_append : ByteArray := prog_1_method_5_code
def yX5_append : MethodName := ⟨RX5, "append", "(II)I"⟩
abbrev cX5_babble : ByteArray := prog_1_method_6_code
def yX5_babble : MethodName := ⟨RX5, "babble", "(II)I"⟩
abbrev cX5_mark : ByteArray := prog_1_method_7_code
def yX5_mark : MethodName := ⟨RX5, "mark", "(IIII)I"⟩
abbrev cX5_unmark : ByteArray := prog_1_method_8_code
def yX5_unmark : MethodName := ⟨RX5, "unmark", "(I)I"⟩
abbrev cX5_hold : ByteArray := prog_1_method_9_code
def yX5_hold : MethodName := ⟨RX5, "hold", "(IZ)I"⟩
abbrev cX5_set : ByteArray := prog_1_method_10_code
def yX5_set : MethodName := ⟨RX5, "set", "(II)I"⟩
abbrev cX5_setting : ByteArray := prog_1_method_11_code
def yX5_setting : MethodName := ⟨RX5, "setting", "(I)I"⟩
abbrev cX5_about : ByteArray := prog_1_method_12_code
def yX5_about : MethodName := ⟨RX5, "about", "(II)I"⟩
abbrev cX5_level : ByteArray := prog_1_method_13_code
def yX5_level : MethodName := ⟨RX5, "level", "(I)I"⟩
abbrev cX5_cuts : ByteArray := prog_1_method_14_code
def yX5_cuts : MethodName := ⟨RX5, "cuts", "()I"⟩
abbrev cX5_cut : ByteArray := prog_1_method_15_code
def yX5_cut : MethodName := ⟨RX5, "cut", "(II)I"⟩
abbrev cX5_sum : ByteArray := prog_1_method_16_code
def yX5_sum : MethodName := ⟨RX5, "sum", "(I)I"⟩
abbrev cX5_bestWindow : ByteArray := prog_1_method_17_code
def yX5_bestWindow : MethodName := ⟨RX5, "bestWindow", "()I"⟩
abbrev cX5_greatestDoubt : ByteArray := prog_1_method_18_code
def yX5_greatestDoubt : MethodName := ⟨RX5, "greatestDoubt", "(I)I"⟩
abbrev cX5_length : ByteArray := prog_1_method_19_code
def yX5_length : MethodName := ⟨RX5, "length", "()I"⟩
abbrev cX5_heard : ByteArray := prog_1_method_20_code
def yX5_heard : MethodName := ⟨RX5, "heard", "(II)I"⟩
abbrev cX5_where : ByteArray := prog_1_method_21_code
def yX5_where : MethodName := ⟨RX5, "where", "(I)I"⟩
abbrev cX5_clicks : ByteArray := prog_1_method_22_code
def yX5_clicks : MethodName := ⟨RX5, "clicks", "(I)I"⟩
abbrev cX5_loudness : ByteArray := prog_1_method_23_code
def yX5_loudness : MethodName := ⟨RX5, "loudness", "()F"⟩
abbrev cX5_share : ByteArray := prog_1_method_24_code
def yX5_share : MethodName := ⟨RX5, "share", "()F"⟩
abbrev cX5_silence : ByteArray := prog_1_method_25_code
def yX5_silence : MethodName := ⟨RX5, "silence", "()I"⟩
abbrev cX5_undo : ByteArray := prog_1_method_26_code
def yX5_undo : MethodName := ⟨RX5, "undo", "()I"⟩
abbrev cX5_fingerprint : ByteArray := prog_1_method_27_code
def yX5_fingerprint : MethodName := ⟨RX5, "fingerprint", "()J"⟩
abbrev cX5_withMarks : ByteArray := prog_1_method_28_code
def yX5_withMarks : MethodName := ⟨RX5, "withMarks", "(JLSpeechCleaner$CutList;)J"⟩
abbrev cX5_withCuts : ByteArray := prog_1_method_29_code
def yX5_withCuts : MethodName := ⟨RX5, "withCuts", "(JLSpeechCleaner$CutList;)J"⟩
abbrev cX5_withResult : ByteArray := prog_1_method_30_code
def yX5_withResult : MethodName := ⟨RX5, "withResult", "(JLSpeechCleaner$Result;)J"⟩
abbrev cX5_currentCuts : ByteArray := prog_1_method_31_code
def yX5_currentCuts : MethodName := ⟨RX5, "currentCuts", "()LSpeechCleaner$CutList;"⟩
abbrev cX5_currentResult : ByteArray := prog_1_method_32_code
def yX5_currentResult : MethodName := ⟨RX5, "currentResult", "()LSpeechCleaner$Result;"⟩
def RX6 : String := "SpeechCleanerModel"
def TX6 : u_T := fun k => match k with
  | 0 => ("SpeechCleanerModel", "v", "[I", true)
  | 1 => ("SpeechCleanerModel", "past", "[I", true)
  | 2 => ("SpeechCleanerModel", "pastMany", "I", false)
  | 3 => ("SpeechCleanerModel", "text", "[I", true)
  | 4 => ("SpeechCleanerModel", "typed", "I", false)
  | 5 => ("SpeechCleanerModel", "at", "I", false)
  | 6 => ("SpeechCleanerModel", "wrong", "I", false)
  | 7 => ("SpeechCleanerModel", "frameMany", "I", false)
  | 8 => ("SpeechCleanerModel", "markMany", "I", false)
  | 9 => ("SpeechCleanerModel", "levels", "[I", true)
  | 10 => ("SpeechCleanerModel", "marks", "[I", true)
  | 11 => ("SpeechCleanerModel", "cut", "[I", true)
  | 12 => ("SpeechCleanerModel", "cutMany", "I", false)
  | 13 => ("SpeechCleanerModel", "source", "[I", true)
  | 14 => ("SpeechCleanerModel", "heardLevel", "[I", true)
  | 15 => ("SpeechCleanerModel", "heardMany", "I", false)
  | 16 => ("SpeechCleanerModel", "room", "[I", true)
  | 17 => ("SpeechCleanerModel", "roomMany", "I", false)
  | _ => ("SpeechCleanerModel", "taken", "I", false)
def tyX6 : Nat → FieldType := fun k => match k with
  | 0 => .array .int
  | 1 => .array .int
  | 2 => .int
  | 3 => .array .int
  | 4 => .int
  | 5 => .int
  | 6 => .int
  | 7 => .int
  | 8 => .int
  | 9 => .array .int
  | 10 => .array .int
  | 11 => .array .int
  | 12 => .int
  | 13 => .array .int
  | 14 => .array .int
  | 15 => .int
  | 16 => .array .int
  | 17 => .int
  | _ => .int
abbrev wsX60 : List Cond := u_ws RX6 TX6 19
theorem nmX6 : ∀ a, a < 19 → ∀ b, b < 19 → a ≠ b → (TX6 a).2.1 ≠ (TX6 b).2.1 := by decide +kernel
theorem tyX6_ok : ∀ k, k < 19 → parseFieldDescriptor (TX6 k).2.2.1 = some (tyX6 k) := by decide +kernel
abbrev cX6_init : ByteArray := prog_8_method_1_code
def yX6_init : MethodName := ⟨RX6, "<init>", "()V"⟩
abbrev cX6_in : ByteArray := prog_8_method_2_code
def yX6_in : MethodName := ⟨RX6, "in", "(III)Z"⟩
abbrev cX6_act : ByteArray := prog_8_method_3_code
def yX6_act : MethodName := ⟨RX6, "act", "()V"⟩
abbrev cX6_levelAt : ByteArray := prog_8_method_4_code
def yX6_levelAt : MethodName := ⟨RX6, "levelAt", "(I)I"⟩
abbrev cX6_isQuiet : ByteArray := prog_8_method_5_code
def yX6_isQuiet : MethodName := ⟨RX6, "isQuiet", "(I)Z"⟩
abbrev cX6_of : ByteArray := prog_8_method_6_code
def yX6_of : MethodName := ⟨RX6, "of", "(II)I"⟩
abbrev cX6_isMark : ByteArray := prog_8_method_7_code
def yX6_isMark : MethodName := ⟨RX6, "isMark", "(I)Z"⟩
abbrev cX6_type : ByteArray := prog_8_method_8_code
def yX6_type : MethodName := ⟨RX6, "type", "(I)I"⟩
abbrev cX6_clear : ByteArray := prog_8_method_9_code
def yX6_clear : MethodName := ⟨RX6, "clear", "()I"⟩
abbrev cX6_sign : ByteArray := prog_8_method_10_code
def yX6_sign : MethodName := ⟨RX6, "sign", "()I"⟩
abbrev cX6_isDigit : ByteArray := prog_8_method_11_code
def yX6_isDigit : MethodName := ⟨RX6, "isDigit", "()Z"⟩
abbrev cX6_takesFrames : ByteArray := prog_8_method_12_code
def yX6_takesFrames : MethodName := ⟨RX6, "takesFrames", "()V"⟩
abbrev cX6_doubt : ByteArray := prog_8_method_13_code
def yX6_doubt : MethodName := ⟨RX6, "doubt", "()Z"⟩
abbrev cX6_takes : ByteArray := prog_8_method_14_code
def yX6_takes : MethodName := ⟨RX6, "takes", "(I)Z"⟩
abbrev cX6_readsMark : ByteArray := prog_8_method_15_code
def yX6_readsMark : MethodName := ⟨RX6, "readsMark", "()Z"⟩
abbrev cX6_wrongAt : ByteArray := prog_8_method_16_code
def yX6_wrongAt : MethodName := ⟨RX6, "wrongAt", "()I"⟩
abbrev cX6_read : ByteArray := prog_8_method_17_code
def yX6_read : MethodName := ⟨RX6, "read", "()I"⟩
abbrev cX6_append : ByteArray := prog_8_method_18_code
def yX6_append : MethodName := ⟨RX6, "append", "(II)I"⟩
abbrev cX6_babble : ByteArray := prog_8_method_19_code
def yX6_babble : MethodName := ⟨RX6, "babble", "(II)I"⟩
abbrev cX6_mark : ByteArray := prog_8_method_20_code
def yX6_mark : MethodName := ⟨RX6, "mark", "(IIII)I"⟩
abbrev cX6_unmark : ByteArray := prog_8_method_21_code
def yX6_unmark : MethodName := ⟨RX6, "unmark", "(I)I"⟩
abbrev cX6_sets : ByteArray := prog_8_method_22_code
def yX6_sets : MethodName := ⟨RX6, "sets", "(II)I"⟩
abbrev cX6_hold : ByteArray := prog_8_method_23_code
def yX6_hold : MethodName := ⟨RX6, "hold", "(IZ)I"⟩
abbrev cX6_most : ByteArray := prog_8_method_24_code
def yX6_most : MethodName := ⟨RX6, "most", "(I)I"⟩
abbrev cX6_set : ByteArray := prog_8_method_25_code
def yX6_set : MethodName := ⟨RX6, "set", "(II)I"⟩
abbrev cX6_setting : ByteArray := prog_8_method_26_code
def yX6_setting : MethodName := ⟨RX6, "setting", "(I)I"⟩
abbrev cX6_level : ByteArray := prog_8_method_27_code
def yX6_level : MethodName := ⟨RX6, "level", "(I)I"⟩
abbrev cX6_seam : ByteArray := prog_8_method_28_code
def yX6_seam : MethodName := ⟨RX6, "seam", "(III)I"⟩
abbrev cX6_lays : ByteArray := prog_8_method_29_code
def yX6_lays : MethodName := ⟨RX6, "lays", "(IIIII)V"⟩
abbrev cX6_fills : ByteArray := prog_8_method_30_code
def yX6_fills : MethodName := ⟨RX6, "fills", "(I)V"⟩
abbrev cX6_finds : ByteArray := prog_8_method_31_code
def yX6_finds : MethodName := ⟨RX6, "finds", "()V"⟩
abbrev cX6_cutOf : ByteArray := prog_8_method_32_code
def yX6_cutOf : MethodName := ⟨RX6, "cutOf", "(I)I"⟩
abbrev cX6_told : ByteArray := prog_8_method_33_code
def yX6_told : MethodName := ⟨RX6, "told", "(II)I"⟩
abbrev cX6_about : ByteArray := prog_8_method_34_code
def yX6_about : MethodName := ⟨RX6, "about", "(II)I"⟩
abbrev cX6_cuts : ByteArray := prog_8_method_35_code
def yX6_cuts : MethodName := ⟨RX6, "cuts", "()I"⟩
abbrev cX6_cut : ByteArray := prog_8_method_36_code
def yX6_cut : MethodName := ⟨RX6, "cut", "(II)I"⟩
abbrev cX6_sumOf : ByteArray := prog_8_method_37_code
def yX6_sumOf : MethodName := ⟨RX6, "sumOf", "(I)I"⟩
abbrev cX6_sum : ByteArray := prog_8_method_38_code
def yX6_sum : MethodName := ⟨RX6, "sum", "(I)I"⟩
abbrev cX6_bestWindow : ByteArray := prog_8_method_39_code
def yX6_bestWindow : MethodName := ⟨RX6, "bestWindow", "()I"⟩
abbrev cX6_greatestDoubt : ByteArray := prog_8_method_40_code
def yX6_greatestDoubt : MethodName := ⟨RX6, "greatestDoubt", "(I)I"⟩
abbrev cX6_hears : ByteArray := prog_8_method_41_code
def yX6_hears : MethodName := ⟨RX6, "hears", "(II)V"⟩
abbrev cX6_pauses : ByteArray := prog_8_method_42_code
def yX6_pauses : MethodName := ⟨RX6, "pauses", "(I)V"⟩
abbrev cX6_isNoise : ByteArray := prog_8_method_43_code
def yX6_isNoise : MethodName := ⟨RX6, "isNoise", "(I)Z"⟩
abbrev cX6_plays : ByteArray := prog_8_method_44_code
def yX6_plays : MethodName := ⟨RX6, "plays", "()V"⟩
abbrev cX6_length : ByteArray := prog_8_method_45_code
def yX6_length : MethodName := ⟨RX6, "length", "()I"⟩
abbrev cX6_heard : ByteArray := prog_8_method_46_code
def yX6_heard : MethodName := ⟨RX6, "heard", "(II)I"⟩
abbrev cX6_where : ByteArray := prog_8_method_47_code
def yX6_where : MethodName := ⟨RX6, "where", "(I)I"⟩
abbrev cX6_clicks : ByteArray := prog_8_method_48_code
def yX6_clicks : MethodName := ⟨RX6, "clicks", "(I)I"⟩
abbrev cX6_loudness : ByteArray := prog_8_method_49_code
def yX6_loudness : MethodName := ⟨RX6, "loudness", "()F"⟩
abbrev cX6_share : ByteArray := prog_8_method_50_code
def yX6_share : MethodName := ⟨RX6, "share", "()F"⟩
abbrev cX6_silence : ByteArray := prog_8_method_51_code
def yX6_silence : MethodName := ⟨RX6, "silence", "()I"⟩
abbrev cX6_undo : ByteArray := prog_8_method_52_code
def yX6_undo : MethodName := ⟨RX6, "undo", "()I"⟩
abbrev cX6_fingerprint : ByteArray := prog_8_method_53_code
def yX6_fingerprint : MethodName := ⟨RX6, "fingerprint", "()J"⟩
def RJ9 : String := "java/lang/Math"
def TJ9 : u_T := fun k => match k with
  | _ => ("", "", "", false)
def tyJ9 : Nat → FieldType := fun k => match k with
  | _ => .int
abbrev wsJ90 : List Cond := u_ws RJ9 TJ9 0
theorem nmJ9 : ∀ a, a < 0 → ∀ b, b < 0 → a ≠ b → (TJ9 a).2.1 ≠ (TJ9 b).2.1 := by decide +kernel
theorem tyJ9_ok : ∀ k, k < 0 → parseFieldDescriptor (TJ9 k).2.2.1 = some (tyJ9 k) := by decide +kernel
abbrev cJ9_abs_0f7a4 : ByteArray := prog_9_method_59_code
def yJ9_abs_0f7a4 : MethodName := ⟨RJ9, "abs", "(I)I"⟩
abbrev cJ9_max_7cf53 : ByteArray := prog_9_method_65_code
def yJ9_max_7cf53 : MethodName := ⟨RJ9, "max", "(II)I"⟩
abbrev cJ9_min_7cf53 : ByteArray := prog_9_method_69_code
def yJ9_min_7cf53 : MethodName := ⟨RJ9, "min", "(II)I"⟩
def RJ10 : String := "java/lang/System"
def TJ10 : u_T := fun k => match k with
  | _ => ("", "", "", false)
def tyJ10 : Nat → FieldType := fun k => match k with
  | _ => .int
abbrev wsJ100 : List Cond := u_ws RJ10 TJ10 0
theorem nmJ10 : ∀ a, a < 0 → ∀ b, b < 0 → a ≠ b → (TJ10 a).2.1 ≠ (TJ10 b).2.1 := by decide +kernel
theorem tyJ10_ok : ∀ k, k < 0 → parseFieldDescriptor (TJ10 k).2.2.1 = some (tyJ10 k) := by decide +kernel
def RL : String := "SpeechCleanerLaw"
abbrev cL_law : ByteArray := code
def yL_law : MethodName := ⟨RL, "law", "([I)Z"⟩
/-- the words that every contract here stands on: the tables' own, and 'selects' of the private methods -/
def z_ws : List Cond := lw_tbl.filter goodWord
theorem z_ws_t (i : Nat) {w : Cond} (h : tables_1[i]? = some w) (hg : goodWord w = true) : w ∈ z_ws := List.mem_filter.mpr ⟨List.mem_append_right _ (List.mem_of_getElem? h), hg⟩
theorem z_ws_p (i : Nat) {w : Cond} (h : (k2_sels lw_privs)[i]? = some w) (hg : goodWord w = true) : w ∈ z_ws := List.mem_filter.mpr ⟨List.mem_append_left _ (List.mem_of_getElem? h), hg⟩
theorem z_ws_good {ws : List Cond} (h : ∀ w ∈ ws, w ∈ z_ws) {y : MethodName} {c : ByteArray} {n : Nat} {r : Option FieldType} : GoodIn (.code y c n r :: z_ws) ws := fun w hw => ⟨List.mem_cons_of_mem _ (h w hw), good_of_word (List.mem_filter.mp (h w hw)).2⟩
theorem z_ws_in {ws : List Cond} (h : ∀ w ∈ ws, w ∈ lw_tbl) (hg : ws.all goodWord = true) : ∀ w ∈ ws, w ∈ z_ws := fun w hw => List.mem_filter.mpr ⟨h w hw, List.all_eq_true.mp hg w hw⟩

theorem z_inX0 : ∀ w ∈ u_ws RX0 TX0 6, w ∈ z_ws := z_ws_in (by decide +kernel) (by decide +kernel)
theorem z_inX1 : ∀ w ∈ u_ws RX1 TX1 2, w ∈ z_ws := z_ws_in (by decide +kernel) (by decide +kernel)
theorem z_inX2 : ∀ w ∈ u_ws RX2 TX2 9, w ∈ z_ws := z_ws_in (by decide +kernel) (by decide +kernel)
theorem z_inX3 : ∀ w ∈ u_ws RX3 TX3 7, w ∈ z_ws := z_ws_in (by decide +kernel) (by decide +kernel)
theorem z_inX4 : ∀ w ∈ u_ws RX4 TX4 7, w ∈ z_ws := z_ws_in (by decide +kernel) (by decide +kernel)
theorem z_inX5 : ∀ w ∈ u_ws RX5 TX5 7, w ∈ z_ws := z_ws_in (by decide +kernel) (by decide +kernel)
theorem z_inX6 : ∀ w ∈ u_ws RX6 TX6 19, w ∈ z_ws := z_ws_in (by decide +kernel) (by decide +kernel)
end
section
/-! THE BASE: numbers of the machine, worlds whose objects stay where they are, and a row for each instruction over such a world -/
def zi (z : Int) : Int32 := Int32.ofInt z
def zl (z : Int) : Int64 := Int64.ofInt z
theorem zi_add (a b : Int) : zi a + zi b = zi (a + b) := (Int32.ofInt_add a b).symm
theorem zi_sub (a b : Int) : zi a - zi b = zi (a - b) := (Int32.ofInt_sub a b).symm
theorem zi_mul (a b : Int) : zi a * zi b = zi (a * b) := (Int32.ofInt_mul a b).symm
theorem zi_neg (a : Int) : - zi a = zi (-a) := (Int32.ofInt_neg a).symm
theorem zl_add (a b : Int) : zl a + zl b = zl (a + b) := (Int64.ofInt_add a b).symm
theorem zl_mul (a b : Int) : zl a * zl b = zl (a * b) := (Int64.ofInt_mul a b).symm
theorem zi_int {a : Int} (h : zr a) : (zi a).toInt = a := Int32.toInt_ofInt_of_le h.1 h.2
theorem zi_of (x : Int32) : zi x.toInt = x := Int32.ofInt_toInt x
theorem zi_lt {a b : Int} (ha : zr a) (hb : zr b) : zi a < zi b ↔ a < b := by rw [Int32.lt_iff_toInt_lt, zi_int ha, zi_int hb]
theorem zi_le {a b : Int} (ha : zr a) (hb : zr b) : zi a ≤ zi b ↔ a ≤ b := by rw [Int32.le_iff_toInt_le, zi_int ha, zi_int hb]
theorem zi_eq {a b : Int} (ha : zr a) (hb : zr b) : zi a = zi b ↔ a = b := by rw [← Int32.toInt_inj, zi_int ha, zi_int hb]
theorem zi_div {a b : Int} (ha : zr a) (hb : zr b) : zi a / zi b = zi (a.tdiv b) := by
  apply Int32.toInt_inj.mp
  rw [Int32.toInt_div, zi_int ha, zi_int hb]
  exact (Int32.toInt_ofInt (n := a.tdiv b)).symm
theorem zi_rem {a b : Int} (ha : zr a) (hb : zr b) : zi a - zi a / zi b * zi b = zi (a.tmod b) := by
  rw [zi_div ha hb, zi_mul, zi_sub]
  have h := Int.mul_tdiv_add_tmod a b
  have h2 : a.tdiv b * b = b * a.tdiv b := Int.mul_comm _ _
  exact congrArg zi (by omega)
theorem zi_clamp {a : Int} (h0 : 0 ≤ a) (h1 : a < 2147483648) : (zi a).toNatClampNeg = a.toNat := Int32.toNatClampNeg_ofInt_of_le (by omega) h1
theorem zi_0 : zi 0 = 0 := rfl
theorem zr_0 : zr 0 := by decide
theorem zi_neg_iff {a : Int} (ha : zr a) : zi a < 0 ↔ a < 0 := by rw [← zi_0, zi_lt ha zr_0]
theorem zi_in {i : Int} {n : Nat} (h0 : 0 ≤ i) (h1 : i < (n : Int)) (hn : n ≤ 2147483648) : vp_in (zi i) n := by
  have hr : zr i := ⟨by omega, by omega⟩
  intro h
  rcases h with h | h
  · rw [zi_neg_iff hr] at h; omega
  · rw [zi_clamp h0 (by omega)] at h; omega
theorem zi_long {a : Int} (h : zr a) : (zi a).toInt64 = zl a := Int32.toInt64_ofInt (by have := h.1; exact this) (by have := h.2; show a ≤ 2147483647; omega)
theorem zi_ushr16 (a : Int) : ((zi a).toUInt32 >>> ((zi 16).toUInt32 &&& Int32.toUInt32 31)).toInt32 = zi (z_ushr a 16) := by
  have h16 : ((zi 16).toUInt32 &&& Int32.toUInt32 31) = 16 := by decide
  rw [h16]
  apply Int32.toBitVec_inj.mp
  apply BitVec.eq_of_toNat_eq
  have h1 : (zi a).toBitVec = BitVec.ofInt 32 a := rfl
  have h2 : (zi (z_ushr a 16)).toBitVec = BitVec.ofInt 32 (z_ushr a 16) := rfl
  rw [h2]
  show (((zi a).toUInt32 >>> (16 : UInt32)).toBitVec).toNat = _
  rw [UInt32.toBitVec_shiftRight]
  have h5 : (zi a).toUInt32.toBitVec = BitVec.ofInt 32 a := rfl
  rw [h5]
  have h3 : ((16 : UInt32).toBitVec % 32) = (16 : BitVec 32) := by decide
  simp only [BitVec.toNat_ofInt, z_ushr]
  have h4 : (BitVec.ofInt 32 a >>> ((16 : UInt32).toBitVec % 32)).toNat = (a % 4294967296).toNat / 65536 := by
    rw [h3]
    show (BitVec.ofInt 32 a >>> (16 : Nat)).toNat = _
    rw [BitVec.toNat_ushiftRight, BitVec.toNat_ofInt, Nat.shiftRight_eq_div_pow]
    rfl
  rw [h4]
  omega
-- the world: cell k stands at 'ad k' and is 'mk k' of what it holds
def z_wd (mk : Nat → (Int → Int) → va_E) (N : Nat) (ad : Nat → Nat) (σ : zS) : va_W := (List.range N).map (fun k => (ad k, mk k (σ k)))
theorem z_wd_get {mk : Nat → (Int → Int) → va_E} {N : Nat} {ad : Nat → Nat} {σ : zS} {k : Nat} (h : k < N) : (z_wd mk N ad σ)[k]? = some (ad k, mk k (σ k)) := by simp [z_wd, h]
theorem z_wd_some {mk : Nat → (Int → Int) → va_E} {N : Nat} {ad : Nat → Nat} {σ : zS} {k : Nat} {q : Nat × va_E} (h : (z_wd mk N ad σ)[k]? = some q) : k < N ∧ q = (ad k, mk k (σ k)) := by
  by_cases hk : k < N
  · rw [z_wd_get hk] at h; exact ⟨hk, (Option.some.inj h).symm⟩
  · simp [z_wd, hk] at h
theorem z_wd_set {mk : Nat → (Int → Int) → va_E} {N : Nat} {ad : Nat → Nat} {σ τ : zS} {k : Nat} {e : va_E} (he : e = mk k (τ k)) (ho : ∀ a, a ≠ k → τ a = σ a) : (z_wd mk N ad σ).set k (ad k, e) = z_wd mk N ad τ := by
  apply List.ext_getElem?
  intro i
  rw [List.getElem?_set]
  by_cases hi : k = i
  · subst hi
    by_cases hk : k < N
    · rw [z_wd_get hk]; simp [z_wd, hk, he]
    · simp [z_wd, hk]
  · rw [if_neg hi]
    by_cases hk : i < N
    · rw [z_wd_get hk, z_wd_get hk, ho i (fun h => hi h.symm)]
    · simp [z_wd, hk]
theorem z_wd_D {mk : Nat → (Int → Int) → va_E} {N : Nat} {ad : Nat → Nat} {σ τ : zS} {A : Nat → Prop} (h : va_D A (z_wd mk N ad σ)) : va_D A (z_wd mk N ad τ) := by
  refine ⟨fun i j p q hi hj e => ?_, fun k q hk => ?_⟩
  · obtain ⟨h1, rfl⟩ := z_wd_some hi
    obtain ⟨h2, rfl⟩ := z_wd_some hj
    exact h.1 i j _ _ (z_wd_get h1) (z_wd_get h2) e
  · obtain ⟨h1, rfl⟩ := z_wd_some hk
    exact (h.2 k (ad k, mk k (σ k)) (z_wd_get h1) : A (ad k))
theorem z_wd_A {mk : Nat → (Int → Int) → va_E} {N : Nat} {ad : Nat → Nat} {σ τ : zS} {sz : Nat} : va_A (z_wd mk N ad σ) sz = va_A (z_wd mk N ad τ) sz := by
  have H : ∀ (σ τ : zS) (q : Nat), va_A (z_wd mk N ad σ) sz q → va_A (z_wd mk N ad τ) sz q := by
    intro σ τ q h
    rcases h with ⟨k, e, hk⟩ | h
    · obtain ⟨h1, h2⟩ := z_wd_some hk
      refine Or.inl ⟨k, mk k (τ k), ?_⟩
      rw [z_wd_get h1]
      rw [(Prod.mk.inj h2).1]
    · exact Or.inr h
  funext q
  exact propext ⟨H σ τ q, H τ σ q⟩
/-- the row of an array of ints whose values are f -/
abbrev z_ar (f : Int → Int) : Nat → Int32 := fun i => zi (f (i : Int))
theorem z_ar_up {f : Int → Int} {i v : Int} (h0 : 0 ≤ i) (h1 : i < 2147483648) : upd (z_ar f) (zi i).toNatClampNeg (zi v) = z_ar (fun b => if b = i then v else f b) := by
  funext j
  rw [zi_clamp h0 h1]
  simp only [upd, z_ar]
  by_cases h : j = i.toNat
  · rw [if_pos h, if_pos (by omega)]
  · rw [if_neg h, if_neg (by omega)]
-- the geometry of a world: its side (0 the class, 1 the reference), where the cells stand, the array classes, the classes' places
abbrev zG : Type := Nat × (Nat → Nat) × ClassId × ClassId × ClassId × va_G
abbrev vwCl : List vw_C := [(RX0, TX0, 6), (RX1, TX1, 2), (RX2, TX2, 9), (RX3, TX3, 7), (RX4, TX4, 7), (RX5, TX5, 7), (RX6, TX6, 19)]
def z_mk0 (ad : Nat → Nat) (cI cZ cR : ClassId) (k : Nat) (f : Int → Int) : va_E :=
  if k < 48 then
    (match k % 8 with
    | 0 => .inr (2, [.ref (ad (k + 1)), .int (zi (f 1)), .ref (ad (k + 2)), .ref (ad (k + 3)), .ref (ad (k + 4)), .ref (ad (k + 5)), .ref (ad (k + 6)), .int (zi (f 7)), .ref (ad (k + 7))])
    | 1 => .inl (cI, 200, .inl (z_ar f))
    | 6 => .inl (cZ, 20, .inl (z_ar f))
    | 7 => .inl (cI, 7, .inl (z_ar f))
    | _ => .inl (cI, 20, .inl (z_ar f)))
  else (match k with
    | 48 => .inr (0, [.ref (ad 49), .ref (ad 50), .ref (ad 51), .ref (ad 52), .ref (ad 53), .int (zi (f 5))])
    | 49 => .inl (cI, 20, .inl (z_ar f))
    | 50 => .inl (cI, 20, .inl (z_ar f))
    | 51 => .inl (cI, 20, .inl (z_ar f))
    | 52 => .inl (cZ, 20, .inl (z_ar f))
    | 53 => .inl (cI, 20, .inl (z_ar f))
    | 54 => .inr (3, [.ref (ad 55), .ref (ad 56), .int (zi (f 2)), .ref (ad 57), .int (zi (f 4)), .int (zi (f 5)), .ref (ad 58)])
    | 55 => .inl (cI, 200, .inl (z_ar f))
    | 56 => .inl (cI, 200, .inl (z_ar f))
    | 57 => .inl (cI, 200, .inl (z_ar f))
    | 58 => .inl (cZ, 200, .inl (z_ar f))
    | 59 => .inr (4, [.ref (ad 40), .int (zi (f 1)), .int (zi (f 2)), .int (zi (f 3)), .int (zi (f 4)), .int (zi (f 5)), .int (zi (f 6))])
    | 60 => .inr (1, [.ref (ad 61), .int (zi (f 1))])
    | 61 => .inl (cR, 4, .inr (.inr (.inr (.inr (fun i => some (ad (8 * (f (i : Int)).toNat)))))))
    | 62 => .inr (5, [.ref (ad 63), .int (zi (f 1)), .ref (ad 0), .ref (ad 60), .ref (ad 59), .ref (ad 48), .ref (ad 54)])
    | _ => .inl (cI, 120, .inl (z_ar f)))
def z_mk1 (ad : Nat → Nat) (cI : ClassId) (k : Nat) (f : Int → Int) : va_E := match k with
  | 0 => .inr (6, [.ref (ad 1), .ref (ad 2), .int (zi (f 2)), .ref (ad 3), .int (zi (f 4)), .int (zi (f 5)), .int (zi (f 6)), .int (zi (f 7)), .int (zi (f 8)), .ref (ad 4), .ref (ad 5), .ref (ad 6), .int (zi (f 12)), .ref (ad 7), .ref (ad 8), .int (zi (f 15)), .ref (ad 9), .int (zi (f 17)), .int (zi (f 18))])
  | 1 => .inl (cI, 320, .inl (z_ar f))
  | 2 => .inl (cI, 1280, .inl (z_ar f))
  | 3 => .inl (cI, 120, .inl (z_ar f))
  | 4 => .inl (cI, 120, .inl (z_ar f))
  | 5 => .inl (cI, 100, .inl (z_ar f))
  | 6 => .inl (cI, 100, .inl (z_ar f))
  | 7 => .inl (cI, 1400, .inl (z_ar f))
  | 8 => .inl (cI, 1400, .inl (z_ar f))
  | _ => .inl (cI, 200, .inl (z_ar f))
def z_mk (g : zG) : Nat → (Int → Int) → va_E := match g with
  | (0, ad, cI, cZ, cR, _) => z_mk0 ad cI cZ cR
  | (_, ad, cI, _, _, _) => z_mk1 ad cI
def z_N (g : zG) : Nat := match g.1 with
  | 0 => 64
  | _ => 10
abbrev z_ad (g : zG) (k : Nat) : Nat := g.2.1 k
def z_tys (g : zG) : List (ClassId × FieldType) := [(g.2.2.1, .int), (g.2.2.2.1, .boolean), (g.2.2.2.2.1, .object RX2)]
abbrev z_w (g : zG) (σ : zS) : va_W := z_wd (z_mk g) (z_N g) g.2.1 σ
-- the configuration of a walk: all that stays the same from instruction to instruction
abbrev zC : Type := Program × Launch × Env × Room × State × MethodId × Array Value × List Frame × Method × Code × (State → Prop) × Nat × Nat × (Nat → Prop) × Heap × Nat × zG
abbrev z_g (C : zC) : zG := C.2.2.2.2.2.2.2.2.2.2.2.2.2.2.2.2
abbrev z_l (C : zC) : Launch := C.2.1
abbrev z_R (C : zC) : Room := C.2.2.2.1
/-- the machine, from the place pc with these locals, this stack, and a heap whose world holds σ, comes to its end -/
def z_W (C : zC) (σ : zS) (pc : Nat) (lv : List (Nat × Value)) (st : List Value) : Prop := match C with
  | (p, l, e, R, s, m, args, below, meth, c, Q, cells, slots, A, H0, nL, g) => ∀ (H : Heap) (locs : List Loc) (ls : Array Slot), va_P g.2.2.2.2.2 vwCl (z_w g σ) H → va_S A H0 H locs → lv_has ls nL lv → W p l e R s m args below meth c H locs cells slots Q (F0 m pc ls st)
/-- what holds all the while: the machine, the code, the tables' words, the classes -/
def z_ok (C : zC) (cc : ByteArray) (own : String) (sd : Nat) : Prop := match C with
  | (p, _, _, R, s, m, args, _, _, c, _, cells, slots, A, H0, nL, g) => p.tables.exec = Jvm.exec ∧ c.code = cc ∧ c.maxLocals = nL ∧ s.vm.findClass own = some m.cls ∧ (∀ w ∈ z_ws, w.before args s = true) ∧ va_K g.2.2.2.2.2 vwCl (z_tys g) s ∧ (∀ σ, va_D A (z_w g σ)) ∧ (∀ q, H0.size ≤ q → A q) ∧ g.1 = sd ∧ cells ≤ R.cells ∧ slots ≤ R.slots ∧ H0 = s.heap
end
section
/-! A ROW FOR EACH INSTRUCTION over a world whose objects stay -/
section
variable {C : zC} {cc : ByteArray} {own : String} {sd : Nat} {σ : zS} {pc : Nat} {lv : List (Nat × Value)} {st : List Value} {α : Type} {r : α}
theorem z_iconst (hx : z_ok C cc own sd) {n : Int} (hd : decode cc pc = .ok (.iconst n, 1)) (kk : z_W C σ (pc + 1) lv (.int (zi n) :: st)) : z_W C σ pc lv st := by
  obtain ⟨p, l, e, R, s, m, args, below, meth, c, Q, cells, slots, A, H0, nL, g⟩ := C
  intro H locs ls hP hS hl
  exact lv_iconst hx.1 hx.2.1 hd rfl (kk H locs ls hP hS hl)
theorem z_bipush (hx : z_ok C cc own sd) {n : Int} (hd : decode cc pc = .ok (.bipush n, 2)) (hn : (Int8.ofInt n).toInt32 = zi n) (kk : z_W C σ (pc + 2) lv (.int (zi n) :: st)) : z_W C σ pc lv st := by
  obtain ⟨p, l, e, R, s, m, args, below, meth, c, Q, cells, slots, A, H0, nL, g⟩ := C
  intro H locs ls hP hS hl
  exact lv_bipush hx.1 hx.2.1 hd hn (kk H locs ls hP hS hl)
theorem z_sipush (hx : z_ok C cc own sd) {n : Int} (hd : decode cc pc = .ok (.sipush n, 3)) (hn : (Int16.ofInt n).toInt32 = zi n) (kk : z_W C σ (pc + 3) lv (.int (zi n) :: st)) : z_W C σ pc lv st := by
  obtain ⟨p, l, e, R, s, m, args, below, meth, c, Q, cells, slots, A, H0, nL, g⟩ := C
  intro H locs ls hP hS hl
  exact lv_sipush hx.1 hx.2.1 hd hn (kk H locs ls hP hS hl)
theorem z_ldc (hx : z_ok C cc own sd) {n : Int} {index : Nat} (hw : Cond.constant own index (zi n) ∈ z_ws) (hd : decode cc pc = .ok (.ldc index, 2)) (kk : z_W C σ (pc + 2) lv (.int (zi n) :: st)) : z_W C σ pc lv st := by
  obtain ⟨p, l, e, R, s, m, args, below, meth, c, Q, cells, slots, A, H0, nL, g⟩ := C
  intro H locs ls hP hS hl
  exact lv_ldc hx.1 hx.2.1 hx.2.2.2.1 (hx.2.2.2.2.1 _ hw) hd (kk H locs ls hP hS hl)
theorem z_ldc2 (hx : z_ok C cc own sd) {n : Int} {index : Nat} (hw : Cond.constantLong own index (zl n) ∈ z_ws) (hd : decode cc pc = .ok (.ldc2_w index, 3)) (kk : z_W C σ (pc + 3) lv (.long (zl n) :: st)) : z_W C σ pc lv st := by
  obtain ⟨p, l, e, R, s, m, args, below, meth, c, Q, cells, slots, A, H0, nL, g⟩ := C
  intro H locs ls hP hS hl
  exact lv_ldc2 hx.1 hx.2.1 hx.2.2.2.1 (hx.2.2.2.2.1 _ hw) hd (kk H locs ls hP hS hl)
-- locals
theorem z_iload_n (hx : z_ok C cc own sd) (q : Nat) {k : Fin 4} {x : Int32} (hd : decode cc pc = .ok (.iload_n k, 1)) (hk : lv[q]? = some ((k : Nat), .int x)) (kk : z_W C σ (pc + 1) lv (.int x :: st)) : z_W C σ pc lv st := by
  obtain ⟨p, l, e, R, s, m, args, below, meth, c, Q, cells, slots, A, H0, nL, g⟩ := C
  intro H locs ls hP hS hl
  exact lv_iload_n hx.1 hx.2.1 hd rfl (lv_at hl q hk) (kk H locs ls hP hS hl)
theorem z_iload (hx : z_ok C cc own sd) (q : Nat) {k : Nat} {x : Int32} (hd : decode cc pc = .ok (.iload k, 2)) (hk : lv[q]? = some (k, .int x)) (kk : z_W C σ (pc + 2) lv (.int x :: st)) : z_W C σ pc lv st := by
  obtain ⟨p, l, e, R, s, m, args, below, meth, c, Q, cells, slots, A, H0, nL, g⟩ := C
  intro H locs ls hP hS hl
  exact lv_iload hx.1 hx.2.1 hd (lv_at hl q hk) (kk H locs ls hP hS hl)
theorem z_lload_n (hx : z_ok C cc own sd) (q : Nat) {k : Fin 4} {x : Int64} (hd : decode cc pc = .ok (.lload_n k, 1)) (hk : lv[q]? = some ((k : Nat), .long x)) (kk : z_W C σ (pc + 1) lv (.long x :: st)) : z_W C σ pc lv st := by
  obtain ⟨p, l, e, R, s, m, args, below, meth, c, Q, cells, slots, A, H0, nL, g⟩ := C
  intro H locs ls hP hS hl
  exact lv_lload_n hx.1 hx.2.1 hd rfl (lv_at hl q hk) (kk H locs ls hP hS hl)
theorem z_lload (hx : z_ok C cc own sd) (q : Nat) {k : Nat} {x : Int64} (hd : decode cc pc = .ok (.lload k, 2)) (hk : lv[q]? = some (k, .long x)) (kk : z_W C σ (pc + 2) lv (.long x :: st)) : z_W C σ pc lv st := by
  obtain ⟨p, l, e, R, s, m, args, below, meth, c, Q, cells, slots, A, H0, nL, g⟩ := C
  intro H locs ls hP hS hl
  exact lv_lload hx.1 hx.2.1 hd (lv_at hl q hk) (kk H locs ls hP hS hl)
theorem z_aload_n (hx : z_ok C cc own sd) (q : Nat) {k : Fin 4} {x : Nat} (hd : decode cc pc = .ok (.aload_n k, 1)) (hk : lv[q]? = some ((k : Nat), .ref x)) (kk : z_W C σ (pc + 1) lv (.ref x :: st)) : z_W C σ pc lv st := by
  obtain ⟨p, l, e, R, s, m, args, below, meth, c, Q, cells, slots, A, H0, nL, g⟩ := C
  intro H locs ls hP hS hl
  exact lv_aload_n hx.1 hx.2.1 hd rfl (lv_at hl q hk) (kk H locs ls hP hS hl)
theorem z_istore_n (hx : z_ok C cc own sd) {nL : Nat} (hn : C.2.2.2.2.2.2.2.2.2.2.2.2.2.2.2.1 = nL) {k : Fin 4} {x : Int32} {lv' : List (Nat × Value)} (hd : decode cc pc = .ok (.istore_n k, 1)) (hlt : (k : Nat) < nL) (hl' : ((k : Nat), Value.int x) :: lv.filter (fun q => !(q.1 == (k : Nat)) && !(q.1 + 1 == (k : Nat) && q.2.category == 2)) = lv') (kk : z_W C σ (pc + 1) lv' st) : z_W C σ pc lv (.int x :: st) := by
  obtain ⟨p, l, e, R, s, m, args, below, meth, c, Q, cells, slots, A, H0, nL, g⟩ := C
  intro H locs ls hP hS hl
  cases hn
  exact lv_istore_n hx.1 hx.2.1 hd rfl hl hlt hl' (fun ls' hl => kk H locs ls' hP hS hl)
theorem z_istore (hx : z_ok C cc own sd) {nL : Nat} (hn : C.2.2.2.2.2.2.2.2.2.2.2.2.2.2.2.1 = nL) {k : Nat} {x : Int32} {lv' : List (Nat × Value)} (hd : decode cc pc = .ok (.istore k, 2)) (hlt : (k : Nat) < nL) (hl' : (k, Value.int x) :: lv.filter (fun q => !(q.1 == k) && !(q.1 + 1 == k && q.2.category == 2)) = lv') (kk : z_W C σ (pc + 2) lv' st) : z_W C σ pc lv (.int x :: st) := by
  obtain ⟨p, l, e, R, s, m, args, below, meth, c, Q, cells, slots, A, H0, nL, g⟩ := C
  intro H locs ls hP hS hl
  cases hn
  exact lv_istore hx.1 hx.2.1 hd hl hlt hl' (fun ls' hl => kk H locs ls' hP hS hl)
theorem z_lstore_n (hx : z_ok C cc own sd) {nL : Nat} (hn : C.2.2.2.2.2.2.2.2.2.2.2.2.2.2.2.1 = nL) {k : Fin 4} {x : Int64} {lv' : List (Nat × Value)} (hd : decode cc pc = .ok (.lstore_n k, 1)) (hlt : (k : Nat) + 1 < nL) (hl' : ((k : Nat), Value.long x) :: lv.filter (fun q => !(q.1 == (k : Nat)) && (!(q.1 == (k : Nat) + 1) && !(q.1 + 1 == (k : Nat) && q.2.category == 2))) = lv') (kk : z_W C σ (pc + 1) lv' st) : z_W C σ pc lv (.long x :: st) := by
  obtain ⟨p, l, e, R, s, m, args, below, meth, c, Q, cells, slots, A, H0, nL, g⟩ := C
  intro H locs ls hP hS hl
  cases hn
  exact lv_lstore_n hx.1 hx.2.1 hd rfl hl hlt hl' (fun ls' hl => kk H locs ls' hP hS hl)
theorem z_lstore (hx : z_ok C cc own sd) {nL : Nat} (hn : C.2.2.2.2.2.2.2.2.2.2.2.2.2.2.2.1 = nL) {k : Nat} {x : Int64} {lv' : List (Nat × Value)} (hd : decode cc pc = .ok (.lstore k, 2)) (hlt : (k : Nat) + 1 < nL) (hl' : (k, Value.long x) :: lv.filter (fun q => !(q.1 == k) && (!(q.1 == k + 1) && !(q.1 + 1 == k && q.2.category == 2))) = lv') (kk : z_W C σ (pc + 2) lv' st) : z_W C σ pc lv (.long x :: st) := by
  obtain ⟨p, l, e, R, s, m, args, below, meth, c, Q, cells, slots, A, H0, nL, g⟩ := C
  intro H locs ls hP hS hl
  cases hn
  exact lv_lstore hx.1 hx.2.1 hd hl hlt hl' (fun ls' hl => kk H locs ls' hP hS hl)
theorem z_astore_n (hx : z_ok C cc own sd) {nL : Nat} (hn : C.2.2.2.2.2.2.2.2.2.2.2.2.2.2.2.1 = nL) {k : Fin 4} {x : Nat} {lv' : List (Nat × Value)} (hd : decode cc pc = .ok (.astore_n k, 1)) (hlt : (k : Nat) < nL) (hl' : ((k : Nat), Value.ref x) :: lv.filter (fun q => !(q.1 == (k : Nat)) && !(q.1 + 1 == (k : Nat) && q.2.category == 2)) = lv') (kk : z_W C σ (pc + 1) lv' st) : z_W C σ pc lv (.ref x :: st) := by
  obtain ⟨p, l, e, R, s, m, args, below, meth, c, Q, cells, slots, A, H0, nL, g⟩ := C
  intro H locs ls hP hS hl
  cases hn
  exact lv_astore_n hx.1 hx.2.1 hd rfl hl hlt hl' (fun ls' hl => kk H locs ls' hP hS hl)
theorem z_iinc (hx : z_ok C cc own sd) {nL : Nat} (hn : C.2.2.2.2.2.2.2.2.2.2.2.2.2.2.2.1 = nL) (q : Nat) {k : Nat} {n x : Int} {lv' : List (Nat × Value)} (hd : decode cc pc = .ok (.iinc k n, 3)) (hk : lv[q]? = some (k, .int (zi x))) (hlt : k < nL) (hl' : (k, Value.int (zi (x + n))) :: lv.filter (fun q => !(q.1 == k) && !(q.1 + 1 == k && q.2.category == 2)) = lv') (kk : z_W C σ (pc + 3) lv' st) : z_W C σ pc lv st := by
  obtain ⟨p, l, e, R, s, m, args, below, meth, c, Q, cells, slots, A, H0, nL, g⟩ := C
  intro H locs ls hP hS hl
  cases hn
  exact lv_iinc hx.1 hx.2.1 hd hl hk (zi_add x n) hlt hl' (fun ls' hl => kk H locs ls' hP hS hl)
theorem z_sub (ks : List Nat) {lv' : List (Nat × Value)} (hl' : lv_pick lv ks = lv') (kk : z_W C σ pc lv' st) : z_W C σ pc lv st := by
  obtain ⟨p, l, e, R, s, m, args, below, meth, c, Q, cells, slots, A, H0, nL, g⟩ := C
  intro H locs ls hP hS hl
  exact kk H locs ls hP hS (lv_sub hl ks hl')
-- arithmetic
theorem z_iadd (hx : z_ok C cc own sd) {a b : Int} (hd : decode cc pc = .ok (.iadd, 1)) (kk : z_W C σ (pc + 1) lv (.int (zi (a + b)) :: st)) : z_W C σ pc lv (.int (zi b) :: .int (zi a) :: st) := by
  obtain ⟨p, l, e, R, s, m, args, below, meth, c, Q, cells, slots, A, H0, nL, g⟩ := C
  intro H locs ls hP hS hl
  refine lv_iadd hx.1 hx.2.1 hd ?_
  rw [zi_add]
  exact kk H locs ls hP hS hl
theorem z_isub (hx : z_ok C cc own sd) {a b : Int} (hd : decode cc pc = .ok (.isub, 1)) (kk : z_W C σ (pc + 1) lv (.int (zi (a - b)) :: st)) : z_W C σ pc lv (.int (zi b) :: .int (zi a) :: st) := by
  obtain ⟨p, l, e, R, s, m, args, below, meth, c, Q, cells, slots, A, H0, nL, g⟩ := C
  intro H locs ls hP hS hl
  refine lv_isub hx.1 hx.2.1 hd ?_
  rw [zi_sub]
  exact kk H locs ls hP hS hl
theorem z_imul (hx : z_ok C cc own sd) {a b : Int} (hd : decode cc pc = .ok (.imul, 1)) (kk : z_W C σ (pc + 1) lv (.int (zi (a * b)) :: st)) : z_W C σ pc lv (.int (zi b) :: .int (zi a) :: st) := by
  obtain ⟨p, l, e, R, s, m, args, below, meth, c, Q, cells, slots, A, H0, nL, g⟩ := C
  intro H locs ls hP hS hl
  refine lv_imul hx.1 hx.2.1 hd ?_
  rw [zi_mul]
  exact kk H locs ls hP hS hl
theorem z_ineg (hx : z_ok C cc own sd) {a : Int} (hd : decode cc pc = .ok (.ineg, 1)) (kk : z_W C σ (pc + 1) lv (.int (zi (-a)) :: st)) : z_W C σ pc lv (.int (zi a) :: st) := by
  obtain ⟨p, l, e, R, s, m, args, below, meth, c, Q, cells, slots, A, H0, nL, g⟩ := C
  intro H locs ls hP hS hl
  refine lv_ineg hx.1 hx.2.1 hd ?_
  rw [zi_neg]
  exact kk H locs ls hP hS hl
theorem z_idiv (hx : z_ok C cc own sd) {a b : Int} {A : Option α} (hd : decode cc pc = .ok (.idiv, 1)) (h : (if zr a ∧ zr b ∧ b ≠ 0 then A else none) = some r) (kk : A = some r → z_W C σ (pc + 1) lv (.int (zi (a.tdiv b)) :: st)) : z_W C σ pc lv (.int (zi b) :: .int (zi a) :: st) := by
  obtain ⟨⟨ha, hb, hn⟩, h⟩ := z_gd h
  have kk := kk h
  obtain ⟨p, l, e, R, s, m, args, below, meth, c, Q, cells, slots, A, H0, nL, g⟩ := C
  intro H locs ls hP hS hl
  refine lv_idiv hx.1 hx.2.1 hd (fun h => hn ((zi_eq hb zr_0).mp h)) ?_
  rw [zi_div ha hb]
  exact kk H locs ls hP hS hl
theorem z_irem (hx : z_ok C cc own sd) {a b : Int} {A : Option α} (hd : decode cc pc = .ok (.irem, 1)) (h : (if zr a ∧ zr b ∧ b ≠ 0 then A else none) = some r) (kk : A = some r → z_W C σ (pc + 1) lv (.int (zi (a.tmod b)) :: st)) : z_W C σ pc lv (.int (zi b) :: .int (zi a) :: st) := by
  obtain ⟨⟨ha, hb, hn⟩, h⟩ := z_gd h
  have kk := kk h
  obtain ⟨p, l, e, R, s, m, args, below, meth, c, Q, cells, slots, A, H0, nL, g⟩ := C
  intro H locs ls hP hS hl
  refine lv_irem hx.1 hx.2.1 hd (fun h => hn ((zi_eq hb zr_0).mp h)) ?_
  rw [zi_rem ha hb]
  exact kk H locs ls hP hS hl
theorem z_iushr16 (hx : z_ok C cc own sd) {a : Int} (hd : decode cc pc = .ok (.iushr, 1)) (kk : z_W C σ (pc + 1) lv (.int (zi (z_ushr a 16)) :: st)) : z_W C σ pc lv (.int (zi 16) :: .int (zi a) :: st) := by
  obtain ⟨p, l, e, R, s, m, args, below, meth, c, Q, cells, slots, A, H0, nL, g⟩ := C
  intro H locs ls hP hS hl
  exact lv_iushr hx.1 hx.2.1 hd (zi_ushr16 a) (kk H locs ls hP hS hl)
theorem z_ladd (hx : z_ok C cc own sd) {a b : Int} (hd : decode cc pc = .ok (.ladd, 1)) (kk : z_W C σ (pc + 1) lv (.long (zl (a + b)) :: st)) : z_W C σ pc lv (.long (zl b) :: .long (zl a) :: st) := by
  obtain ⟨p, l, e, R, s, m, args, below, meth, c, Q, cells, slots, A, H0, nL, g⟩ := C
  intro H locs ls hP hS hl
  refine lv_ladd hx.1 hx.2.1 hd ?_
  rw [zl_add]
  exact kk H locs ls hP hS hl
theorem z_lmul (hx : z_ok C cc own sd) {a b : Int} (hd : decode cc pc = .ok (.lmul, 1)) (kk : z_W C σ (pc + 1) lv (.long (zl (a * b)) :: st)) : z_W C σ pc lv (.long (zl b) :: .long (zl a) :: st) := by
  obtain ⟨p, l, e, R, s, m, args, below, meth, c, Q, cells, slots, A, H0, nL, g⟩ := C
  intro H locs ls hP hS hl
  refine lv_lmul hx.1 hx.2.1 hd ?_
  rw [zl_mul]
  exact kk H locs ls hP hS hl
theorem z_i2l (hx : z_ok C cc own sd) {a : Int} {A : Option α} (hd : decode cc pc = .ok (.i2l, 1)) (h : (if zr a then A else none) = some r) (kk : A = some r → z_W C σ (pc + 1) lv (.long (zl a) :: st)) : z_W C σ pc lv (.int (zi a) :: st) := by
  obtain ⟨ha, h⟩ := z_gd h
  have kk := kk h
  obtain ⟨p, l, e, R, s, m, args, below, meth, c, Q, cells, slots, A, H0, nL, g⟩ := C
  intro H locs ls hP hS hl
  exact lv_i2l hx.1 hx.2.1 hd (zi_long ha) (kk H locs ls hP hS hl)
-- the stack
theorem z_dup (hx : z_ok C cc own sd) {va : Value} (hd : decode cc pc = .ok (.dup, 1)) (hc : va.category = 1) (kk : z_W C σ (pc + 1) lv (va :: va :: st)) : z_W C σ pc lv (va :: st) := by
  obtain ⟨p, l, e, R, s, m, args, below, meth, c, Q, cells, slots, A, H0, nL, g⟩ := C
  intro H locs ls hP hS hl
  exact lv_dup hx.1 hx.2.1 hd hc (kk H locs ls hP hS hl)
theorem z_pop (hx : z_ok C cc own sd) {va : Value} (hd : decode cc pc = .ok (.pop, 1)) (hc : va.category = 1) (kk : z_W C σ (pc + 1) lv st) : z_W C σ pc lv (va :: st) := by
  obtain ⟨p, l, e, R, s, m, args, below, meth, c, Q, cells, slots, A, H0, nL, g⟩ := C
  intro H locs ls hP hS hl
  exact lv_pop hx.1 hx.2.1 hd hc (kk H locs ls hP hS hl)
theorem z_dup2 (hx : z_ok C cc own sd) {va vb : Value} (hd : decode cc pc = .ok (.dup2, 1)) (hc : va.category = 1) (hc2 : vb.category = 1) (kk : z_W C σ (pc + 1) lv (va :: vb :: va :: vb :: st)) : z_W C σ pc lv (va :: vb :: st) := by
  obtain ⟨p, l, e, R, s, m, args, below, meth, c, Q, cells, slots, A, H0, nL, g⟩ := C
  intro H locs ls hP hS hl
  exact lv_dup2_11 hx.1 hx.2.1 hd hc hc2 (kk H locs ls hP hS hl)
theorem z_goto (hx : z_ok C cc own sd) {off : Int} {tgt : Nat} (hd : decode cc pc = .ok (.goto off, 3)) (ht : (pc : Int) + off = (tgt : Int)) (kk : z_W C σ tgt lv st) : z_W C σ pc lv st := by
  obtain ⟨p, l, e, R, s, m, args, below, meth, c, Q, cells, slots, A, H0, nL, g⟩ := C
  intro H locs ls hP hS hl
  exact lv_goto hx.1 hx.2.1 hd ht (kk H locs ls hP hS hl)
-- branches (by program)
theorem z_icmp_lt (hx : z_ok C cc own sd) {a b : Int} {off : Int} {tgt : Nat} {gd : Prop} [Decidable gd] {A B : Option α} (hd : decode cc pc = .ok (.if_icmp .lt off, 3)) (ht : (pc : Int) + off = (tgt : Int)) (h : (if gd then (if a < b then A else B) else none) = some r) (hg : gd → zr a ∧ zr b) (kt : a < b → A = some r → z_W C σ tgt lv st) (kf : ¬ (a < b) → B = some r → z_W C σ (pc + 3) lv st) : z_W C σ pc lv (.int (zi b) :: .int (zi a) :: st) := by
  obtain ⟨g9, h⟩ := z_gd h
  obtain ⟨ha, hb⟩ := hg g9
  have kt := fun hc => kt hc (by rw [if_pos hc] at h; exact h)
  have kf := fun hc => kf hc (by rw [if_neg hc] at h; exact h)
  obtain ⟨p, l, e, R, s, m, args, below, meth, c, Q, cells, slots, A0, H0, nL, g⟩ := C
  intro H locs ls hP hS hl
  exact lv_icmp_lt hx.1 hx.2.1 hd ht (fun hc => kt ((zi_lt ha hb).mp hc) H locs ls hP hS hl) (fun hc => kf (fun h9 => hc ((zi_lt ha hb).mpr h9)) H locs ls hP hS hl)
theorem z_if_lt (hx : z_ok C cc own sd) {a : Int} {off : Int} {tgt : Nat} {gd : Prop} [Decidable gd] {A B : Option α} (hd : decode cc pc = .ok (.ifCond .lt off, 3)) (ht : (pc : Int) + off = (tgt : Int)) (h : (if gd then (if a < 0 then A else B) else none) = some r) (hg : gd → zr a) (kt : a < 0 → A = some r → z_W C σ tgt lv st) (kf : ¬ (a < 0) → B = some r → z_W C σ (pc + 3) lv st) : z_W C σ pc lv (.int (zi a) :: st) := by
  obtain ⟨g9, h⟩ := z_gd h
  obtain ha := hg g9
  have hb := zr_0
  have kt := fun hc => kt hc (by rw [if_pos hc] at h; exact h)
  have kf := fun hc => kf hc (by rw [if_neg hc] at h; exact h)
  obtain ⟨p, l, e, R, s, m, args, below, meth, c, Q, cells, slots, A0, H0, nL, g⟩ := C
  intro H locs ls hP hS hl
  exact lv_if_lt hx.1 hx.2.1 hd ht (fun hc => kt ((zi_lt ha hb).mp hc) H locs ls hP hS hl) (fun hc => kf (fun h9 => hc ((zi_lt ha hb).mpr h9)) H locs ls hP hS hl)
theorem z_icmp_le (hx : z_ok C cc own sd) {a b : Int} {off : Int} {tgt : Nat} {gd : Prop} [Decidable gd] {A B : Option α} (hd : decode cc pc = .ok (.if_icmp .le off, 3)) (ht : (pc : Int) + off = (tgt : Int)) (h : (if gd then (if a ≤ b then A else B) else none) = some r) (hg : gd → zr a ∧ zr b) (kt : a ≤ b → A = some r → z_W C σ tgt lv st) (kf : ¬ (a ≤ b) → B = some r → z_W C σ (pc + 3) lv st) : z_W C σ pc lv (.int (zi b) :: .int (zi a) :: st) := by
  obtain ⟨g9, h⟩ := z_gd h
  obtain ⟨ha, hb⟩ := hg g9
  have kt := fun hc => kt hc (by rw [if_pos hc] at h; exact h)
  have kf := fun hc => kf hc (by rw [if_neg hc] at h; exact h)
  obtain ⟨p, l, e, R, s, m, args, below, meth, c, Q, cells, slots, A0, H0, nL, g⟩ := C
  intro H locs ls hP hS hl
  exact lv_icmp_le hx.1 hx.2.1 hd ht (fun hc => kt ((zi_le ha hb).mp hc) H locs ls hP hS hl) (fun hc => kf (fun h9 => hc ((zi_le ha hb).mpr h9)) H locs ls hP hS hl)
theorem z_if_le (hx : z_ok C cc own sd) {a : Int} {off : Int} {tgt : Nat} {gd : Prop} [Decidable gd] {A B : Option α} (hd : decode cc pc = .ok (.ifCond .le off, 3)) (ht : (pc : Int) + off = (tgt : Int)) (h : (if gd then (if a ≤ 0 then A else B) else none) = some r) (hg : gd → zr a) (kt : a ≤ 0 → A = some r → z_W C σ tgt lv st) (kf : ¬ (a ≤ 0) → B = some r → z_W C σ (pc + 3) lv st) : z_W C σ pc lv (.int (zi a) :: st) := by
  obtain ⟨g9, h⟩ := z_gd h
  obtain ha := hg g9
  have hb := zr_0
  have kt := fun hc => kt hc (by rw [if_pos hc] at h; exact h)
  have kf := fun hc => kf hc (by rw [if_neg hc] at h; exact h)
  obtain ⟨p, l, e, R, s, m, args, below, meth, c, Q, cells, slots, A0, H0, nL, g⟩ := C
  intro H locs ls hP hS hl
  exact lv_if_le hx.1 hx.2.1 hd ht (fun hc => kt ((zi_le ha hb).mp hc) H locs ls hP hS hl) (fun hc => kf (fun h9 => hc ((zi_le ha hb).mpr h9)) H locs ls hP hS hl)
theorem z_icmp_gt (hx : z_ok C cc own sd) {a b : Int} {off : Int} {tgt : Nat} {gd : Prop} [Decidable gd] {A B : Option α} (hd : decode cc pc = .ok (.if_icmp .gt off, 3)) (ht : (pc : Int) + off = (tgt : Int)) (h : (if gd then (if b < a then A else B) else none) = some r) (hg : gd → zr a ∧ zr b) (kt : b < a → A = some r → z_W C σ tgt lv st) (kf : ¬ (b < a) → B = some r → z_W C σ (pc + 3) lv st) : z_W C σ pc lv (.int (zi b) :: .int (zi a) :: st) := by
  obtain ⟨g9, h⟩ := z_gd h
  obtain ⟨ha, hb⟩ := hg g9
  have kt := fun hc => kt hc (by rw [if_pos hc] at h; exact h)
  have kf := fun hc => kf hc (by rw [if_neg hc] at h; exact h)
  obtain ⟨p, l, e, R, s, m, args, below, meth, c, Q, cells, slots, A0, H0, nL, g⟩ := C
  intro H locs ls hP hS hl
  exact lv_icmp_gt hx.1 hx.2.1 hd ht (fun hc => kt ((zi_lt hb ha).mp hc) H locs ls hP hS hl) (fun hc => kf (fun h9 => hc ((zi_lt hb ha).mpr h9)) H locs ls hP hS hl)
theorem z_if_gt (hx : z_ok C cc own sd) {a : Int} {off : Int} {tgt : Nat} {gd : Prop} [Decidable gd] {A B : Option α} (hd : decode cc pc = .ok (.ifCond .gt off, 3)) (ht : (pc : Int) + off = (tgt : Int)) (h : (if gd then (if 0 < a then A else B) else none) = some r) (hg : gd → zr a) (kt : 0 < a → A = some r → z_W C σ tgt lv st) (kf : ¬ (0 < a) → B = some r → z_W C σ (pc + 3) lv st) : z_W C σ pc lv (.int (zi a) :: st) := by
  obtain ⟨g9, h⟩ := z_gd h
  obtain ha := hg g9
  have hb := zr_0
  have kt := fun hc => kt hc (by rw [if_pos hc] at h; exact h)
  have kf := fun hc => kf hc (by rw [if_neg hc] at h; exact h)
  obtain ⟨p, l, e, R, s, m, args, below, meth, c, Q, cells, slots, A0, H0, nL, g⟩ := C
  intro H locs ls hP hS hl
  exact lv_if_gt hx.1 hx.2.1 hd ht (fun hc => kt ((zi_lt hb ha).mp hc) H locs ls hP hS hl) (fun hc => kf (fun h9 => hc ((zi_lt hb ha).mpr h9)) H locs ls hP hS hl)
theorem z_icmp_ge (hx : z_ok C cc own sd) {a b : Int} {off : Int} {tgt : Nat} {gd : Prop} [Decidable gd] {A B : Option α} (hd : decode cc pc = .ok (.if_icmp .ge off, 3)) (ht : (pc : Int) + off = (tgt : Int)) (h : (if gd then (if b ≤ a then A else B) else none) = some r) (hg : gd → zr a ∧ zr b) (kt : b ≤ a → A = some r → z_W C σ tgt lv st) (kf : ¬ (b ≤ a) → B = some r → z_W C σ (pc + 3) lv st) : z_W C σ pc lv (.int (zi b) :: .int (zi a) :: st) := by
  obtain ⟨g9, h⟩ := z_gd h
  obtain ⟨ha, hb⟩ := hg g9
  have kt := fun hc => kt hc (by rw [if_pos hc] at h; exact h)
  have kf := fun hc => kf hc (by rw [if_neg hc] at h; exact h)
  obtain ⟨p, l, e, R, s, m, args, below, meth, c, Q, cells, slots, A0, H0, nL, g⟩ := C
  intro H locs ls hP hS hl
  exact lv_icmp_ge hx.1 hx.2.1 hd ht (fun hc => kt ((zi_le hb ha).mp hc) H locs ls hP hS hl) (fun hc => kf (fun h9 => hc ((zi_le hb ha).mpr h9)) H locs ls hP hS hl)
theorem z_if_ge (hx : z_ok C cc own sd) {a : Int} {off : Int} {tgt : Nat} {gd : Prop} [Decidable gd] {A B : Option α} (hd : decode cc pc = .ok (.ifCond .ge off, 3)) (ht : (pc : Int) + off = (tgt : Int)) (h : (if gd then (if 0 ≤ a then A else B) else none) = some r) (hg : gd → zr a) (kt : 0 ≤ a → A = some r → z_W C σ tgt lv st) (kf : ¬ (0 ≤ a) → B = some r → z_W C σ (pc + 3) lv st) : z_W C σ pc lv (.int (zi a) :: st) := by
  obtain ⟨g9, h⟩ := z_gd h
  obtain ha := hg g9
  have hb := zr_0
  have kt := fun hc => kt hc (by rw [if_pos hc] at h; exact h)
  have kf := fun hc => kf hc (by rw [if_neg hc] at h; exact h)
  obtain ⟨p, l, e, R, s, m, args, below, meth, c, Q, cells, slots, A0, H0, nL, g⟩ := C
  intro H locs ls hP hS hl
  exact lv_if_ge hx.1 hx.2.1 hd ht (fun hc => kt ((zi_le hb ha).mp hc) H locs ls hP hS hl) (fun hc => kf (fun h9 => hc ((zi_le hb ha).mpr h9)) H locs ls hP hS hl)
theorem z_icmp_eq (hx : z_ok C cc own sd) {a b : Int} {off : Int} {tgt : Nat} {gd : Prop} [Decidable gd] {A B : Option α} (hd : decode cc pc = .ok (.if_icmp .eq off, 3)) (ht : (pc : Int) + off = (tgt : Int)) (h : (if gd then (if a = b then A else B) else none) = some r) (hg : gd → zr a ∧ zr b) (kt : a = b → A = some r → z_W C σ tgt lv st) (kf : ¬ (a = b) → B = some r → z_W C σ (pc + 3) lv st) : z_W C σ pc lv (.int (zi b) :: .int (zi a) :: st) := by
  obtain ⟨g9, h⟩ := z_gd h
  obtain ⟨ha, hb⟩ := hg g9
  have kt := fun hc => kt hc (by rw [if_pos hc] at h; exact h)
  have kf := fun hc => kf hc (by rw [if_neg hc] at h; exact h)
  obtain ⟨p, l, e, R, s, m, args, below, meth, c, Q, cells, slots, A0, H0, nL, g⟩ := C
  intro H locs ls hP hS hl
  exact lv_icmp_eq hx.1 hx.2.1 hd ht (fun hc => kt ((zi_eq ha hb).mp hc) H locs ls hP hS hl) (fun hc => kf (fun h9 => hc ((zi_eq ha hb).mpr h9)) H locs ls hP hS hl)
theorem z_if_eq (hx : z_ok C cc own sd) {a : Int} {off : Int} {tgt : Nat} {gd : Prop} [Decidable gd] {A B : Option α} (hd : decode cc pc = .ok (.ifCond .eq off, 3)) (ht : (pc : Int) + off = (tgt : Int)) (h : (if gd then (if a = 0 then A else B) else none) = some r) (hg : gd → zr a) (kt : a = 0 → A = some r → z_W C σ tgt lv st) (kf : ¬ (a = 0) → B = some r → z_W C σ (pc + 3) lv st) : z_W C σ pc lv (.int (zi a) :: st) := by
  obtain ⟨g9, h⟩ := z_gd h
  obtain ha := hg g9
  have hb := zr_0
  have kt := fun hc => kt hc (by rw [if_pos hc] at h; exact h)
  have kf := fun hc => kf hc (by rw [if_neg hc] at h; exact h)
  obtain ⟨p, l, e, R, s, m, args, below, meth, c, Q, cells, slots, A0, H0, nL, g⟩ := C
  intro H locs ls hP hS hl
  exact lv_if_eq hx.1 hx.2.1 hd ht (fun hc => kt ((zi_eq ha hb).mp hc) H locs ls hP hS hl) (fun hc => kf (fun h9 => hc ((zi_eq ha hb).mpr h9)) H locs ls hP hS hl)
theorem z_icmp_ne (hx : z_ok C cc own sd) {a b : Int} {off : Int} {tgt : Nat} {gd : Prop} [Decidable gd] {A B : Option α} (hd : decode cc pc = .ok (.if_icmp .ne off, 3)) (ht : (pc : Int) + off = (tgt : Int)) (h : (if gd then (if ¬ a = b then A else B) else none) = some r) (hg : gd → zr a ∧ zr b) (kt : ¬ a = b → A = some r → z_W C σ tgt lv st) (kf : ¬ (¬ a = b) → B = some r → z_W C σ (pc + 3) lv st) : z_W C σ pc lv (.int (zi b) :: .int (zi a) :: st) := by
  obtain ⟨g9, h⟩ := z_gd h
  obtain ⟨ha, hb⟩ := hg g9
  have kt := fun hc => kt hc (by rw [if_pos hc] at h; exact h)
  have kf := fun hc => kf hc (by rw [if_neg hc] at h; exact h)
  obtain ⟨p, l, e, R, s, m, args, below, meth, c, Q, cells, slots, A0, H0, nL, g⟩ := C
  intro H locs ls hP hS hl
  exact lv_icmp_ne hx.1 hx.2.1 hd ht (fun hc => kt ((not_congr (zi_eq ha hb)).mp hc) H locs ls hP hS hl) (fun hc => kf (Decidable.not_not.mpr ((zi_eq ha hb).mp hc)) H locs ls hP hS hl)
theorem z_if_ne (hx : z_ok C cc own sd) {a : Int} {off : Int} {tgt : Nat} {gd : Prop} [Decidable gd] {A B : Option α} (hd : decode cc pc = .ok (.ifCond .ne off, 3)) (ht : (pc : Int) + off = (tgt : Int)) (h : (if gd then (if ¬ a = 0 then A else B) else none) = some r) (hg : gd → zr a) (kt : ¬ a = 0 → A = some r → z_W C σ tgt lv st) (kf : ¬ (¬ a = 0) → B = some r → z_W C σ (pc + 3) lv st) : z_W C σ pc lv (.int (zi a) :: st) := by
  obtain ⟨g9, h⟩ := z_gd h
  obtain ha := hg g9
  have hb := zr_0
  have kt := fun hc => kt hc (by rw [if_pos hc] at h; exact h)
  have kf := fun hc => kf hc (by rw [if_neg hc] at h; exact h)
  obtain ⟨p, l, e, R, s, m, args, below, meth, c, Q, cells, slots, A0, H0, nL, g⟩ := C
  intro H locs ls hP hS hl
  exact lv_if_ne hx.1 hx.2.1 hd ht (fun hc => kt ((not_congr (zi_eq ha hb)).mp hc) H locs ls hP hS hl) (fun hc => kf (Decidable.not_not.mpr ((zi_eq ha hb).mp hc)) H locs ls hP hS hl)
end
end
section
/-! ROWS OF FIELDS, ARRAYS, CALLS, BEGINNINGS AND ENDS -/
theorem z_up_row (σ : zS) (k : Nat) (i v : Int) : z_up σ k i v k = fun b => if b = i then v else σ k b := by
  funext b; simp [z_up]
theorem z_up_ne (σ : zS) (k : Nat) (i v : Int) (a : Nat) (h : a ≠ k) : z_up σ k i v a = σ a := by
  funext b; simp [z_up, h]
theorem z_side0 {g : zG} (h : g.1 = 0) : z_mk g = z_mk0 g.2.1 g.2.2.1 g.2.2.2.1 g.2.2.2.2.1 := by
  obtain ⟨sd, ad, cI, cZ, cR, D⟩ := g
  cases h
  rfl
theorem z_side1 {g : zG} (h : g.1 = 1) : z_mk g = z_mk1 g.2.1 g.2.2.1 := by
  obtain ⟨sd, ad, cI, cZ, cR, D⟩ := g
  cases h
  rfl
theorem z_N0 {g : zG} (h : g.1 = 0) : z_N g = 64 := by simp [z_N, h]
theorem z_N1 {g : zG} (h : g.1 = 1) : z_N g = 10 := by simp [z_N, h]
section
variable {C : zC} {cc : ByteArray} {own : String} {sd : Nat} {σ : zS} {pc : Nat} {lv : List (Nat × Value)} {st : List Value} {α : Type} {r : α}
theorem z_ok_sd (hx : z_ok C cc own sd) : (z_g C).1 = sd := by
  obtain ⟨p, l, e, R, s, m, args, below, meth, c, Q, cells, slots, A, H0, nL, g⟩ := C
  exact hx.2.2.2.2.2.2.2.2.1
theorem z_getf (hx : z_ok C cc own sd) {CN : String} {T : u_T} {N ci index : Nat} {k : Nat} (hk : k < z_N (z_g C)) {fs : List Value} (hm : z_mk (z_g C) k (σ k) = .inr (ci, fs)) (hc : vwCl[ci]? = some (CN, T, N)) (hin : ∀ w ∈ u_ws CN T N, w ∈ z_ws) (j : Nat) (hj : j < N) (hw : Cond.fieldLink own index CN (T j).2.1 (T j).2.2.1 ∈ z_ws) (hT : (T j).1 = CN) {v : Value} (hv : fs[j]? = some v) (hd : decode cc pc = .ok (.getfield index, 3)) (kk : z_W C σ (pc + 3) lv (v :: st)) : z_W C σ pc lv (.ref (z_ad (z_g C) k) :: st) := by
  obtain ⟨p, l, e, R, s, m, args, below, meth, c, Q, cells, slots, A, H0, nL, g⟩ := C
  intro H locs ls hP hS hl
  have he := z_wd_get (mk := z_mk g) (ad := g.2.1) (σ := σ) hk
  rw [hm] at he
  obtain ⟨h1, h2, h3, h4, h5, h6, h7, h8, h9, h10, h11, h12⟩ := hx
  exact va_get h1 h2 h5 hin h4 h6 hP k he hc j hj (h5 _ hw) (fun x hx => by rw [← hT]; exact hx) hv hd (kk H locs ls hP hS hl)
theorem z_putf (hx : z_ok C cc own sd) {CN : String} {T : u_T} {N ci index : Nat} {k : Nat} (hk : k < z_N (z_g C)) (fs : (Int → Int) → List Value) (hm : ∀ f, z_mk (z_g C) k f = .inr (ci, fs f)) (hc : vwCl[ci]? = some (CN, T, N)) (hin : ∀ w ∈ u_ws CN T N, w ∈ z_ws) (ty0 : Nat → FieldType) (hty : ∀ k, k < N → parseFieldDescriptor (T k).2.2.1 = some (ty0 k)) (hnm : ∀ a, a < N → ∀ b, b < N → a ≠ b → (T a).2.1 ≠ (T b).2.1) (j : Nat) (hj : j < N) (hw : Cond.fieldLink own index CN (T j).2.1 (T j).2.2.1 ∈ z_ws) (hT : (T j).1 = CN) (hfin : (T j).2.2.2 = false) (hI : ty0 j = .int) {v : Int} (hlen : ∀ f, j < (fs f).length) (hset : ∀ f, (fs f).set j (.int (zi v)) = fs (fun b => if b = (j : Int) then v else f b)) {i : Int} (hi : (j : Int) = i) {K : zS → Option α} (hd : decode cc pc = .ok (.putfield index, 3)) (h : z_put σ k i v K = some r) (kk : ∀ σ1, K σ1 = some r → z_W C σ1 (pc + 3) lv st) : z_W C σ pc lv (.int (zi v) :: .ref (z_ad (z_g C) k) :: st) := by
  have kk := kk _ h
  obtain ⟨p, l, e, R, s, m, args, below, meth, c, Q, cells, slots, A, H0, nL, g⟩ := C
  intro H locs ls hP hS hl
  have he := z_wd_get (mk := z_mk g) (ad := g.2.1) (σ := σ) hk
  rw [hm] at he
  obtain ⟨h1, h2, h3, h4, h5, h6, h7, h8, h9, h10, h11, h12⟩ := hx
  refine va_put h1 h2 h5 hin ty0 hty hnm h4 h6 hP (h7 σ) hS k he hc j hj (h5 _ hw) (fun x hx => by rw [← hT]; exact hx) hfin (ty := .int) (v := .int (zi v)) (by rw [hty j hj, hI]) rfl rfl (hlen _) hd (fun H1 locs1 hP1 hD1 hS1 => ?_)
  refine kk H1 locs1 ls ?_ hS1 hl
  have e1 := z_wd_set (mk := z_mk g) (N := z_N g) (ad := g.2.1) (σ := σ) (τ := z_up σ k i v) (k := k) (e := .inr (ci, (fs (σ k)).set j (.int (zi v)))) (by rw [z_up_row, hm, hset, hi]) (fun a ha => z_up_ne σ k i v a ha)
  rw [e1] at hP1
  exact hP1
theorem z_ald_aux {f : Int → Int} {i : Int} (h0 : 0 ≤ i) (h1 : i < 2147483648) : z_ar f (zi i).toNatClampNeg = zi (f i) := by
  show zi (f _) = _
  rw [zi_clamp h0 h1, Int.toNat_of_nonneg h0]
theorem z_iald (hx : z_ok C cc own sd) {k N : Nat} {n : Int} (hk : k < z_N (z_g C)) (hm : z_mk (z_g C) k (σ k) = .inl ((z_g C).2.2.1, N, .inl (z_ar (σ k)))) (hN : (N : Int) = n) (hb : n ≤ 2147483647) {i : Int} {A : Option α} (hd : decode cc pc = .ok (.iaload, 1)) (h : (if 0 ≤ i ∧ i < n then A else none) = some r) (kk : A = some r → z_W C σ (pc + 1) lv (.int (zi (σ k i)) :: st)) : z_W C σ pc lv (.int (zi i) :: .ref (z_ad (z_g C) k) :: st) := by
  obtain ⟨⟨i0, i1⟩, h⟩ := z_gd h
  have kk := kk h
  obtain ⟨p, l, e, R, s, m, args, below, meth, c, Q, cells, slots, A, H0, nL, g⟩ := C
  intro H locs ls hP hS hl
  have he := z_wd_get (mk := z_mk g) (ad := g.2.1) (σ := σ) hk
  rw [hm] at he
  obtain ⟨h1, h2, h3, h4, h5, h6, h7, h8, h9, h10, h11, h12⟩ := hx
  refine va_iald h1 h2 h6 hP k 0 he rfl (zi_in i0 (by omega) (by omega)) hd ?_
  rw [z_ald_aux i0 (by omega)]
  exact kk H locs ls hP hS hl
theorem z_zald (hx : z_ok C cc own sd) {k N : Nat} {n : Int} (hk : k < z_N (z_g C)) (hm : z_mk (z_g C) k (σ k) = .inl ((z_g C).2.2.2.1, N, .inl (z_ar (σ k)))) (hN : (N : Int) = n) (hb : n ≤ 2147483647) {i : Int} {A : Option α} (hd : decode cc pc = .ok (.baload, 1)) (h : (if 0 ≤ i ∧ i < n then A else none) = some r) (kk : A = some r → z_W C σ (pc + 1) lv (.int (zi (σ k i)) :: st)) : z_W C σ pc lv (.int (zi i) :: .ref (z_ad (z_g C) k) :: st) := by
  obtain ⟨⟨i0, i1⟩, h⟩ := z_gd h
  have kk := kk h
  obtain ⟨p, l, e, R, s, m, args, below, meth, c, Q, cells, slots, A, H0, nL, g⟩ := C
  intro H locs ls hP hS hl
  have he := z_wd_get (mk := z_mk g) (ad := g.2.1) (σ := σ) hk
  rw [hm] at he
  obtain ⟨h1, h2, h3, h4, h5, h6, h7, h8, h9, h10, h11, h12⟩ := hx
  refine va_zald h1 h2 h6 hP k 1 he rfl (zi_in i0 (by omega) (by omega)) hd ?_
  rw [z_ald_aux i0 (by omega)]
  exact kk H locs ls hP hS hl
theorem z_iast (hx : z_ok C cc own sd) {k N : Nat} {n : Int} (hk : k < z_N (z_g C)) (hm : ∀ f, z_mk (z_g C) k f = .inl ((z_g C).2.2.1, N, .inl (z_ar f))) (hN : (N : Int) = n) (hb : n ≤ 2147483647) {i v : Int} {K : zS → Option α} (hd : decode cc pc = .ok (.iastore, 1)) (h : (if 0 ≤ i ∧ i < n then z_put σ k i v K else none) = some r) (kk : ∀ σ1, K σ1 = some r → z_W C σ1 (pc + 1) lv st) : z_W C σ pc lv (.int (zi v) :: .int (zi i) :: .ref (z_ad (z_g C) k) :: st) := by
  obtain ⟨⟨i0, i1⟩, h⟩ := z_gd h
  have kk := kk _ h
  obtain ⟨p, l, e, R, s, m, args, below, meth, c, Q, cells, slots, A, H0, nL, g⟩ := C
  intro H locs ls hP hS hl
  have he := z_wd_get (mk := z_mk g) (ad := g.2.1) (σ := σ) hk
  rw [hm] at he
  obtain ⟨h1, h2, h3, h4, h5, h6, h7, h8, h9, h10, h11, h12⟩ := hx
  refine va_iast h1 h2 h6 hP (h7 σ) hS k 0 he rfl (zi_in i0 (by omega) (by omega)) hd (fun H1 locs1 hP1 hD1 hS1 => ?_)
  refine kk H1 locs1 ls ?_ hS1 hl
  rw [z_ar_up i0 (by omega)] at hP1
  have e1 := z_wd_set (mk := z_mk g) (N := z_N g) (ad := g.2.1) (σ := σ) (τ := z_up σ k i v) (k := k) (e := .inl (g.2.2.1, N, .inl (z_ar (fun b => if b = i then v else σ k b)))) (by rw [z_up_row]; exact (hm _).symm) (fun a ha => z_up_ne σ k i v a ha)
  show va_P g.2.2.2.2.2 vwCl (z_wd (z_mk g) (z_N g) g.2.1 (z_up σ k i v)) H1
  rw [← e1]
  exact hP1
theorem z_nar {v : Int} (h : 0 ≤ v ∧ v ≤ 1) : vp_nar .boolean (zi v) = zi v ∧ narrow .boolean (.int (zi v)) = .int (zi v) := by
  rcases (show v = 0 ∨ v = 1 by omega) with rfl | rfl <;> exact ⟨rfl, rfl⟩
theorem z_zast (hx : z_ok C cc own sd) {k N : Nat} {n : Int} (hk : k < z_N (z_g C)) (hm : ∀ f, z_mk (z_g C) k f = .inl ((z_g C).2.2.2.1, N, .inl (z_ar f))) (hN : (N : Int) = n) (hb : n ≤ 2147483647) {i v : Int} {K : zS → Option α} (hd : decode cc pc = .ok (.bastore, 1)) (h : (if (0 ≤ i ∧ i < n) ∧ 0 ≤ v ∧ v ≤ 1 then z_put σ k i v K else none) = some r) (kk : ∀ σ1, K σ1 = some r → z_W C σ1 (pc + 1) lv st) : z_W C σ pc lv (.int (zi v) :: .int (zi i) :: .ref (z_ad (z_g C) k) :: st) := by
  obtain ⟨⟨⟨i0, i1⟩, hv⟩, h⟩ := z_gd h
  have kk := kk _ h
  obtain ⟨p, l, e, R, s, m, args, below, meth, c, Q, cells, slots, A, H0, nL, g⟩ := C
  intro H locs ls hP hS hl
  have he := z_wd_get (mk := z_mk g) (ad := g.2.1) (σ := σ) hk
  rw [hm] at he
  obtain ⟨h1, h2, h3, h4, h5, h6, h7, h8, h9, h10, h11, h12⟩ := hx
  refine va_zast h1 h2 h6 hP (h7 σ) hS k 1 he rfl (zi_in i0 (by omega) (by omega)) hd (fun H1 locs1 hP1 hD1 hS1 => ?_)
  refine kk H1 locs1 ls ?_ hS1 hl
  rw [(z_nar hv).1, z_ar_up i0 (by omega)] at hP1
  have e1 := z_wd_set (mk := z_mk g) (N := z_N g) (ad := g.2.1) (σ := σ) (τ := z_up σ k i v) (k := k) (e := .inl (g.2.2.2.1, N, .inl (z_ar (fun b => if b = i then v else σ k b)))) (by rw [z_up_row]; exact (hm _).symm) (fun a ha => z_up_ne σ k i v a ha)
  show va_P g.2.2.2.2.2 vwCl (z_wd (z_mk g) (z_N g) g.2.1 (z_up σ k i v)) H1
  rw [← e1]
  exact hP1
theorem z_alen (hx : z_ok C cc own sd) {k N : Nat} {n : Int} (hk : k < z_N (z_g C)) (hm : z_mk (z_g C) k (σ k) = .inl ((z_g C).2.2.1, N, .inl (z_ar (σ k)))) (hN : Int32.ofNat N = zi n) (hd : decode cc pc = .ok (.arraylength, 1)) (kk : z_W C σ (pc + 1) lv (.int (zi n) :: st)) : z_W C σ pc lv (.ref (z_ad (z_g C) k) :: st) := by
  obtain ⟨p, l, e, R, s, m, args, below, meth, c, Q, cells, slots, A, H0, nL, g⟩ := C
  intro H locs ls hP hS hl
  have he := z_wd_get (mk := z_mk g) (ad := g.2.1) (σ := σ) hk
  rw [hm] at he
  obtain ⟨h1, h2, h3, h4, h5, h6, h7, h8, h9, h10, h11, h12⟩ := hx
  exact va_alen h1 h2 h6 hP k 0 he rfl hN hd (kk H locs ls hP hS hl)
end
end
