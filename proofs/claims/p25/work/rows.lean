section
-- ===== PART A: goes FIRST, ahead of the names: the tables' words, and 'selects' of the private methods out of them =====
/-- a private method of a class that the tables say can be made, by its rows of tables_1 -/
def lw_okq (q : MethodName × Nat) : Prop := (q.1.cls ≠ "java/lang/invoke/MethodHandle" ∧ q.1.cls ≠ "java/lang/invoke/VarHandle") ∧ Cond.instantiable q.1.cls q.2 ∈ tables_1 ∧ Cond.privateMethod q.1 ∈ tables_1 ∧ Cond.instanceMethod q.1 ∈ tables_1
theorem lw_p0 : lw_okq (⟨"StretchSpool$Command", "parseNumber", "(LStretchSpool$Text;)I"⟩, 6) := ⟨⟨by decide +kernel, by decide +kernel⟩, List.mem_of_getElem? (i := 161) (by decide +kernel), List.mem_of_getElem? (i := 324) (by decide +kernel), List.mem_of_getElem? (i := 325) (by decide +kernel)⟩
theorem lw_p1 : lw_okq (⟨"StretchSpool$Command", "parseBlank", "(LStretchSpool$Text;)V"⟩, 6) := ⟨⟨by decide +kernel, by decide +kernel⟩, List.mem_of_getElem? (i := 161) (by decide +kernel), List.mem_of_getElem? (i := 328) (by decide +kernel), List.mem_of_getElem? (i := 329) (by decide +kernel)⟩
theorem lw_p2 : lw_okq (⟨"StretchSpool$Command", "parseLetters", "(LStretchSpool$Text;)V"⟩, 6) := ⟨⟨by decide +kernel, by decide +kernel⟩, List.mem_of_getElem? (i := 161) (by decide +kernel), List.mem_of_getElem? (i := 332) (by decide +kernel), List.mem_of_getElem? (i := 333) (by decide +kernel)⟩
theorem lw_p3 : lw_okq (⟨"StretchSpool", "writeWire", "(III)I"⟩, 9) := ⟨⟨by decide +kernel, by decide +kernel⟩, List.mem_of_getElem? (i := 16) (by decide +kernel), List.mem_of_getElem? (i := 336) (by decide +kernel), List.mem_of_getElem? (i := 337) (by decide +kernel)⟩
theorem lw_p4 : lw_okq (⟨"StretchSpool$History", "turn", "()V"⟩, 2) := ⟨⟨by decide +kernel, by decide +kernel⟩, List.mem_of_getElem? (i := 129) (by decide +kernel), List.mem_of_getElem? (i := 347) (by decide +kernel), List.mem_of_getElem? (i := 348) (by decide +kernel)⟩
theorem lw_p5 : lw_okq (⟨"StretchSpool$Wire", "putGap", "(III)V"⟩, 7) := ⟨⟨by decide +kernel, by decide +kernel⟩, List.mem_of_getElem? (i := 51) (by decide +kernel), List.mem_of_getElem? (i := 375) (by decide +kernel), List.mem_of_getElem? (i := 376) (by decide +kernel)⟩
theorem lw_p6 : lw_okq (⟨"StretchSpool$Wire", "sum", "([I)I"⟩, 7) := ⟨⟨by decide +kernel, by decide +kernel⟩, List.mem_of_getElem? (i := 51) (by decide +kernel), List.mem_of_getElem? (i := 395) (by decide +kernel), List.mem_of_getElem? (i := 396) (by decide +kernel)⟩
theorem lw_p7 : lw_okq (⟨"StretchSpool$Log", "dropOldest", "()V"⟩, 4) := ⟨⟨by decide +kernel, by decide +kernel⟩, List.mem_of_getElem? (i := 32) (by decide +kernel), List.mem_of_getElem? (i := 410) (by decide +kernel), List.mem_of_getElem? (i := 411) (by decide +kernel)⟩
theorem lw_p8 : lw_okq (⟨"StretchSpool$State", "breakWire", "(II)V"⟩, 9) := ⟨⟨by decide +kernel, by decide +kernel⟩, List.mem_of_getElem? (i := 24) (by decide +kernel), List.mem_of_getElem? (i := 433) (by decide +kernel), List.mem_of_getElem? (i := 434) (by decide +kernel)⟩
theorem lw_p9 : lw_okq (⟨"StretchSpool$Wire", "appendBehind", "(LStretchSpool$Wire;I)V"⟩, 7) := ⟨⟨by decide +kernel, by decide +kernel⟩, List.mem_of_getElem? (i := 51) (by decide +kernel), List.mem_of_getElem? (i := 459) (by decide +kernel), List.mem_of_getElem? (i := 460) (by decide +kernel)⟩
theorem lw_p10 : lw_okq (⟨"StretchSpool$Wire", "copyGap", "(LStretchSpool$Wire;II)V"⟩, 7) := ⟨⟨by decide +kernel, by decide +kernel⟩, List.mem_of_getElem? (i := 51) (by decide +kernel), List.mem_of_getElem? (i := 463) (by decide +kernel), List.mem_of_getElem? (i := 464) (by decide +kernel)⟩
theorem lw_p11 : lw_okq (⟨"StretchSpool$Reader", "judge", "(III)V"⟩, 4) := ⟨⟨by decide +kernel, by decide +kernel⟩, List.mem_of_getElem? (i := 191) (by decide +kernel), List.mem_of_getElem? (i := 504) (by decide +kernel), List.mem_of_getElem? (i := 505) (by decide +kernel)⟩
def lw_privs_1 : List (MethodName × Nat) := [(⟨"StretchSpool$Command", "parseNumber", "(LStretchSpool$Text;)I"⟩, 6), (⟨"StretchSpool$Command", "parseBlank", "(LStretchSpool$Text;)V"⟩, 6), (⟨"StretchSpool$Command", "parseLetters", "(LStretchSpool$Text;)V"⟩, 6), (⟨"StretchSpool", "writeWire", "(III)I"⟩, 9), (⟨"StretchSpool$History", "turn", "()V"⟩, 2), (⟨"StretchSpool$Wire", "putGap", "(III)V"⟩, 7), (⟨"StretchSpool$Wire", "sum", "([I)I"⟩, 7), (⟨"StretchSpool$Log", "dropOldest", "()V"⟩, 4), (⟨"StretchSpool$State", "breakWire", "(II)V"⟩, 9), (⟨"StretchSpool$Wire", "appendBehind", "(LStretchSpool$Wire;I)V"⟩, 7), (⟨"StretchSpool$Wire", "copyGap", "(LStretchSpool$Wire;II)V"⟩, 7), (⟨"StretchSpool$Reader", "judge", "(III)V"⟩, 4)]
theorem lw_r1 : ∀ q ∈ lw_privs_1, lw_okq q := List.forall_mem_cons.mpr ⟨lw_p0, List.forall_mem_cons.mpr ⟨lw_p1, List.forall_mem_cons.mpr ⟨lw_p2, List.forall_mem_cons.mpr ⟨lw_p3, List.forall_mem_cons.mpr ⟨lw_p4, List.forall_mem_cons.mpr ⟨lw_p5, List.forall_mem_cons.mpr ⟨lw_p6, List.forall_mem_cons.mpr ⟨lw_p7, List.forall_mem_cons.mpr ⟨lw_p8, List.forall_mem_cons.mpr ⟨lw_p9, List.forall_mem_cons.mpr ⟨lw_p10, List.forall_mem_cons.mpr ⟨lw_p11, fun _ h => absurd h List.not_mem_nil⟩⟩⟩⟩⟩⟩⟩⟩⟩⟩⟩⟩
def lw_privs : List (MethodName × Nat) := lw_privs_1
def lw_tbl : List Cond := k2_sels lw_privs ++ tables_1
theorem lw_privs_ok : ∀ q ∈ lw_privs, lw_okq q := lw_r1
def RX0 : String := "StretchSpool$Command"
def TX0 : u_T := fun k => match k with
  | 0 => ("StretchSpool$Command", "word", "I", false)
  | 1 => ("StretchSpool$Command", "first", "I", false)
  | 2 => ("StretchSpool$Command", "second", "I", false)
  | 3 => ("StretchSpool$Command", "letterPlace", "I", false)
  | 4 => ("StretchSpool$Command", "fault", "I", false)
  | _ => ("StretchSpool$Command", "place", "I", false)
def tyX0 : Nat → FieldType := fun k => match k with
  | 0 => .int
  | 1 => .int
  | 2 => .int
  | 3 => .int
  | 4 => .int
  | _ => .int
theorem nmX0 : ∀ a, a < 6 → ∀ b, b < 6 → a ≠ b → (TX0 a).2.1 ≠ (TX0 b).2.1 := by decide +kernel
theorem tyX0_ok : ∀ k, k < 6 → parseFieldDescriptor (TX0 k).2.2.1 = some (tyX0 k) := by decide +kernel
abbrev cX0_init : ByteArray := prog_2_method_1_code
def yX0_init : MethodName := ⟨RX0, "<init>", "()V"⟩
abbrev cX0_parse : ByteArray := prog_2_method_2_code
def yX0_parse : MethodName := ⟨RX0, "parse", "(LStretchSpool$Text;)V"⟩
abbrev cX0_lengthOfWord : ByteArray := prog_2_method_3_code
def yX0_lengthOfWord : MethodName := ⟨RX0, "lengthOfWord", "(LStretchSpool$Text;)I"⟩
abbrev cX0_wordOf : ByteArray := prog_2_method_4_code
def yX0_wordOf : MethodName := ⟨RX0, "wordOf", "(LStretchSpool$Text;I)I"⟩
abbrev cX0_parseNumber : ByteArray := prog_2_method_5_code
def yX0_parseNumber : MethodName := ⟨RX0, "parseNumber", "(LStretchSpool$Text;)I"⟩
abbrev cX0_parseLetters : ByteArray := prog_2_method_6_code
def yX0_parseLetters : MethodName := ⟨RX0, "parseLetters", "(LStretchSpool$Text;)V"⟩
abbrev cX0_parseBlank : ByteArray := prog_2_method_7_code
def yX0_parseBlank : MethodName := ⟨RX0, "parseBlank", "(LStretchSpool$Text;)V"⟩
abbrev cX0_isBetween : ByteArray := prog_2_method_8_code
def yX0_isBetween : MethodName := ⟨RX0, "isBetween", "(III)Z"⟩
def RX1 : String := "StretchSpool$History"
def TX1 : u_T := fun k => match k with
  | 0 => ("StretchSpool$History", "states", "[LStretchSpool$State;", true)
  | _ => ("StretchSpool$History", "size", "I", false)
def tyX1 : Nat → FieldType := fun k => match k with
  | 0 => .array (.object "StretchSpool$State")
  | _ => .int
theorem nmX1 : ∀ a, a < 2 → ∀ b, b < 2 → a ≠ b → (TX1 a).2.1 ≠ (TX1 b).2.1 := by decide +kernel
theorem tyX1_ok : ∀ k, k < 2 → parseFieldDescriptor (TX1 k).2.2.1 = some (tyX1 k) := by decide +kernel
abbrev cX1_init : ByteArray := prog_3_method_1_code
def yX1_init : MethodName := ⟨RX1, "<init>", "()V"⟩
abbrev cX1_remember : ByteArray := prog_3_method_2_code
def yX1_remember : MethodName := ⟨RX1, "remember", "(LStretchSpool$State;)V"⟩
abbrev cX1_turn : ByteArray := prog_3_method_3_code
def yX1_turn : MethodName := ⟨RX1, "turn", "()V"⟩
abbrev cX1_takeBack : ByteArray := prog_3_method_4_code
def yX1_takeBack : MethodName := ⟨RX1, "takeBack", "(LStretchSpool$State;)Z"⟩
def RX2 : String := "StretchSpool$Log"
def TX2 : u_T := fun k => match k with
  | 0 => ("StretchSpool$Log", "kinds", "[I", true)
  | 1 => ("StretchSpool$Log", "spools", "[I", true)
  | 2 => ("StretchSpool$Log", "numbers", "[I", true)
  | _ => ("StretchSpool$Log", "size", "I", false)
def tyX2 : Nat → FieldType := fun k => match k with
  | 0 => .array .int
  | 1 => .array .int
  | 2 => .array .int
  | _ => .int
theorem nmX2 : ∀ a, a < 4 → ∀ b, b < 4 → a ≠ b → (TX2 a).2.1 ≠ (TX2 b).2.1 := by decide +kernel
theorem tyX2_ok : ∀ k, k < 4 → parseFieldDescriptor (TX2 k).2.2.1 = some (tyX2 k) := by decide +kernel
abbrev cX2_init : ByteArray := prog_4_method_1_code
def yX2_init : MethodName := ⟨RX2, "<init>", "()V"⟩
abbrev cX2_copyFrom : ByteArray := prog_4_method_2_code
def yX2_copyFrom : MethodName := ⟨RX2, "copyFrom", "(LStretchSpool$Log;)V"⟩
abbrev cX2_add : ByteArray := prog_4_method_3_code
def yX2_add : MethodName := ⟨RX2, "add", "(III)V"⟩
abbrev cX2_dropOldest : ByteArray := prog_4_method_4_code
def yX2_dropOldest : MethodName := ⟨RX2, "dropOldest", "()V"⟩
abbrev cX2_tell : ByteArray := prog_4_method_5_code
def yX2_tell : MethodName := ⟨RX2, "tell", "(II)I"⟩
def RX3 : String := "StretchSpool$Reader"
def TX3 : u_T := fun k => match k with
  | 0 => ("StretchSpool$Reader", "numbers", "[I", true)
  | 1 => ("StretchSpool$Reader", "misread", "I", false)
  | 2 => ("StretchSpool$Reader", "unread", "I", false)
  | _ => ("StretchSpool$Reader", "firstError", "I", false)
def tyX3 : Nat → FieldType := fun k => match k with
  | 0 => .array .int
  | 1 => .int
  | 2 => .int
  | _ => .int
theorem nmX3 : ∀ a, a < 4 → ∀ b, b < 4 → a ≠ b → (TX3 a).2.1 ≠ (TX3 b).2.1 := by decide +kernel
theorem tyX3_ok : ∀ k, k < 4 → parseFieldDescriptor (TX3 k).2.2.1 = some (tyX3 k) := by decide +kernel
abbrev cX3_init : ByteArray := prog_5_method_1_code
def yX3_init : MethodName := ⟨RX3, "<init>", "()V"⟩
abbrev cX3_readAll : ByteArray := prog_5_method_2_code
def yX3_readAll : MethodName := ⟨RX3, "readAll", "(LStretchSpool$Wire;I)V"⟩
abbrev cX3_measureBetweenEnds : ByteArray := prog_5_method_3_code
def yX3_measureBetweenEnds : MethodName := ⟨RX3, "measureBetweenEnds", "(LStretchSpool$Wire;I)I"⟩
abbrev cX3_numberOf : ByteArray := prog_5_method_4_code
def yX3_numberOf : MethodName := ⟨RX3, "numberOf", "(II)I"⟩
abbrev cX3_judge : ByteArray := prog_5_method_5_code
def yX3_judge : MethodName := ⟨RX3, "judge", "(III)V"⟩
abbrev cX3_errorCount : ByteArray := prog_5_method_6_code
def yX3_errorCount : MethodName := ⟨RX3, "errorCount", "()I"⟩
abbrev cX3_readTheSame : ByteArray := prog_5_method_7_code
def yX3_readTheSame : MethodName := ⟨RX3, "readTheSame", "(LStretchSpool$Reader;I)Z"⟩
def RX4 : String := "StretchSpool$State"
def TX4 : u_T := fun k => match k with
  | 0 => ("StretchSpool$State", "wires", "[LStretchSpool$Wire;", true)
  | 1 => ("StretchSpool$State", "log", "LStretchSpool$Log;", true)
  | 2 => ("StretchSpool$State", "rule", "I", false)
  | 3 => ("StretchSpool$State", "limit", "I", false)
  | 4 => ("StretchSpool$State", "minutes", "I", false)
  | 5 => ("StretchSpool$State", "used", "I", false)
  | 6 => ("StretchSpool$State", "rewinds", "I", false)
  | 7 => ("StretchSpool$State", "breaks", "I", false)
  | _ => ("StretchSpool$State", "lettersLost", "I", false)
def tyX4 : Nat → FieldType := fun k => match k with
  | 0 => .array (.object "StretchSpool$Wire")
  | 1 => .object "StretchSpool$Log"
  | 2 => .int
  | 3 => .int
  | 4 => .int
  | 5 => .int
  | 6 => .int
  | 7 => .int
  | _ => .int
theorem nmX4 : ∀ a, a < 9 → ∀ b, b < 9 → a ≠ b → (TX4 a).2.1 ≠ (TX4 b).2.1 := by decide +kernel
theorem tyX4_ok : ∀ k, k < 9 → parseFieldDescriptor (TX4 k).2.2.1 = some (tyX4 k) := by decide +kernel
abbrev cX4_init : ByteArray := prog_6_method_1_code
def yX4_init : MethodName := ⟨RX4, "<init>", "()V"⟩
abbrev cX4_copyFrom : ByteArray := prog_6_method_2_code
def yX4_copyFrom : MethodName := ⟨RX4, "copyFrom", "(LStretchSpool$State;)V"⟩
abbrev cX4_spoolsWithWire : ByteArray := prog_6_method_3_code
def yX4_spoolsWithWire : MethodName := ⟨RX4, "spoolsWithWire", "()I"⟩
abbrev cX4_lettersOnAll : ByteArray := prog_6_method_4_code
def yX4_lettersOnAll : MethodName := ⟨RX4, "lettersOnAll", "()I"⟩
abbrev cX4_lowestEmpty : ByteArray := prog_6_method_5_code
def yX4_lowestEmpty : MethodName := ⟨RX4, "lowestEmpty", "()I"⟩
abbrev cX4_wind : ByteArray := prog_6_method_6_code
def yX4_wind : MethodName := ⟨RX4, "wind", "(III)I"⟩
abbrev cX4_breakWire : ByteArray := prog_6_method_7_code
def yX4_breakWire : MethodName := ⟨RX4, "breakWire", "(II)V"⟩
def RX5 : String := "StretchSpool$Text"
def TX5 : u_T := fun k => match k with
  | 0 => ("StretchSpool$Text", "characters", "[C", true)
  | _ => ("StretchSpool$Text", "size", "I", false)
def tyX5 : Nat → FieldType := fun k => match k with
  | 0 => .array .char
  | _ => .int
theorem nmX5 : ∀ a, a < 2 → ∀ b, b < 2 → a ≠ b → (TX5 a).2.1 ≠ (TX5 b).2.1 := by decide +kernel
theorem tyX5_ok : ∀ k, k < 2 → parseFieldDescriptor (TX5 k).2.2.1 = some (tyX5 k) := by decide +kernel
abbrev cX5_init : ByteArray := prog_7_method_1_code
def yX5_init : MethodName := ⟨RX5, "<init>", "()V"⟩
abbrev cX5_add : ByteArray := prog_7_method_2_code
def yX5_add : MethodName := ⟨RX5, "add", "(C)Z"⟩
abbrev cX5_codeAt : ByteArray := prog_7_method_3_code
def yX5_codeAt : MethodName := ⟨RX5, "codeAt", "(I)I"⟩
abbrev cX5_startsWith : ByteArray := prog_7_method_4_code
def yX5_startsWith : MethodName := ⟨RX5, "startsWith", "(Ljava/lang/String;I)Z"⟩
def RX6 : String := "StretchSpool$Wire"
def TX6 : u_T := fun k => match k with
  | 0 => ("StretchSpool$Wire", "lengths", "[I", true)
  | 1 => ("StretchSpool$Wire", "nominals", "[I", true)
  | 2 => ("StretchSpool$Wire", "truths", "[I", true)
  | 3 => ("StretchSpool$Wire", "present", "Z", false)
  | 4 => ("StretchSpool$Wire", "closed", "Z", false)
  | 5 => ("StretchSpool$Wire", "letters", "I", false)
  | _ => ("StretchSpool$Wire", "rewinds", "I", false)
def tyX6 : Nat → FieldType := fun k => match k with
  | 0 => .array .int
  | 1 => .array .int
  | 2 => .array .int
  | 3 => .boolean
  | 4 => .boolean
  | 5 => .int
  | _ => .int
theorem nmX6 : ∀ a, a < 7 → ∀ b, b < 7 → a ≠ b → (TX6 a).2.1 ≠ (TX6 b).2.1 := by decide +kernel
theorem tyX6_ok : ∀ k, k < 7 → parseFieldDescriptor (TX6 k).2.2.1 = some (tyX6 k) := by decide +kernel
abbrev cX6_init : ByteArray := prog_8_method_1_code
def yX6_init : MethodName := ⟨RX6, "<init>", "()V"⟩
abbrev cX6_copyFrom : ByteArray := prog_8_method_2_code
def yX6_copyFrom : MethodName := ⟨RX6, "copyFrom", "(LStretchSpool$Wire;)V"⟩
abbrev cX6_gaps : ByteArray := prog_8_method_3_code
def yX6_gaps : MethodName := ⟨RX6, "gaps", "()I"⟩
abbrev cX6_hasGap : ByteArray := prog_8_method_4_code
def yX6_hasGap : MethodName := ⟨RX6, "hasGap", "(I)Z"⟩
abbrev cX6_hasLetter : ByteArray := prog_8_method_5_code
def yX6_hasLetter : MethodName := ⟨RX6, "hasLetter", "(I)Z"⟩
abbrev cX6_canBeReadBy : ByteArray := prog_8_method_6_code
def yX6_canBeReadBy : MethodName := ⟨RX6, "canBeReadBy", "(I)Z"⟩
abbrev cX6_empty : ByteArray := prog_8_method_7_code
def yX6_empty : MethodName := ⟨RX6, "empty", "()V"⟩
abbrev cX6_begin : ByteArray := prog_8_method_8_code
def yX6_begin : MethodName := ⟨RX6, "begin", "()V"⟩
abbrev cX6_write : ByteArray := prog_8_method_9_code
def yX6_write : MethodName := ⟨RX6, "write", "(I)V"⟩
abbrev cX6_putEnd : ByteArray := prog_8_method_10_code
def yX6_putEnd : MethodName := ⟨RX6, "putEnd", "()V"⟩
abbrev cX6_putGap : ByteArray := prog_8_method_11_code
def yX6_putGap : MethodName := ⟨RX6, "putGap", "(III)V"⟩
abbrev cX6_copyGap : ByteArray := prog_8_method_12_code
def yX6_copyGap : MethodName := ⟨RX6, "copyGap", "(LStretchSpool$Wire;II)V"⟩
abbrev cX6_takeTail : ByteArray := prog_8_method_13_code
def yX6_takeTail : MethodName := ⟨RX6, "takeTail", "(LStretchSpool$Wire;I)V"⟩
abbrev cX6_join : ByteArray := prog_8_method_14_code
def yX6_join : MethodName := ⟨RX6, "join", "(LStretchSpool$Wire;)V"⟩
abbrev cX6_appendBehind : ByteArray := prog_8_method_15_code
def yX6_appendBehind : MethodName := ⟨RX6, "appendBehind", "(LStretchSpool$Wire;I)V"⟩
abbrev cX6_punchAll : ByteArray := prog_8_method_16_code
def yX6_punchAll : MethodName := ⟨RX6, "punchAll", "([I)V"⟩
abbrev cX6_stretch : ByteArray := prog_8_method_17_code
def yX6_stretch : MethodName := ⟨RX6, "stretch", "(III)I"⟩
abbrev cX6_breakAt : ByteArray := prog_8_method_18_code
def yX6_breakAt : MethodName := ⟨RX6, "breakAt", "(I)V"⟩
abbrev cX6_sumOfLengths : ByteArray := prog_8_method_19_code
def yX6_sumOfLengths : MethodName := ⟨RX6, "sumOfLengths", "()I"⟩
abbrev cX6_sumOfNominals : ByteArray := prog_8_method_20_code
def yX6_sumOfNominals : MethodName := ⟨RX6, "sumOfNominals", "()I"⟩
abbrev cX6_sum : ByteArray := prog_8_method_21_code
def yX6_sum : MethodName := ⟨RX6, "sum", "([I)I"⟩
abbrev cX6_nearestToLimit : ByteArray := prog_8_method_22_code
def yX6_nearestToLimit : MethodName := ⟨RX6, "nearestToLimit", "()I"⟩
abbrev cX6_strain : ByteArray := prog_8_method_23_code
def yX6_strain : MethodName := ⟨RX6, "strain", "(I)I"⟩
def RX7 : String := "StretchSpool"
def TX7 : u_T := fun k => match k with
  | 0 => ("StretchSpool", "now", "LStretchSpool$State;", true)
  | 1 => ("StretchSpool", "history", "LStretchSpool$History;", true)
  | 2 => ("StretchSpool", "snapshot", "LStretchSpool$State;", true)
  | 3 => ("StretchSpool", "kept", "Z", false)
  | 4 => ("StretchSpool", "text", "LStretchSpool$Text;", true)
  | 5 => ("StretchSpool", "command", "LStretchSpool$Command;", true)
  | 6 => ("StretchSpool", "reader", "LStretchSpool$Reader;", true)
  | 7 => ("StretchSpool", "laterReader", "LStretchSpool$Reader;", true)
  | _ => ("StretchSpool", "trial", "LStretchSpool$Wire;", true)
def tyX7 : Nat → FieldType := fun k => match k with
  | 0 => .object "StretchSpool$State"
  | 1 => .object "StretchSpool$History"
  | 2 => .object "StretchSpool$State"
  | 3 => .boolean
  | 4 => .object "StretchSpool$Text"
  | 5 => .object "StretchSpool$Command"
  | 6 => .object "StretchSpool$Reader"
  | 7 => .object "StretchSpool$Reader"
  | _ => .object "StretchSpool$Wire"
theorem nmX7 : ∀ a, a < 9 → ∀ b, b < 9 → a ≠ b → (TX7 a).2.1 ≠ (TX7 b).2.1 := by decide +kernel
theorem tyX7_ok : ∀ k, k < 9 → parseFieldDescriptor (TX7 k).2.2.1 = some (tyX7 k) := by decide +kernel
abbrev cX7_init : ByteArray := prog_1_method_1_code
def yX7_init : MethodName := ⟨RX7, "<init>", "()V"⟩
abbrev cX7_setRule : ByteArray := prog_1_method_2_code
def yX7_setRule : MethodName := ⟨RX7, "setRule", "(I)I"⟩
abbrev cX7_setLimit : ByteArray := prog_1_method_3_code
def yX7_setLimit : MethodName := ⟨RX7, "setLimit", "(I)I"⟩
abbrev cX7_rewind : ByteArray := prog_1_method_4_code
def yX7_rewind : MethodName := ⟨RX7, "rewind", "(III)I"⟩
abbrev cX7_cut : ByteArray := prog_1_method_5_code
def yX7_cut : MethodName := ⟨RX7, "cut", "(II)I"⟩
abbrev cX7_splice : ByteArray := prog_1_method_6_code
def yX7_splice : MethodName := ⟨RX7, "splice", "(II)I"⟩
abbrev cX7_close : ByteArray := prog_1_method_7_code
def yX7_close : MethodName := ⟨RX7, "close", "(I)I"⟩
abbrev cX7_punch : ByteArray := prog_1_method_8_code
def yX7_punch : MethodName := ⟨RX7, "punch", "(II)I"⟩
abbrev cX7_type : ByteArray := prog_1_method_9_code
def yX7_type : MethodName := ⟨RX7, "type", "(C)I"⟩
abbrev cX7_clearText : ByteArray := prog_1_method_10_code
def yX7_clearText : MethodName := ⟨RX7, "clearText", "()I"⟩
abbrev cX7_perform : ByteArray := prog_1_method_11_code
def yX7_perform : MethodName := ⟨RX7, "perform", "()I"⟩
abbrev cX7_writeWire : ByteArray := prog_1_method_12_code
def yX7_writeWire : MethodName := ⟨RX7, "writeWire", "(III)I"⟩
abbrev cX7_undo : ByteArray := prog_1_method_13_code
def yX7_undo : MethodName := ⟨RX7, "undo", "()I"⟩
abbrev cX7_restore : ByteArray := prog_1_method_15_code
def yX7_restore : MethodName := ⟨RX7, "restore", "()I"⟩
abbrev cX7_spool : ByteArray := prog_1_method_16_code
def yX7_spool : MethodName := ⟨RX7, "spool", "(II)I"⟩
abbrev cX7_gap : ByteArray := prog_1_method_17_code
def yX7_gap : MethodName := ⟨RX7, "gap", "(III)I"⟩
abbrev cX7_read : ByteArray := prog_1_method_18_code
def yX7_read : MethodName := ⟨RX7, "read", "(III)I"⟩
abbrev cX7_errors : ByteArray := prog_1_method_19_code
def yX7_errors : MethodName := ⟨RX7, "errors", "(III)I"⟩
abbrev cX7_bestWay : ByteArray := prog_1_method_20_code
def yX7_bestWay : MethodName := ⟨RX7, "bestWay", "(I)I"⟩
abbrev cX7_errorsAfter : ByteArray := prog_1_method_21_code
def yX7_errorsAfter : MethodName := ⟨RX7, "errorsAfter", "(IIII)I"⟩
abbrev cX7_safeRewinds : ByteArray := prog_1_method_22_code
def yX7_safeRewinds : MethodName := ⟨RX7, "safeRewinds", "(III)I"⟩
abbrev cX7_event : ByteArray := prog_1_method_23_code
def yX7_event : MethodName := ⟨RX7, "event", "(II)I"⟩
abbrev cX7_count : ByteArray := prog_1_method_24_code
def yX7_count : MethodName := ⟨RX7, "count", "(I)I"⟩
abbrev cX7_isSpool : ByteArray := prog_1_method_25_code
def yX7_isSpool : MethodName := ⟨RX7, "isSpool", "(I)Z"⟩
abbrev cX7_isPull : ByteArray := prog_1_method_26_code
def yX7_isPull : MethodName := ⟨RX7, "isPull", "(I)Z"⟩
abbrev cX7_isWay : ByteArray := prog_1_method_27_code
def yX7_isWay : MethodName := ⟨RX7, "isWay", "(I)Z"⟩
abbrev cX7_isWayOfOneEnd : ByteArray := prog_1_method_28_code
def yX7_isWayOfOneEnd : MethodName := ⟨RX7, "isWayOfOneEnd", "(I)Z"⟩
abbrev cX7_nominalOf : ByteArray := prog_1_method_29_code
def yX7_nominalOf : MethodName := ⟨RX7, "nominalOf", "(I)I"⟩
abbrev cX7_stretchOf : ByteArray := prog_1_method_30_code
def yX7_stretchOf : MethodName := ⟨RX7, "stretchOf", "(IIII)I"⟩
def RX8 : String := "StretchSpoolModel"
def TX8 : u_T := fun k => match k with
  | _ => ("", "", "", false)
def tyX8 : Nat → FieldType := fun k => match k with
  | _ => .int
theorem nmX8 : ∀ a, a < 0 → ∀ b, b < 0 → a ≠ b → (TX8 a).2.1 ≠ (TX8 b).2.1 := by decide +kernel
theorem tyX8_ok : ∀ k, k < 0 → parseFieldDescriptor (TX8 k).2.2.1 = some (tyX8 k) := by decide +kernel
def RJ9 : String := "java/lang/Math"
abbrev cJ9_min_7cf53 : ByteArray := prog_11_method_69_code
def yJ9_min_7cf53 : MethodName := ⟨RJ9, "min", "(II)I"⟩
def RJ0 : String := "java/lang/String"
abbrev cJ0_length_8abf5 : ByteArray := prog_12_method_54_code
def yJ0_length_8abf5 : MethodName := ⟨RJ0, "length", "()I"⟩
abbrev cJ0_charAt_5068e : ByteArray := prog_12_method_56_code
def yJ0_charAt_5068e : MethodName := ⟨RJ0, "charAt", "(I)C"⟩
abbrev cJ0_coder_7d493 : ByteArray := prog_12_method_152_code
def yJ0_coder_7d493 : MethodName := ⟨RJ0, "coder", "()B"⟩
abbrev cJ0_isLatin1_aae02 : ByteArray := prog_12_method_154_code
def yJ0_isLatin1_aae02 : MethodName := ⟨RJ0, "isLatin1", "()Z"⟩
abbrev cJ0_checkIndex_df160 : ByteArray := prog_12_method_155_code
def yJ0_checkIndex_df160 : MethodName := ⟨RJ0, "checkIndex", "(II)V"⟩
def RJ1 : String := "java/lang/StringLatin1"
abbrev cJ1_charAt_3b067 : ByteArray := prog_13_method_2_code
def yJ1_charAt_3b067 : MethodName := ⟨RJ1, "charAt", "([BI)C"⟩
def RJ2 : String := "java/lang/StringUTF16"
abbrev cJ2_getChar_3b067 : ByteArray := prog_14_method_5_code
def yJ2_getChar_3b067 : MethodName := ⟨RJ2, "getChar", "([BI)C"⟩
abbrev cJ2_length_9d52b : ByteArray := prog_14_method_6_code
def yJ2_length_9d52b : MethodName := ⟨RJ2, "length", "([B)I"⟩
abbrev cJ2_charAt_3b067 : ByteArray := prog_14_method_83_code
def yJ2_charAt_3b067 : MethodName := ⟨RJ2, "charAt", "([BI)C"⟩
abbrev cJ2_checkIndex_2214a : ByteArray := prog_14_method_91_code
def yJ2_checkIndex_2214a : MethodName := ⟨RJ2, "checkIndex", "(I[B)V"⟩
def RJ10 : String := "java/lang/System"
def RJ3 : String := "jdk/internal/util/Preconditions"
abbrev cJ3_checkIndex_8e157 : ByteArray := prog_16_method_11_code
def yJ3_checkIndex_8e157 : MethodName := ⟨RJ3, "checkIndex", "(IILjava/util/function/BiFunction;)I"⟩
def RL : String := "StretchSpoolLaw"
abbrev cL_cell : ByteArray := method_2_code
def yL_cell : MethodName := ⟨RL, "cell", "([II)I"⟩
abbrev cL_low : ByteArray := method_3_code
def yL_low : MethodName := ⟨RL, "low", "(II)I"⟩
abbrev cL_digest : ByteArray := method_4_code
def yL_digest : MethodName := ⟨RL, "digest", "(LStretchSpool;)J"⟩
abbrev cL_types : ByteArray := method_5_code
def yL_types : MethodName := ⟨RL, "types", "(LStretchSpool;I)V"⟩
abbrev cL_word : ByteArray := method_6_code
def yL_word : MethodName := ⟨RL, "word", "(LStretchSpool;IIIIII)V"⟩
abbrev cL_number : ByteArray := method_7_code
def yL_number : MethodName := ⟨RL, "number", "(LStretchSpool;I)V"⟩
abbrev cL_writes : ByteArray := method_8_code
def yL_writes : MethodName := ⟨RL, "writes", "(LStretchSpool;III)Z"⟩
abbrev cL_told : ByteArray := method_9_code
def yL_told : MethodName := ⟨RL, "told", "(LStretchSpool;I)Z"⟩
abbrev cL_rewinds : ByteArray := method_10_code
def yL_rewinds : MethodName := ⟨RL, "rewinds", "(LStretchSpool;III)Z"⟩
abbrev cL_cuts : ByteArray := method_11_code
def yL_cuts : MethodName := ⟨RL, "cuts", "(LStretchSpool;II)Z"⟩
abbrev cL_splices : ByteArray := method_12_code
def yL_splices : MethodName := ⟨RL, "splices", "(LStretchSpool;II)Z"⟩
abbrev cL_ends : ByteArray := method_13_code
def yL_ends : MethodName := ⟨RL, "ends", "(LStretchSpool;II)Z"⟩
abbrev cL_sets : ByteArray := method_14_code
def yL_sets : MethodName := ⟨RL, "sets", "(LStretchSpool;II)Z"⟩
abbrev cL_law : ByteArray := code
def yL_law : MethodName := ⟨RL, "law", "([I)Z"⟩
abbrev vwCl : List vw_C := [(RX0, TX0, 6), (RX1, TX1, 2), (RX2, TX2, 4), (RX3, TX3, 4), (RX4, TX4, 9), (RX5, TX5, 2), (RX6, TX6, 7), (RX7, TX7, 9)]
end
section
/-! THE SMALL MACHINE: an interpreter of the instructions in use, over cells that are counted from 0. Values are the machine's own; .ref k is the k-th own cell;
    from 1000000 on: String constants, from 1100000 on: their byte arrays, 2000000: the script, 3000000: the JDK's formatter. -/
abbrev mK : Type := Nat × Nat × (Nat → Nat × Nat) × Nat × (Nat → Int32)
abbrev mH : Type := mK × (Nat → Nat → Option Nat) × (Nat → Nat → Int32)
/-- an instruction: as it is decoded, and what its operands mean -/
abbrev mIns : Type := Instr × Nat × Nat × Int32
abbrev mRes : Type := (List Value × List Value × mH) ⊕ (Nat × List Value × List Value) ⊕ (Option Value × mH) ⊕ Option (Nat × List Value × List Value)
abbrev mNx (L st : List Value) (h : mH) : mRes := .inl (L, st, h)
abbrev mJp (t : Nat) (L st : List Value) : mRes := .inr (.inl (t, L, st))
abbrev mRt (v : Option Value) (h : mH) : mRes := .inr (.inr (.inl (v, h)))
abbrev mCl (z : Nat) (as st : List Value) : mRes := .inr (.inr (.inr (some (z, as, st))))
abbrev mEr : mRes := .inr (.inr (.inr none))
def mSet (I : Nat → Nat → Int32) (a k : Nat) (x : Int32) : Nat → Nat → Int32 := fun b j => if b = a ∧ j = k then x else I b j
def mSetR (R : Nat → Nat → Option Nat) (a k : Nat) (x : Option Nat) : Nat → Nat → Option Nat := fun b j => if b = a ∧ j = k then x else R b j
def mCpy (I : Nat → Nat → Int32) (p : Nat) (sp : Nat) (q dp n : Nat) : Nat → Nat → Int32 := fun b j => if b = q ∧ dp ≤ j ∧ j < dp + n then I p (sp + (j - dp)) else I b j
def mShp (f : Nat → Nat × Nat) (k : Nat) (x : Nat × Nat) : Nat → Nat × Nat := fun j => if j = k then x else f j
def mCmp (c : Jvm.ClassFile.Cond) (x y : Int32) : Bool := match c with
  | .eq => x == y
  | .ne => !(x == y)
  | .lt => decide (x < y)
  | .ge => decide (y ≤ x)
  | .gt => decide (y < x)
  | .le => decide (x ≤ y)
/-- within an array of n -/
def mIn (i : Int32) (n : Nat) : Bool := decide (0 ≤ i) && decide (i.toNatClampNeg < n)
def mLen (k : Nat) : Nat := ([5, 6, 3, 6, 5, 5] : List Nat).getD k 0
def mByt (k : Nat) : List Int32 := ([[119, 114, 105, 116, 101], [114, 101, 119, 105, 110, 100], [99, 117, 116], [115, 112, 108, 105, 99, 101], [99, 108, 111, 115, 101], [112, 117, 110, 99, 104]] : List (List Int32)).getD k []
def mNar (v : Int32) (x : Int32) : Bool := if v = 0 then true else if v = 1 then x == 0 || x == 1 else if v = 2 then x.toInt8.toInt32 == x else (x.toUInt32 % 65536).toInt32 == x
def mStr (o : Nat) : Bool := decide (1000000 ≤ o) && decide (o < 1000006)
def mStB (o : Nat) : Bool := decide (1100000 ≤ o) && decide (o < 1100006)
def mTgt (a : Nat) (dflt lo : Int) (offs : Array Int) (x : Int32) : Nat := if x.toInt < lo then (a + dflt).toNat else match offs[(x.toInt - lo).toNat]? with
  | some off => (a + off).toNat
  | none => (a + dflt).toNat
def m1 (v : Value) : Bool := match v with
  | .int _ => true
  | .ref _ => true
  | _ => false
/-- the class of a method's receiver -/
def mStep (rc : Nat → Nat) (i : mIns) (L st : List Value) (h : mH) : mRes := match i with
  | (.iconst _, _, _, v) => mNx L (.int v :: st) h
  | (.bipush _, _, _, v) => mNx L (.int v :: st) h
  | (.sipush _, _, _, v) => mNx L (.int v :: st) h
  | (.iload_n _, a, _, _) => match L[a]? with
    | some (.int x) => mNx L (.int x :: st) h
    | _ => mEr
  | (.iload _, a, _, _) => match L[a]? with
    | some (.int x) => mNx L (.int x :: st) h
    | _ => mEr
  | (.aload_n _, a, _, _) => match L[a]? with
    | some (.ref x) => mNx L (.ref x :: st) h
    | _ => mEr
  | (.aload _, a, _, _) => match L[a]? with
    | some (.ref x) => mNx L (.ref x :: st) h
    | _ => mEr
  | (.istore_n _, a, _, _) => match st with
    | .int x :: st => mNx (L.set a (.int x)) st h
    | _ => mEr
  | (.istore _, a, _, _) => match st with
    | .int x :: st => mNx (L.set a (.int x)) st h
    | _ => mEr
  | (.astore_n _, a, _, _) => match st with
    | .ref x :: st => mNx (L.set a (.ref x)) st h
    | _ => mEr
  | (.astore _, a, _, _) => match st with
    | .ref x :: st => mNx (L.set a (.ref x)) st h
    | _ => mEr
  | (.iinc _ _, a, _, v) => match L[a]? with
    | some (.int x) => mNx (L.set a (.int (x + v))) st h
    | _ => mEr
  | (.iadd, _, _, _) => match st with
    | .int y :: .int x :: st => mNx L (.int (x + y) :: st) h
    | _ => mEr
  | (.isub, _, _, _) => match st with
    | .int y :: .int x :: st => mNx L (.int (x - y) :: st) h
    | _ => mEr
  | (.imul, _, _, _) => match st with
    | .int y :: .int x :: st => mNx L (.int (x * y) :: st) h
    | _ => mEr
  | (.idiv, _, _, _) => match st with
    | .int y :: .int x :: st => if y = 0 then mEr else mNx L (.int (x / y) :: st) h
    | _ => mEr
  | (.irem, _, _, _) => match st with
    | .int y :: .int x :: st => if y = 0 then mEr else mNx L (.int (x - x / y * y) :: st) h
    | _ => mEr
  | (.i2l, _, _, _) => match st with
    | .int x :: st => mNx L (.long x.toInt64 :: st) h
    | _ => mEr
  | (.ladd, _, _, _) => match st with
    | .long y :: .long x :: st => mNx L (.long (x + y) :: st) h
    | _ => mEr
  | (.lmul, _, _, _) => match st with
    | .long y :: .long x :: st => mNx L (.long (x * y) :: st) h
    | _ => mEr
  | (.lcmp, _, _, _) => match st with
    | .long y :: .long x :: st => mNx L (.int (lg_cmp x y) :: st) h
    | _ => mEr
  | (.lload_n _, a, _, _) => match L[a]?, L[a + 1]? with
    | some (.long x), some .null => mNx L (.long x :: st) h
    | _, _ => mEr
  | (.lload _, a, _, _) => match L[a]?, L[a + 1]? with
    | some (.long x), some .null => mNx L (.long x :: st) h
    | _, _ => mEr
  | (.lstore_n _, a, _, _) => match st with
    | .long x :: st => mNx ((L.set a (.long x)).set (a + 1) .null) st h
    | _ => mEr
  | (.lstore _, a, _, _) => match st with
    | .long x :: st => mNx ((L.set a (.long x)).set (a + 1) .null) st h
    | _ => mEr
  | (.ldc2_w _, _, _, v) => mNx L (.long v.toInt64 :: st) h
  | (.lreturn, _, _, _) => match st with
    | [.long x] => mRt (some (.long x)) h
    | _ => mEr
  | (.iand, _, _, _) => match st with
    | .int y :: .int x :: st => mNx L (.int (x &&& y) :: st) h
    | _ => mEr
  | (.ishr, _, _, _) => match st with
    | .int y :: .int x :: st => mNx L (.int (x >>> (y &&& 31)) :: st) h
    | _ => mEr
  | (.i2c, _, _, _) => match st with
    | .int x :: st => mNx L (.int (x.toUInt32 % 65536).toInt32 :: st) h
    | _ => mEr
  | (.dup, _, _, _) => match st with
    | .int x :: st => mNx L (.int x :: .int x :: st) h
    | .ref x :: st => mNx L (.ref x :: .ref x :: st) h
    | _ => mEr
  | (.dup2, _, _, _) => match st with
    | .int x :: .ref y :: st => mNx L (.int x :: .ref y :: .int x :: .ref y :: st) h
    | _ => mEr
  | (.pop, _, _, _) => match st with
    | .int _ :: st => mNx L st h
    | _ => mEr
  | (.goto _, a, _, _) => mJp a L st
  | (.nop, a, _, _) => mJp a L st
  | (.ifCond c _, a, _, _) => match st with
    | .int x :: st => if mCmp c x 0 then mJp a L st else mNx L st h
    | _ => mEr
  | (.if_icmp c _, a, _, _) => match st with
    | .int y :: .int x :: st => if mCmp c x y then mJp a L st else mNx L st h
    | _ => mEr
  | (.tableswitch dflt lo _ offs, a, _, _) => match st with
    | .int x :: st => mJp (mTgt a dflt lo offs x) L st
    | _ => mEr
  | (.ireturn, _, _, v) => match st with
    | [.int x] => if mNar v x then mRt (some (.int x)) h else mEr
    | _ => mEr
  | (.return_, _, _, _) => match st with
    | [] => mRt none h
    | _ => mEr
  | (.getfield _, a, b, v) => match st with
    | .ref o :: st =>
      if v = 4 then (if mStr o then mNx L (.ref (o + 100000) :: st) h else mEr)
      else if v = 5 then (if mStr o then mNx L (.int 0 :: st) h else mEr)
      else if h.1.2.2.1 o = (1, a) then
        (if v = 2 then (match h.2.1 o b with
          | some q => mNx L (.ref q :: st) h
          | none => mEr)
        else mNx L (.int (h.2.2 o b) :: st) h)
      else mEr
    | _ => mEr
  | (.putfield _, a, b, v) => match st with
    | .int x :: .ref o :: st => if h.1.2.2.1 o = (1, a) ∧ (v = 0 ∨ (v = 1 ∧ (x = 0 ∨ x = 1))) then mNx L st (h.1, h.2.1, mSet h.2.2 o b x) else mEr
    | .ref q :: .ref o :: st => if h.1.2.2.1 o = (1, a) ∧ v = 5 ∧ q < 500000 then mNx L st (h.1, mSetR h.2.1 o b (some q), h.2.2) else mEr
    | _ => mEr
  | (.getstatic _, _, _, v) => if v = 0 then mNx L (.int 1 :: st) h else if v = 1 then mNx L (.ref 3000000 :: st) h else mEr
  | (.iaload, _, _, v) => match st with
    | .int i :: .ref o :: st =>
      if v = 1 then (if o = 2000000 ∧ mIn i h.1.2.2.2.1 = true then mNx L (.int (h.1.2.2.2.2 i.toNatClampNeg) :: st) h else mEr)
      else if (h.1.2.2.1 o).1 = 2 ∧ mIn i (h.1.2.2.1 o).2 = true then mNx L (.int (h.2.2 o i.toNatClampNeg) :: st) h else mEr
    | _ => mEr
  | (.caload, _, _, _) => match st with
    | .int i :: .ref o :: st => if (h.1.2.2.1 o).1 = 3 ∧ mIn i (h.1.2.2.1 o).2 = true then mNx L (.int (h.2.2 o i.toNatClampNeg) :: st) h else mEr
    | _ => mEr
  | (.baload, _, _, _) => match st with
    | .int i :: .ref o :: st => if mStB o = true ∧ mIn i (mLen (o - 1100000)) = true then mNx L (.int ((mByt (o - 1100000)).getD i.toNatClampNeg 0) :: st) h else mEr
    | _ => mEr
  | (.iastore, _, _, _) => match st with
    | .int x :: .int i :: .ref o :: st => if (h.1.2.2.1 o).1 = 2 ∧ mIn i (h.1.2.2.1 o).2 = true then mNx L st (h.1, h.2.1, mSet h.2.2 o i.toNatClampNeg x) else mEr
    | _ => mEr
  | (.castore, _, _, _) => match st with
    | .int x :: .int i :: .ref o :: st => if (h.1.2.2.1 o).1 = 3 ∧ mIn i (h.1.2.2.1 o).2 = true then mNx L st (h.1, h.2.1, mSet h.2.2 o i.toNatClampNeg (x.toUInt32 % 65536).toInt32) else mEr
    | _ => mEr
  | (.aaload, a, _, _) => match st with
    | .int i :: .ref o :: st => if (a = 4 ∨ a = 5) ∧ (h.1.2.2.1 o).1 = a ∧ mIn i (h.1.2.2.1 o).2 = true then (match h.2.1 o i.toNatClampNeg with
        | some q => mNx L (.ref q :: st) h
        | none => mEr)
      else mEr
    | _ => mEr
  | (.aastore, a, b, _) => match st with
    | .ref q :: .int i :: .ref o :: st => if ((a = 4 ∧ b = 6) ∨ (a = 5 ∧ b = 4)) ∧ (h.1.2.2.1 o).1 = a ∧ mIn i (h.1.2.2.1 o).2 = true ∧ h.1.2.2.1 q = (1, b) then mNx L st (h.1, mSetR h.2.1 o i.toNatClampNeg (some q), h.2.2) else mEr
    | _ => mEr
  | (.arraylength, _, _, v) => match st with
    | .ref o :: st =>
      if v = 1 then (if o = 2000000 then mNx L (.int (nI h.1.2.2.2.1) :: st) h else mEr)
      else if v = 2 then (if mStB o then mNx L (.int (nI (mLen (o - 1100000))) :: st) h else mEr)
      else if (h.1.2.2.1 o).1 = 2 then mNx L (.int (nI (h.1.2.2.1 o).2) :: st) h else mEr
    | _ => mEr
  | (.newarray _, a, _, _) => match st with
    | .int n :: st => if (a = 2 ∨ a = 3) ∧ 0 ≤ n ∧ n ≤ 100000 ∧ h.1.1 < 500000 then
        mNx L (.ref h.1.1 :: st) ((h.1.1 + 1, h.1.2.1 + n.toNatClampNeg, mShp h.1.2.2.1 h.1.1 (a, n.toNatClampNeg), h.1.2.2.2), h.2.1, fun b j => if b = h.1.1 then 0 else h.2.2 b j) else mEr
    | _ => mEr
  | (.anewarray _, a, b, _) => match st with
    | .int n :: st => if ((a = 4 ∧ b = 6) ∨ (a = 5 ∧ b = 4)) ∧ 0 ≤ n ∧ n ≤ 100000 ∧ h.1.1 < 500000 then
        mNx L (.ref h.1.1 :: st) ((h.1.1 + 1, h.1.2.1 + n.toNatClampNeg, mShp h.1.2.2.1 h.1.1 (a, n.toNatClampNeg), h.1.2.2.2), fun b j => if b = h.1.1 then none else h.2.1 b j, h.2.2) else mEr
    | _ => mEr
  | (.new _, a, b, v) => if v = 0 ∧ h.1.1 < 500000 then
      mNx L (.ref h.1.1 :: st) ((h.1.1 + 1, h.1.2.1 + b, mShp h.1.2.2.1 h.1.1 (1, a), h.1.2.2.2), fun b j => if b = h.1.1 then none else h.2.1 b j, fun b j => if b = h.1.1 then 0 else h.2.2 b j) else mEr
  | (.invokespecial _, a, b, v) =>
    if v = 0 then (match st with
      | .ref o :: st => if st.length ≤ 4 ∧ o < 1000000 then mNx L st h else mEr
      | _ => mEr)
    else if v = 1 ∧ b ≤ st.length ∧ st.length ≤ b + 4 ∧ (st.take b).all m1 = true then (match (st.take b).reverse with
      | .ref o :: as => if o < 1000000 then mCl a (.ref o :: as) (st.drop b) else mEr
      | _ => mEr)
    else mEr
  | (.invokevirtual _, a, b, v) =>
    if v = 0 ∧ b ≤ st.length ∧ st.length ≤ b + 4 ∧ (st.take b).all m1 = true then (match (st.take b).reverse with
      | .ref o :: as => if (rc a = 10 ∧ mStr o = true) ∨ (h.1.2.2.1 o = (1, rc a) ∧ rc a < 8) then mCl a (.ref o :: as) (st.drop b) else mEr
      | _ => mEr)
    else mEr
  | (.invokestatic _, a, b, v) =>
    if v = 0 then (if b ≤ st.length ∧ st.length ≤ b + 4 ∧ (st.take b).all m1 = true then mCl a (st.take b).reverse (st.drop b) else mEr)
    else if v = 1 then (match st with
      | .int y :: .int x :: st => if st.length ≤ 4 then mNx L (.int (if y < x then y else x) :: st) h else mEr
      | _ => mEr)
    else if v = 2 then (match st with
      | .int n :: .int dp :: .ref q :: .int sp :: .ref p :: st =>
        if 0 ≤ sp ∧ 0 ≤ dp ∧ 0 ≤ n ∧ (h.1.2.2.1 p).1 = 2 ∧ (h.1.2.2.1 q).1 = 2 ∧ sp.toNatClampNeg + n.toNatClampNeg ≤ (h.1.2.2.1 p).2 ∧ dp.toNatClampNeg + n.toNatClampNeg ≤ (h.1.2.2.1 q).2 ∧ st.length ≤ 4 then
          mNx L st (h.1, h.2.1, mCpy h.2.2 p sp.toNatClampNeg q dp.toNatClampNeg n.toNatClampNeg) else mEr
      | _ => mEr)
    else mEr
  | (.ldc _, a, b, v) => if b = 1 then mNx L (.int v :: st) h else mNx L (.ref (1000000 + a) :: st) h
  | _ => mEr
/-- the run: B the blocks of the methods by method and place, N how many locals, rc the receivers' classes -/
def mRun (B : Nat → Nat → List mIns) (N rc : Nat → Nat) : Nat → Nat → List mIns → List Value → List Value → mH → Option (Option Value × mH)
  | 0, _, _, _, _, _ => none
  | f + 1, y, is, L, st, h => match is with
    | [] => none
    | i :: is => match mStep rc i L st h with
      | .inl (L', st', h') => mRun B N rc f y is L' st' h'
      | .inr (.inl (t, L', st')) => mRun B N rc f y (B y t) L' st' h
      | .inr (.inr (.inl r)) => some r
      | .inr (.inr (.inr none)) => none
      | .inr (.inr (.inr (some (z, as, st')))) => match mRun B N rc f z (B z 0) (as ++ List.replicate (N z - as.length) .null) [] h with
        | none => none
        | some (v, h') => mRun B N rc f y is L (v.toList ++ st') h'
end
section
/-! THE CODE of the methods for the small machine: by method, by place; laid by wip/whole/gen.py -/
def bk_0_0 : List mIns := [(.aload_n 0, 0, 0, 0), (.invokespecial 3, 0, 0, 0), (.aload_n 0, 0, 0, 0), (.iconst 0, 0, 0, 0), (.putfield 9, 0, 0, 0), (.aload_n 0, 0, 0, 0), (.iconst 0, 0, 0, 0), (.putfield 15, 0, 1, 0), (.aload_n 0, 0, 0, 0), (.iconst 0, 0, 0, 0), (.putfield 18, 0, 2, 0), (.aload_n 0, 0, 0, 0), (.iconst 0, 0, 0, 0), (.putfield 21, 0, 3, 0), (.aload_n 0, 0, 0, 0), (.iconst (-1), 0, 0, (-1)), (.putfield 24, 0, 4, 0), (.aload_n 0, 0, 0, 0), (.iconst 0, 0, 0, 0), (.putfield 27, 0, 5, 0), (.return_, 0, 0, 0)]
def bk_1_0 : List mIns := [(.aload_n 0, 0, 0, 0), (.iconst 0, 0, 0, 0), (.putfield 15, 0, 1, 0), (.aload_n 0, 0, 0, 0), (.iconst 0, 0, 0, 0), (.putfield 18, 0, 2, 0), (.aload_n 0, 0, 0, 0), (.iconst 0, 0, 0, 0), (.putfield 21, 0, 3, 0), (.aload_n 0, 0, 0, 0), (.iconst (-1), 0, 0, (-1)), (.putfield 24, 0, 4, 0), (.aload_n 0, 0, 0, 0), (.aload_n 1, 1, 0, 0), (.invokestatic 30, 2, 1, 0), (.putfield 27, 0, 5, 0), (.aload_n 0, 0, 0, 0), (.aload_n 1, 1, 0, 0), (.aload_n 0, 0, 0, 0), (.getfield 27, 0, 5, 0), (.invokestatic 34, 3, 2, 0), (.putfield 9, 0, 0, 0), (.aload_n 0, 0, 0, 0), (.getfield 9, 0, 0, 0), (.ifCond .ne 9, 53, 0, 0), (.aload_n 0, 0, 0, 0), (.iconst 0, 0, 0, 0), (.putfield 24, 0, 4, 0), (.return_, 0, 0, 0)]
def bk_1_53 : List mIns := [(.aload_n 0, 0, 0, 0), (.aload_n 0, 0, 0, 0), (.aload_n 1, 1, 0, 0), (.invokevirtual 38, 4, 2, 0), (.putfield 15, 0, 1, 0), (.aload_n 0, 0, 0, 0), (.getfield 9, 0, 0, 0), (.iconst 1, 0, 0, 1), (.if_icmp .ne 11, 78, 0, 0), (.aload_n 0, 0, 0, 0), (.aload_n 1, 1, 0, 0), (.invokevirtual 41, 5, 2, 0), (.goto 20, 95, 0, 0)]
def bk_1_78 : List mIns := [(.aload_n 0, 0, 0, 0), (.getfield 9, 0, 0, 0), (.iconst 5, 0, 0, 5), (.if_icmp .eq 12, 95, 0, 0), (.aload_n 0, 0, 0, 0), (.aload_n 0, 0, 0, 0), (.aload_n 1, 1, 0, 0), (.invokevirtual 38, 4, 2, 0), (.putfield 18, 0, 2, 0), (.nop, 95, 0, 0)]
def bk_1_95 : List mIns := [(.aload_n 0, 0, 0, 0), (.getfield 24, 0, 4, 0), (.iconst (-1), 0, 0, (-1)), (.if_icmp .ne 23, 123, 0, 0), (.aload_n 1, 1, 0, 0), (.aload_n 0, 0, 0, 0), (.getfield 27, 0, 5, 0), (.invokevirtual 45, 33, 2, 0), (.iconst (-1), 0, 0, (-1)), (.if_icmp .eq 11, 123, 0, 0), (.aload_n 0, 0, 0, 0), (.aload_n 0, 0, 0, 0), (.getfield 27, 0, 5, 0), (.putfield 24, 0, 4, 0), (.nop, 123, 0, 0)]
def bk_1_123 : List mIns := [(.return_, 0, 0, 0)]
def bk_2_0 : List mIns := [(.iconst 0, 0, 0, 0), (.istore_n 1, 1, 0, 0), (.nop, 2, 0, 0)]
def bk_2_2 : List mIns := [(.iload_n 1, 1, 0, 0), (.bipush 50, 0, 0, 50), (.if_icmp .ge 24, 29, 0, 0), (.aload_n 0, 0, 0, 0), (.iload_n 1, 1, 0, 0), (.invokevirtual 45, 33, 2, 0), (.bipush 97, 0, 0, 97), (.bipush 122, 0, 0, 122), (.invokestatic 51, 7, 3, 0), (.ifCond .eq 9, 29, 0, 0), (.iinc 1 1, 1, 0, 1), (.goto (-24), 2, 0, 0)]
def bk_2_29 : List mIns := [(.iload_n 1, 1, 0, 0), (.ireturn, 0, 0, 0)]
def bk_3_0 : List mIns := [(.aload_n 0, 0, 0, 0), (.ldc 55, 0, 0, 0), (.iload_n 1, 1, 0, 0), (.invokevirtual 57, 34, 3, 0), (.ifCond .eq 5, 12, 0, 0), (.iconst 1, 0, 0, 1), (.ireturn, 0, 0, 0)]
def bk_3_12 : List mIns := [(.aload_n 0, 0, 0, 0), (.ldc 61, 1, 0, 0), (.iload_n 1, 1, 0, 0), (.invokevirtual 57, 34, 3, 0), (.ifCond .eq 5, 24, 0, 0), (.iconst 2, 0, 0, 2), (.ireturn, 0, 0, 0)]
def bk_3_24 : List mIns := [(.aload_n 0, 0, 0, 0), (.ldc 63, 2, 0, 0), (.iload_n 1, 1, 0, 0), (.invokevirtual 57, 34, 3, 0), (.ifCond .eq 5, 36, 0, 0), (.iconst 3, 0, 0, 3), (.ireturn, 0, 0, 0)]
def bk_3_36 : List mIns := [(.aload_n 0, 0, 0, 0), (.ldc 65, 3, 0, 0), (.iload_n 1, 1, 0, 0), (.invokevirtual 57, 34, 3, 0), (.ifCond .eq 5, 48, 0, 0), (.iconst 4, 0, 0, 4), (.ireturn, 0, 0, 0)]
def bk_3_48 : List mIns := [(.aload_n 0, 0, 0, 0), (.ldc 67, 4, 0, 0), (.iload_n 1, 1, 0, 0), (.invokevirtual 57, 34, 3, 0), (.ifCond .eq 5, 60, 0, 0), (.iconst 5, 0, 0, 5), (.ireturn, 0, 0, 0)]
def bk_3_60 : List mIns := [(.aload_n 0, 0, 0, 0), (.ldc 69, 5, 0, 0), (.iload_n 1, 1, 0, 0), (.invokevirtual 57, 34, 3, 0), (.ifCond .eq 8, 75, 0, 0), (.bipush 6, 0, 0, 6), (.goto 4, 76, 0, 0)]
def bk_3_75 : List mIns := [(.iconst 0, 0, 0, 0), (.nop, 76, 0, 0)]
def bk_3_76 : List mIns := [(.ireturn, 0, 0, 0)]
def bk_4_0 : List mIns := [(.aload_n 0, 0, 0, 0), (.aload_n 1, 1, 0, 0), (.invokevirtual 71, 6, 2, 0), (.aload_n 0, 0, 0, 0), (.getfield 24, 0, 4, 0), (.iconst (-1), 0, 0, (-1)), (.if_icmp .eq 5, 15, 0, 0), (.iconst 0, 0, 0, 0), (.ireturn, 0, 0, 0)]
def bk_4_15 : List mIns := [(.aload_n 1, 1, 0, 0), (.aload_n 0, 0, 0, 0), (.getfield 27, 0, 5, 0), (.invokevirtual 45, 33, 2, 0), (.bipush 48, 0, 0, 48), (.bipush 57, 0, 0, 57), (.invokestatic 51, 7, 3, 0), (.ifCond .ne 13, 43, 0, 0), (.aload_n 0, 0, 0, 0), (.aload_n 0, 0, 0, 0), (.getfield 27, 0, 5, 0), (.putfield 24, 0, 4, 0), (.iconst 0, 0, 0, 0), (.ireturn, 0, 0, 0)]
def bk_4_43 : List mIns := [(.aload_n 1, 1, 0, 0), (.aload_n 0, 0, 0, 0), (.getfield 27, 0, 5, 0), (.invokevirtual 45, 33, 2, 0), (.bipush 48, 0, 0, 48), (.isub, 0, 0, 0), (.istore_n 2, 2, 0, 0), (.aload_n 0, 0, 0, 0), (.dup, 0, 0, 0), (.getfield 27, 0, 5, 0), (.iconst 1, 0, 0, 1), (.iadd, 0, 0, 0), (.putfield 27, 0, 5, 0), (.iload_n 2, 2, 0, 0), (.ifCond .eq 48, 114, 0, 0), (.aload_n 1, 1, 0, 0), (.aload_n 0, 0, 0, 0), (.getfield 27, 0, 5, 0), (.invokevirtual 45, 33, 2, 0), (.bipush 48, 0, 0, 48), (.bipush 57, 0, 0, 57), (.invokestatic 51, 7, 3, 0), (.ifCond .eq 30, 114, 0, 0), (.bipush 10, 0, 0, 10), (.iload_n 2, 2, 0, 0), (.imul, 0, 0, 0), (.aload_n 1, 1, 0, 0), (.aload_n 0, 0, 0, 0), (.getfield 27, 0, 5, 0), (.invokevirtual 45, 33, 2, 0), (.iadd, 0, 0, 0), (.bipush 48, 0, 0, 48), (.isub, 0, 0, 0), (.istore_n 2, 2, 0, 0), (.aload_n 0, 0, 0, 0), (.dup, 0, 0, 0), (.getfield 27, 0, 5, 0), (.iconst 1, 0, 0, 1), (.iadd, 0, 0, 0), (.putfield 27, 0, 5, 0), (.nop, 114, 0, 0)]
def bk_4_114 : List mIns := [(.iload_n 2, 2, 0, 0), (.ireturn, 0, 0, 0)]
def bk_5_0 : List mIns := [(.aload_n 0, 0, 0, 0), (.aload_n 1, 1, 0, 0), (.invokevirtual 71, 6, 2, 0), (.aload_n 0, 0, 0, 0), (.getfield 24, 0, 4, 0), (.iconst (-1), 0, 0, (-1)), (.if_icmp .eq 4, 14, 0, 0), (.return_, 0, 0, 0)]
def bk_5_14 : List mIns := [(.aload_n 0, 0, 0, 0), (.aload_n 0, 0, 0, 0), (.getfield 27, 0, 5, 0), (.putfield 21, 0, 3, 0), (.nop, 22, 0, 0)]
def bk_5_22 : List mIns := [(.aload_n 0, 0, 0, 0), (.getfield 27, 0, 5, 0), (.bipush 50, 0, 0, 50), (.if_icmp .ge 34, 62, 0, 0), (.aload_n 1, 1, 0, 0), (.aload_n 0, 0, 0, 0), (.getfield 27, 0, 5, 0), (.invokevirtual 45, 33, 2, 0), (.bipush 97, 0, 0, 97), (.bipush 104, 0, 0, 104), (.invokestatic 51, 7, 3, 0), (.ifCond .eq 16, 62, 0, 0), (.aload_n 0, 0, 0, 0), (.dup, 0, 0, 0), (.getfield 27, 0, 5, 0), (.iconst 1, 0, 0, 1), (.iadd, 0, 0, 0), (.putfield 27, 0, 5, 0), (.goto (-37), 22, 0, 0)]
def bk_5_62 : List mIns := [(.aload_n 0, 0, 0, 0), (.getfield 27, 0, 5, 0), (.aload_n 0, 0, 0, 0), (.getfield 21, 0, 3, 0), (.if_icmp .ne 11, 81, 0, 0), (.aload_n 0, 0, 0, 0), (.aload_n 0, 0, 0, 0), (.getfield 27, 0, 5, 0), (.putfield 24, 0, 4, 0), (.nop, 81, 0, 0)]
def bk_5_81 : List mIns := [(.return_, 0, 0, 0)]
def bk_6_0 : List mIns := [(.aload_n 0, 0, 0, 0), (.getfield 24, 0, 4, 0), (.iconst (-1), 0, 0, (-1)), (.if_icmp .eq 4, 9, 0, 0), (.return_, 0, 0, 0)]
def bk_6_9 : List mIns := [(.aload_n 1, 1, 0, 0), (.aload_n 0, 0, 0, 0), (.getfield 27, 0, 5, 0), (.invokevirtual 45, 33, 2, 0), (.bipush 32, 0, 0, 32), (.if_icmp .eq 12, 31, 0, 0), (.aload_n 0, 0, 0, 0), (.aload_n 0, 0, 0, 0), (.getfield 27, 0, 5, 0), (.putfield 24, 0, 4, 0), (.return_, 0, 0, 0)]
def bk_6_31 : List mIns := [(.aload_n 0, 0, 0, 0), (.dup, 0, 0, 0), (.getfield 27, 0, 5, 0), (.iconst 1, 0, 0, 1), (.iadd, 0, 0, 0), (.putfield 27, 0, 5, 0), (.return_, 0, 0, 0)]
def bk_7_0 : List mIns := [(.iload_n 0, 0, 0, 0), (.iload_n 1, 1, 0, 0), (.if_icmp .lt 12, 14, 0, 0), (.iload_n 0, 0, 0, 0), (.iload_n 2, 2, 0, 0), (.if_icmp .gt 7, 14, 0, 0), (.iconst 1, 0, 0, 1), (.goto 4, 15, 0, 0)]
def bk_7_14 : List mIns := [(.iconst 0, 0, 0, 0), (.nop, 15, 0, 0)]
def bk_7_15 : List mIns := [(.ireturn, 0, 0, 1)]
def bk_8_0 : List mIns := [(.aload_n 0, 0, 0, 0), (.invokespecial 3, 0, 0, 0), (.aload_n 0, 0, 0, 0), (.iconst 4, 0, 0, 4), (.anewarray 9, 5, 4, 0), (.putfield 11, 1, 0, 5), (.aload_n 0, 0, 0, 0), (.iconst 0, 0, 0, 0), (.putfield 17, 1, 1, 0), (.iconst 0, 0, 0, 0), (.istore_n 1, 1, 0, 0), (.nop, 19, 0, 0)]
def bk_8_19 : List mIns := [(.iload_n 1, 1, 0, 0), (.iconst 4, 0, 0, 4), (.if_icmp .ge 22, 43, 0, 0), (.aload_n 0, 0, 0, 0), (.getfield 11, 1, 0, 2), (.iload_n 1, 1, 0, 0), (.new 9, 4, 9, 0), (.dup, 0, 0, 0), (.invokespecial 21, 24, 1, 1), (.aastore, 5, 4, 0), (.iinc 1 1, 1, 0, 1), (.goto (-21), 19, 0, 0)]
def bk_8_43 : List mIns := [(.return_, 0, 0, 0)]
def bk_9_0 : List mIns := [(.aload_n 0, 0, 0, 0), (.getfield 17, 1, 1, 0), (.iconst 4, 0, 0, 4), (.if_icmp .ne 7, 12, 0, 0), (.aload_n 0, 0, 0, 0), (.invokevirtual 22, 10, 1, 0), (.nop, 12, 0, 0)]
def bk_9_12 : List mIns := [(.aload_n 0, 0, 0, 0), (.getfield 11, 1, 0, 2), (.aload_n 0, 0, 0, 0), (.getfield 17, 1, 1, 0), (.aaload, 5, 4, 0), (.aload_n 1, 1, 0, 0), (.invokevirtual 25, 25, 2, 0), (.aload_n 0, 0, 0, 0), (.dup, 0, 0, 0), (.getfield 17, 1, 1, 0), (.iconst 1, 0, 0, 1), (.iadd, 0, 0, 0), (.putfield 17, 1, 1, 0), (.return_, 0, 0, 0)]
def bk_10_0 : List mIns := [(.aload_n 0, 0, 0, 0), (.getfield 11, 1, 0, 2), (.iconst 0, 0, 0, 0), (.aaload, 5, 4, 0), (.astore_n 1, 1, 0, 0), (.iconst 1, 0, 0, 1), (.istore_n 2, 2, 0, 0), (.nop, 9, 0, 0)]
def bk_10_9 : List mIns := [(.iload_n 2, 2, 0, 0), (.iconst 4, 0, 0, 4), (.if_icmp .ge 23, 34, 0, 0), (.aload_n 0, 0, 0, 0), (.getfield 11, 1, 0, 2), (.iload_n 2, 2, 0, 0), (.iconst 1, 0, 0, 1), (.isub, 0, 0, 0), (.aload_n 0, 0, 0, 0), (.getfield 11, 1, 0, 2), (.iload_n 2, 2, 0, 0), (.aaload, 5, 4, 0), (.aastore, 5, 4, 0), (.iinc 2 1, 2, 0, 1), (.goto (-22), 9, 0, 0)]
def bk_10_34 : List mIns := [(.aload_n 0, 0, 0, 0), (.getfield 11, 1, 0, 2), (.iconst 3, 0, 0, 3), (.aload_n 1, 1, 0, 0), (.aastore, 5, 4, 0), (.aload_n 0, 0, 0, 0), (.iconst 3, 0, 0, 3), (.putfield 17, 1, 1, 0), (.return_, 0, 0, 0)]
def bk_11_0 : List mIns := [(.aload_n 0, 0, 0, 0), (.getfield 17, 1, 1, 0), (.ifCond .ne 5, 9, 0, 0), (.iconst 0, 0, 0, 0), (.ireturn, 0, 0, 1)]
def bk_11_9 : List mIns := [(.aload_n 0, 0, 0, 0), (.dup, 0, 0, 0), (.getfield 17, 1, 1, 0), (.iconst 1, 0, 0, 1), (.isub, 0, 0, 0), (.putfield 17, 1, 1, 0), (.aload_n 1, 1, 0, 0), (.aload_n 0, 0, 0, 0), (.getfield 11, 1, 0, 2), (.aload_n 0, 0, 0, 0), (.getfield 17, 1, 1, 0), (.aaload, 5, 4, 0), (.invokevirtual 25, 25, 2, 0), (.iconst 1, 0, 0, 1), (.ireturn, 0, 0, 1)]
def bk_12_0 : List mIns := [(.aload_n 0, 0, 0, 0), (.invokespecial 3, 0, 0, 0), (.aload_n 0, 0, 0, 0), (.bipush 10, 0, 0, 10), (.newarray .int, 2, 0, 0), (.putfield 9, 2, 0, 5), (.aload_n 0, 0, 0, 0), (.bipush 10, 0, 0, 10), (.newarray .int, 2, 0, 0), (.putfield 15, 2, 1, 5), (.aload_n 0, 0, 0, 0), (.bipush 10, 0, 0, 10), (.newarray .int, 2, 0, 0), (.putfield 18, 2, 2, 5), (.aload_n 0, 0, 0, 0), (.iconst 0, 0, 0, 0), (.putfield 21, 2, 3, 0), (.return_, 0, 0, 0)]
def bk_13_0 : List mIns := [(.aload_n 1, 1, 0, 0), (.getfield 9, 2, 0, 2), (.iconst 0, 0, 0, 0), (.aload_n 0, 0, 0, 0), (.getfield 9, 2, 0, 2), (.iconst 0, 0, 0, 0), (.bipush 10, 0, 0, 10), (.invokestatic 25, 0, 0, 2), (.aload_n 1, 1, 0, 0), (.getfield 15, 2, 1, 2), (.iconst 0, 0, 0, 0), (.aload_n 0, 0, 0, 0), (.getfield 15, 2, 1, 2), (.iconst 0, 0, 0, 0), (.bipush 10, 0, 0, 10), (.invokestatic 25, 0, 0, 2), (.aload_n 1, 1, 0, 0), (.getfield 18, 2, 2, 2), (.iconst 0, 0, 0, 0), (.aload_n 0, 0, 0, 0), (.getfield 18, 2, 2, 2), (.iconst 0, 0, 0, 0), (.bipush 10, 0, 0, 10), (.invokestatic 25, 0, 0, 2), (.aload_n 0, 0, 0, 0), (.aload_n 1, 1, 0, 0), (.getfield 21, 2, 3, 0), (.putfield 21, 2, 3, 0), (.return_, 0, 0, 0)]
def bk_14_0 : List mIns := [(.aload_n 0, 0, 0, 0), (.getfield 21, 2, 3, 0), (.bipush 10, 0, 0, 10), (.if_icmp .ne 7, 13, 0, 0), (.aload_n 0, 0, 0, 0), (.invokevirtual 31, 15, 1, 0), (.nop, 13, 0, 0)]
def bk_14_13 : List mIns := [(.aload_n 0, 0, 0, 0), (.getfield 9, 2, 0, 2), (.aload_n 0, 0, 0, 0), (.getfield 21, 2, 3, 0), (.iload_n 1, 1, 0, 0), (.iastore, 0, 0, 0), (.aload_n 0, 0, 0, 0), (.getfield 15, 2, 1, 2), (.aload_n 0, 0, 0, 0), (.getfield 21, 2, 3, 0), (.iload_n 2, 2, 0, 0), (.iastore, 0, 0, 0), (.aload_n 0, 0, 0, 0), (.getfield 18, 2, 2, 2), (.aload_n 0, 0, 0, 0), (.getfield 21, 2, 3, 0), (.iload_n 3, 3, 0, 0), (.iastore, 0, 0, 0), (.aload_n 0, 0, 0, 0), (.dup, 0, 0, 0), (.getfield 21, 2, 3, 0), (.iconst 1, 0, 0, 1), (.iadd, 0, 0, 0), (.putfield 21, 2, 3, 0), (.return_, 0, 0, 0)]
def bk_15_0 : List mIns := [(.aload_n 0, 0, 0, 0), (.getfield 9, 2, 0, 2), (.iconst 1, 0, 0, 1), (.aload_n 0, 0, 0, 0), (.getfield 9, 2, 0, 2), (.iconst 0, 0, 0, 0), (.bipush 9, 0, 0, 9), (.invokestatic 25, 0, 0, 2), (.aload_n 0, 0, 0, 0), (.getfield 15, 2, 1, 2), (.iconst 1, 0, 0, 1), (.aload_n 0, 0, 0, 0), (.getfield 15, 2, 1, 2), (.iconst 0, 0, 0, 0), (.bipush 9, 0, 0, 9), (.invokestatic 25, 0, 0, 2), (.aload_n 0, 0, 0, 0), (.getfield 18, 2, 2, 2), (.iconst 1, 0, 0, 1), (.aload_n 0, 0, 0, 0), (.getfield 18, 2, 2, 2), (.iconst 0, 0, 0, 0), (.bipush 9, 0, 0, 9), (.invokestatic 25, 0, 0, 2), (.aload_n 0, 0, 0, 0), (.bipush 9, 0, 0, 9), (.putfield 21, 2, 3, 0), (.return_, 0, 0, 0)]
def bk_16_0 : List mIns := [(.iload_n 1, 1, 0, 0), (.ifCond .lt 11, 12, 0, 0), (.iload_n 1, 1, 0, 0), (.aload_n 0, 0, 0, 0), (.getfield 21, 2, 3, 0), (.if_icmp .lt 6, 15, 0, 0), (.nop, 12, 0, 0)]
def bk_16_12 : List mIns := [(.bipush (-5), 0, 0, (-5)), (.ireturn, 0, 0, 0)]
def bk_16_15 : List mIns := [(.aload_n 0, 0, 0, 0), (.getfield 21, 2, 3, 0), (.iconst 1, 0, 0, 1), (.isub, 0, 0, 0), (.iload_n 1, 1, 0, 0), (.isub, 0, 0, 0), (.istore_n 3, 3, 0, 0), (.iload_n 2, 2, 0, 0), (.ifCond .ne 10, 35, 0, 0), (.aload_n 0, 0, 0, 0), (.getfield 9, 2, 0, 2), (.iload_n 3, 3, 0, 0), (.iaload, 0, 0, 0), (.ireturn, 0, 0, 0)]
def bk_16_35 : List mIns := [(.iload_n 2, 2, 0, 0), (.iconst 1, 0, 0, 1), (.if_icmp .ne 12, 49, 0, 0), (.aload_n 0, 0, 0, 0), (.getfield 15, 2, 1, 2), (.iload_n 3, 3, 0, 0), (.iaload, 0, 0, 0), (.goto 9, 55, 0, 0)]
def bk_16_49 : List mIns := [(.aload_n 0, 0, 0, 0), (.getfield 18, 2, 2, 2), (.iload_n 3, 3, 0, 0), (.iaload, 0, 0, 0), (.nop, 55, 0, 0)]
def bk_16_55 : List mIns := [(.ireturn, 0, 0, 0)]
def bk_17_0 : List mIns := [(.aload_n 0, 0, 0, 0), (.invokespecial 3, 0, 0, 0), (.aload_n 0, 0, 0, 0), (.bipush 30, 0, 0, 30), (.newarray .int, 2, 0, 0), (.putfield 9, 3, 0, 5), (.aload_n 0, 0, 0, 0), (.iconst 0, 0, 0, 0), (.putfield 15, 3, 1, 0), (.aload_n 0, 0, 0, 0), (.iconst 0, 0, 0, 0), (.putfield 19, 3, 2, 0), (.aload_n 0, 0, 0, 0), (.iconst (-1), 0, 0, (-1)), (.putfield 22, 3, 3, 0), (.return_, 0, 0, 0)]
def bk_18_0 : List mIns := [(.aload_n 0, 0, 0, 0), (.iconst 0, 0, 0, 0), (.putfield 15, 3, 1, 0), (.aload_n 0, 0, 0, 0), (.iconst 0, 0, 0, 0), (.putfield 19, 3, 2, 0), (.aload_n 0, 0, 0, 0), (.iconst (-1), 0, 0, (-1)), (.putfield 22, 3, 3, 0), (.aload_n 1, 1, 0, 0), (.getfield 25, 6, 0, 2), (.iconst 0, 0, 0, 0), (.iaload, 0, 0, 0), (.istore_n 3, 3, 0, 0), (.iconst 0, 0, 0, 0), (.istore 4, 4, 0, 0), (.nop, 25, 0, 0)]
def bk_18_25 : List mIns := [(.iload 4, 4, 0, 0), (.aload_n 1, 1, 0, 0), (.getfield 30, 6, 5, 0), (.if_icmp .ge 100, 131, 0, 0), (.iload 4, 4, 0, 0), (.bipush 30, 0, 0, 30), (.if_icmp .ge 93, 131, 0, 0), (.aload_n 1, 1, 0, 0), (.getfield 25, 6, 0, 2), (.iload 4, 4, 0, 0), (.iconst 1, 0, 0, 1), (.iadd, 0, 0, 0), (.iaload, 0, 0, 0), (.istore 5, 5, 0, 0), (.iload_n 2, 2, 0, 0), (.iconst 2, 0, 0, 2), (.if_icmp .ne 10, 64, 0, 0), (.aload_n 1, 1, 0, 0), (.iload 4, 4, 0, 0), (.invokestatic 33, 19, 2, 0), (.istore_n 3, 3, 0, 0), (.nop, 64, 0, 0)]
def bk_18_64 : List mIns := [(.iload 5, 5, 0, 0), (.iload_n 3, 3, 0, 0), (.invokestatic 37, 20, 2, 0), (.istore 6, 6, 0, 0), (.iload_n 2, 2, 0, 0), (.iconst 1, 0, 0, 1), (.if_icmp .ne 25, 99, 0, 0), (.iload 6, 6, 0, 0), (.iconst (-1), 0, 0, (-1)), (.if_icmp .eq 19, 99, 0, 0), (.iconst 3, 0, 0, 3), (.iload_n 3, 3, 0, 0), (.imul, 0, 0, 0), (.iconst 5, 0, 0, 5), (.iload 5, 5, 0, 0), (.imul, 0, 0, 0), (.iload 6, 6, 0, 0), (.iconst 2, 0, 0, 2), (.iadd, 0, 0, 0), (.idiv, 0, 0, 0), (.iadd, 0, 0, 0), (.iconst 4, 0, 0, 4), (.idiv, 0, 0, 0), (.istore_n 3, 3, 0, 0), (.nop, 99, 0, 0)]
def bk_18_99 : List mIns := [(.aload_n 0, 0, 0, 0), (.getfield 9, 3, 0, 2), (.iload 4, 4, 0, 0), (.iload 6, 6, 0, 0), (.iastore, 0, 0, 0), (.aload_n 0, 0, 0, 0), (.iload 4, 4, 0, 0), (.iload 6, 6, 0, 0), (.aload_n 1, 1, 0, 0), (.getfield 41, 6, 2, 2), (.iload 4, 4, 0, 0), (.iconst 1, 0, 0, 1), (.iadd, 0, 0, 0), (.iaload, 0, 0, 0), (.invokevirtual 44, 21, 4, 0), (.iinc 4 1, 4, 0, 1), (.goto (-103), 25, 0, 0)]
def bk_18_131 : List mIns := [(.return_, 0, 0, 0)]
def bk_19_0 : List mIns := [(.aload_n 0, 0, 0, 0), (.getfield 25, 6, 0, 2), (.iconst 0, 0, 0, 0), (.iaload, 0, 0, 0), (.istore_n 2, 2, 0, 0), (.aload_n 0, 0, 0, 0), (.getfield 30, 6, 5, 0), (.iconst 1, 0, 0, 1), (.iadd, 0, 0, 0), (.istore_n 3, 3, 0, 0), (.iload_n 3, 3, 0, 0), (.ifCond .le 11, 26, 0, 0), (.aload_n 0, 0, 0, 0), (.iload_n 3, 3, 0, 0), (.invokevirtual 48, 38, 2, 0), (.ifCond .ne 5, 28, 0, 0), (.nop, 26, 0, 0)]
def bk_19_26 : List mIns := [(.iload_n 2, 2, 0, 0), (.ireturn, 0, 0, 0)]
def bk_19_28 : List mIns := [(.iload_n 2, 2, 0, 0), (.aload_n 0, 0, 0, 0), (.getfield 25, 6, 0, 2), (.iload_n 3, 3, 0, 0), (.iaload, 0, 0, 0), (.iload_n 2, 2, 0, 0), (.isub, 0, 0, 0), (.iload_n 1, 1, 0, 0), (.iconst 1, 0, 0, 1), (.iadd, 0, 0, 0), (.imul, 0, 0, 0), (.iload_n 3, 3, 0, 0), (.idiv, 0, 0, 0), (.iadd, 0, 0, 0), (.ireturn, 0, 0, 0)]
def bk_20_0 : List mIns := [(.iload_n 1, 1, 0, 0), (.ifCond .gt 5, 6, 0, 0), (.iconst (-1), 0, 0, (-1)), (.ireturn, 0, 0, 0)]
def bk_20_6 : List mIns := [(.bipush 10, 0, 0, 10), (.iload_n 0, 0, 0, 0), (.imul, 0, 0, 0), (.iload_n 1, 1, 0, 0), (.iadd, 0, 0, 0), (.iconst 2, 0, 0, 2), (.iload_n 1, 1, 0, 0), (.imul, 0, 0, 0), (.idiv, 0, 0, 0), (.iconst 2, 0, 0, 2), (.isub, 0, 0, 0), (.istore_n 2, 2, 0, 0), (.iload_n 2, 2, 0, 0), (.ifCond .lt 13, 33, 0, 0), (.iload_n 2, 2, 0, 0), (.bipush 7, 0, 0, 7), (.if_icmp .gt 7, 33, 0, 0), (.iload_n 2, 2, 0, 0), (.goto 4, 34, 0, 0)]
def bk_20_33 : List mIns := [(.iconst (-1), 0, 0, (-1)), (.nop, 34, 0, 0)]
def bk_20_34 : List mIns := [(.ireturn, 0, 0, 0)]
def bk_21_0 : List mIns := [(.iload_n 2, 2, 0, 0), (.iload_n 3, 3, 0, 0), (.if_icmp .ne 4, 6, 0, 0), (.return_, 0, 0, 0)]
def bk_21_6 : List mIns := [(.iload_n 2, 2, 0, 0), (.iconst (-1), 0, 0, (-1)), (.if_icmp .ne 16, 24, 0, 0), (.aload_n 0, 0, 0, 0), (.dup, 0, 0, 0), (.getfield 19, 3, 2, 0), (.iconst 1, 0, 0, 1), (.iadd, 0, 0, 0), (.putfield 19, 3, 2, 0), (.goto 13, 34, 0, 0)]
def bk_21_24 : List mIns := [(.aload_n 0, 0, 0, 0), (.dup, 0, 0, 0), (.getfield 15, 3, 1, 0), (.iconst 1, 0, 0, 1), (.iadd, 0, 0, 0), (.putfield 15, 3, 1, 0), (.nop, 34, 0, 0)]
def bk_21_34 : List mIns := [(.aload_n 0, 0, 0, 0), (.getfield 22, 3, 3, 0), (.iconst (-1), 0, 0, (-1)), (.if_icmp .ne 8, 47, 0, 0), (.aload_n 0, 0, 0, 0), (.iload_n 1, 1, 0, 0), (.putfield 22, 3, 3, 0), (.nop, 47, 0, 0)]
def bk_21_47 : List mIns := [(.return_, 0, 0, 0)]
def bk_22_0 : List mIns := [(.aload_n 0, 0, 0, 0), (.getfield 15, 3, 1, 0), (.aload_n 0, 0, 0, 0), (.getfield 19, 3, 2, 0), (.iadd, 0, 0, 0), (.ireturn, 0, 0, 0)]
def bk_23_0 : List mIns := [(.iconst 0, 0, 0, 0), (.istore_n 3, 3, 0, 0), (.nop, 2, 0, 0)]
def bk_23_2 : List mIns := [(.iload_n 3, 3, 0, 0), (.iload_n 2, 2, 0, 0), (.if_icmp .ge 32, 36, 0, 0), (.iload_n 3, 3, 0, 0), (.bipush 30, 0, 0, 30), (.if_icmp .ge 26, 36, 0, 0), (.aload_n 0, 0, 0, 0), (.getfield 9, 3, 0, 2), (.iload_n 3, 3, 0, 0), (.iaload, 0, 0, 0), (.aload_n 1, 1, 0, 0), (.getfield 9, 3, 0, 2), (.iload_n 3, 3, 0, 0), (.iaload, 0, 0, 0), (.if_icmp .eq 5, 30, 0, 0), (.iconst 0, 0, 0, 0), (.ireturn, 0, 0, 1)]
def bk_23_30 : List mIns := [(.iinc 3 1, 3, 0, 1), (.goto (-31), 2, 0, 0)]
def bk_23_36 : List mIns := [(.iconst 1, 0, 0, 1), (.ireturn, 0, 0, 1)]
def bk_24_0 : List mIns := [(.aload_n 0, 0, 0, 0), (.invokespecial 3, 0, 0, 0), (.aload_n 0, 0, 0, 0), (.bipush 6, 0, 0, 6), (.anewarray 9, 4, 6, 0), (.putfield 11, 4, 0, 5), (.aload_n 0, 0, 0, 0), (.new 17, 2, 4, 0), (.dup, 0, 0, 0), (.invokespecial 19, 12, 1, 1), (.putfield 20, 4, 1, 5), (.aload_n 0, 0, 0, 0), (.iconst 0, 0, 0, 0), (.putfield 24, 4, 2, 0), (.aload_n 0, 0, 0, 0), (.sipush 130, 0, 0, 130), (.putfield 28, 4, 3, 0), (.aload_n 0, 0, 0, 0), (.iconst 0, 0, 0, 0), (.putfield 31, 4, 4, 0), (.aload_n 0, 0, 0, 0), (.iconst 0, 0, 0, 0), (.putfield 34, 4, 5, 0), (.aload_n 0, 0, 0, 0), (.iconst 0, 0, 0, 0), (.putfield 37, 4, 6, 0), (.aload_n 0, 0, 0, 0), (.iconst 0, 0, 0, 0), (.putfield 40, 4, 7, 0), (.aload_n 0, 0, 0, 0), (.iconst 0, 0, 0, 0), (.putfield 43, 4, 8, 0), (.iconst 0, 0, 0, 0), (.istore_n 1, 1, 0, 0), (.nop, 63, 0, 0)]
def bk_24_63 : List mIns := [(.iload_n 1, 1, 0, 0), (.bipush 6, 0, 0, 6), (.if_icmp .ge 22, 88, 0, 0), (.aload_n 0, 0, 0, 0), (.getfield 11, 4, 0, 2), (.iload_n 1, 1, 0, 0), (.new 9, 6, 7, 0), (.dup, 0, 0, 0), (.invokespecial 46, 35, 1, 1), (.aastore, 4, 6, 0), (.iinc 1 1, 1, 0, 1), (.goto (-22), 63, 0, 0)]
def bk_24_88 : List mIns := [(.return_, 0, 0, 0)]
def bk_25_0 : List mIns := [(.iconst 0, 0, 0, 0), (.istore_n 2, 2, 0, 0), (.nop, 2, 0, 0)]
def bk_25_2 : List mIns := [(.iload_n 2, 2, 0, 0), (.bipush 6, 0, 0, 6), (.if_icmp .ge 24, 29, 0, 0), (.aload_n 0, 0, 0, 0), (.getfield 11, 4, 0, 2), (.iload_n 2, 2, 0, 0), (.aaload, 4, 6, 0), (.aload_n 1, 1, 0, 0), (.getfield 11, 4, 0, 2), (.iload_n 2, 2, 0, 0), (.aaload, 4, 6, 0), (.invokevirtual 47, 36, 2, 0), (.iinc 2 1, 2, 0, 1), (.goto (-24), 2, 0, 0)]
def bk_25_29 : List mIns := [(.aload_n 0, 0, 0, 0), (.getfield 20, 4, 1, 2), (.aload_n 1, 1, 0, 0), (.getfield 20, 4, 1, 2), (.invokevirtual 51, 13, 2, 0), (.aload_n 0, 0, 0, 0), (.aload_n 1, 1, 0, 0), (.getfield 24, 4, 2, 0), (.putfield 24, 4, 2, 0), (.aload_n 0, 0, 0, 0), (.aload_n 1, 1, 0, 0), (.getfield 28, 4, 3, 0), (.putfield 28, 4, 3, 0), (.aload_n 0, 0, 0, 0), (.aload_n 1, 1, 0, 0), (.getfield 31, 4, 4, 0), (.putfield 31, 4, 4, 0), (.aload_n 0, 0, 0, 0), (.aload_n 1, 1, 0, 0), (.getfield 34, 4, 5, 0), (.putfield 34, 4, 5, 0), (.aload_n 0, 0, 0, 0), (.aload_n 1, 1, 0, 0), (.getfield 37, 4, 6, 0), (.putfield 37, 4, 6, 0), (.aload_n 0, 0, 0, 0), (.aload_n 1, 1, 0, 0), (.getfield 40, 4, 7, 0), (.putfield 40, 4, 7, 0), (.aload_n 0, 0, 0, 0), (.aload_n 1, 1, 0, 0), (.getfield 43, 4, 8, 0), (.putfield 43, 4, 8, 0), (.return_, 0, 0, 0)]
def bk_26_0 : List mIns := [(.iconst 0, 0, 0, 0), (.istore_n 1, 1, 0, 0), (.iconst 0, 0, 0, 0), (.istore_n 2, 2, 0, 0), (.nop, 4, 0, 0)]
def bk_26_4 : List mIns := [(.iload_n 2, 2, 0, 0), (.bipush 6, 0, 0, 6), (.if_icmp .ge 24, 31, 0, 0), (.aload_n 0, 0, 0, 0), (.getfield 11, 4, 0, 2), (.iload_n 2, 2, 0, 0), (.aaload, 4, 6, 0), (.getfield 54, 6, 3, 1), (.ifCond .eq 6, 25, 0, 0), (.iinc 1 1, 1, 0, 1), (.nop, 25, 0, 0)]
def bk_26_25 : List mIns := [(.iinc 2 1, 2, 0, 1), (.goto (-24), 4, 0, 0)]
def bk_26_31 : List mIns := [(.iload_n 1, 1, 0, 0), (.ireturn, 0, 0, 0)]
def bk_27_0 : List mIns := [(.iconst 0, 0, 0, 0), (.istore_n 1, 1, 0, 0), (.iconst 0, 0, 0, 0), (.istore_n 2, 2, 0, 0), (.nop, 4, 0, 0)]
def bk_27_4 : List mIns := [(.iload_n 2, 2, 0, 0), (.bipush 6, 0, 0, 6), (.if_icmp .ge 21, 28, 0, 0), (.iload_n 1, 1, 0, 0), (.aload_n 0, 0, 0, 0), (.getfield 11, 4, 0, 2), (.iload_n 2, 2, 0, 0), (.aaload, 4, 6, 0), (.getfield 58, 6, 5, 0), (.iadd, 0, 0, 0), (.istore_n 1, 1, 0, 0), (.iinc 2 1, 2, 0, 1), (.goto (-21), 4, 0, 0)]
def bk_27_28 : List mIns := [(.iload_n 1, 1, 0, 0), (.ireturn, 0, 0, 0)]
def bk_28_0 : List mIns := [(.iconst 0, 0, 0, 0), (.istore_n 1, 1, 0, 0), (.nop, 2, 0, 0)]
def bk_28_2 : List mIns := [(.iload_n 1, 1, 0, 0), (.bipush 6, 0, 0, 6), (.if_icmp .ge 23, 28, 0, 0), (.aload_n 0, 0, 0, 0), (.getfield 11, 4, 0, 2), (.iload_n 1, 1, 0, 0), (.aaload, 4, 6, 0), (.getfield 54, 6, 3, 1), (.ifCond .ne 5, 22, 0, 0), (.iload_n 1, 1, 0, 0), (.ireturn, 0, 0, 0)]
def bk_28_22 : List mIns := [(.iinc 1 1, 1, 0, 1), (.goto (-23), 2, 0, 0)]
def bk_28_28 : List mIns := [(.bipush 6, 0, 0, 6), (.ireturn, 0, 0, 0)]
def bk_29_0 : List mIns := [(.iconst 1, 0, 0, 1), (.istore 4, 4, 0, 0), (.nop, 3, 0, 0)]
def bk_29_3 : List mIns := [(.iload 4, 4, 0, 0), (.iload_n 3, 3, 0, 0), (.if_icmp .gt 93, 99, 0, 0), (.aload_n 0, 0, 0, 0), (.getfield 11, 4, 0, 2), (.iload_n 1, 1, 0, 0), (.aaload, 4, 6, 0), (.aload_n 0, 0, 0, 0), (.getfield 24, 4, 2, 0), (.aload_n 0, 0, 0, 0), (.getfield 28, 4, 3, 0), (.iload_n 2, 2, 0, 0), (.invokevirtual 61, 51, 4, 0), (.istore 5, 5, 0, 0), (.aload_n 0, 0, 0, 0), (.getfield 11, 4, 0, 2), (.iload_n 1, 1, 0, 0), (.aaload, 4, 6, 0), (.dup, 0, 0, 0), (.getfield 65, 6, 6, 0), (.iconst 1, 0, 0, 1), (.iadd, 0, 0, 0), (.putfield 65, 6, 6, 0), (.aload_n 0, 0, 0, 0), (.dup, 0, 0, 0), (.getfield 37, 4, 6, 0), (.iconst 1, 0, 0, 1), (.iadd, 0, 0, 0), (.putfield 37, 4, 6, 0), (.aload_n 0, 0, 0, 0), (.dup, 0, 0, 0), (.getfield 31, 4, 4, 0), (.bipush 10, 0, 0, 10), (.iload_n 2, 2, 0, 0), (.isub, 0, 0, 0), (.iadd, 0, 0, 0), (.putfield 31, 4, 4, 0), (.aload_n 0, 0, 0, 0), (.getfield 20, 4, 1, 2), (.iconst 1, 0, 0, 1), (.iload_n 1, 1, 0, 0), (.iload_n 2, 2, 0, 0), (.invokevirtual 66, 14, 4, 0), (.iload 5, 5, 0, 0), (.iconst (-1), 0, 0, (-1)), (.if_icmp .eq 13, 93, 0, 0), (.aload_n 0, 0, 0, 0), (.iload_n 1, 1, 0, 0), (.iload 5, 5, 0, 0), (.invokevirtual 70, 30, 3, 0), (.iload 4, 4, 0, 0), (.ireturn, 0, 0, 0)]
def bk_29_93 : List mIns := [(.iinc 4 1, 4, 0, 1), (.goto (-93), 3, 0, 0)]
def bk_29_99 : List mIns := [(.iload_n 3, 3, 0, 0), (.ireturn, 0, 0, 0)]
def bk_30_0 : List mIns := [(.aload_n 0, 0, 0, 0), (.getfield 11, 4, 0, 2), (.iload_n 1, 1, 0, 0), (.aaload, 4, 6, 0), (.astore_n 3, 3, 0, 0), (.aload_n 3, 3, 0, 0), (.invokevirtual 74, 37, 1, 0), (.iload_n 2, 2, 0, 0), (.isub, 0, 0, 0), (.istore 4, 4, 0, 0), (.aload_n 3, 3, 0, 0), (.getfield 58, 6, 5, 0), (.istore 5, 5, 0, 0), (.aload_n 3, 3, 0, 0), (.iload_n 2, 2, 0, 0), (.invokevirtual 78, 52, 2, 0), (.aload_n 0, 0, 0, 0), (.dup, 0, 0, 0), (.getfield 40, 4, 7, 0), (.iconst 1, 0, 0, 1), (.iadd, 0, 0, 0), (.putfield 40, 4, 7, 0), (.aload_n 0, 0, 0, 0), (.dup, 0, 0, 0), (.getfield 43, 4, 8, 0), (.iload 5, 5, 0, 0), (.aload_n 3, 3, 0, 0), (.getfield 58, 6, 5, 0), (.isub, 0, 0, 0), (.iadd, 0, 0, 0), (.putfield 43, 4, 8, 0), (.aload_n 0, 0, 0, 0), (.getfield 20, 4, 1, 2), (.iconst 2, 0, 0, 2), (.iload_n 1, 1, 0, 0), (.iload 4, 4, 0, 0), (.invokevirtual 66, 14, 4, 0), (.return_, 0, 0, 0)]
def bk_31_0 : List mIns := [(.aload_n 0, 0, 0, 0), (.invokespecial 3, 0, 0, 0), (.aload_n 0, 0, 0, 0), (.bipush 50, 0, 0, 50), (.newarray .char, 3, 0, 0), (.putfield 9, 5, 0, 5), (.aload_n 0, 0, 0, 0), (.iconst 0, 0, 0, 0), (.putfield 15, 5, 1, 0), (.return_, 0, 0, 0)]
def bk_32_0 : List mIns := [(.aload_n 0, 0, 0, 0), (.getfield 15, 5, 1, 0), (.bipush 50, 0, 0, 50), (.if_icmp .lt 5, 11, 0, 0), (.iconst 0, 0, 0, 0), (.ireturn, 0, 0, 1)]
def bk_32_11 : List mIns := [(.aload_n 0, 0, 0, 0), (.getfield 9, 5, 0, 2), (.aload_n 0, 0, 0, 0), (.getfield 15, 5, 1, 0), (.iload_n 1, 1, 0, 0), (.castore, 0, 0, 0), (.aload_n 0, 0, 0, 0), (.dup, 0, 0, 0), (.getfield 15, 5, 1, 0), (.iconst 1, 0, 0, 1), (.iadd, 0, 0, 0), (.putfield 15, 5, 1, 0), (.iconst 1, 0, 0, 1), (.ireturn, 0, 0, 1)]
def bk_33_0 : List mIns := [(.iload_n 1, 1, 0, 0), (.ifCond .lt 11, 12, 0, 0), (.iload_n 1, 1, 0, 0), (.aload_n 0, 0, 0, 0), (.getfield 15, 5, 1, 0), (.if_icmp .lt 5, 14, 0, 0), (.nop, 12, 0, 0)]
def bk_33_12 : List mIns := [(.iconst (-1), 0, 0, (-1)), (.ireturn, 0, 0, 0)]
def bk_33_14 : List mIns := [(.aload_n 0, 0, 0, 0), (.getfield 9, 5, 0, 2), (.iload_n 1, 1, 0, 0), (.caload, 0, 0, 0), (.ireturn, 0, 0, 0)]
def bk_34_0 : List mIns := [(.aload_n 1, 1, 0, 0), (.invokevirtual 19, 87, 1, 0), (.iload_n 2, 2, 0, 0), (.if_icmp .eq 5, 10, 0, 0), (.iconst 0, 0, 0, 0), (.ireturn, 0, 0, 1)]
def bk_34_10 : List mIns := [(.iconst 0, 0, 0, 0), (.istore_n 3, 3, 0, 0), (.nop, 12, 0, 0)]
def bk_34_12 : List mIns := [(.iload_n 3, 3, 0, 0), (.iload_n 2, 2, 0, 0), (.if_icmp .ge 24, 38, 0, 0), (.aload_n 0, 0, 0, 0), (.iload_n 3, 3, 0, 0), (.invokevirtual 25, 33, 2, 0), (.aload_n 1, 1, 0, 0), (.iload_n 3, 3, 0, 0), (.invokevirtual 29, 88, 2, 0), (.if_icmp .eq 5, 32, 0, 0), (.iconst 0, 0, 0, 0), (.ireturn, 0, 0, 1)]
def bk_34_32 : List mIns := [(.iinc 3 1, 3, 0, 1), (.goto (-23), 12, 0, 0)]
def bk_34_38 : List mIns := [(.iconst 1, 0, 0, 1), (.ireturn, 0, 0, 1)]
def bk_35_0 : List mIns := [(.aload_n 0, 0, 0, 0), (.invokespecial 3, 0, 0, 0), (.aload_n 0, 0, 0, 0), (.bipush 32, 0, 0, 32), (.newarray .int, 2, 0, 0), (.putfield 9, 6, 0, 5), (.aload_n 0, 0, 0, 0), (.bipush 32, 0, 0, 32), (.newarray .int, 2, 0, 0), (.putfield 15, 6, 1, 5), (.aload_n 0, 0, 0, 0), (.bipush 32, 0, 0, 32), (.newarray .int, 2, 0, 0), (.putfield 18, 6, 2, 5), (.aload_n 0, 0, 0, 0), (.iconst 0, 0, 0, 0), (.putfield 21, 6, 3, 1), (.aload_n 0, 0, 0, 0), (.iconst 0, 0, 0, 0), (.putfield 25, 6, 4, 1), (.aload_n 0, 0, 0, 0), (.iconst 0, 0, 0, 0), (.putfield 28, 6, 5, 0), (.aload_n 0, 0, 0, 0), (.iconst 0, 0, 0, 0), (.putfield 32, 6, 6, 0), (.return_, 0, 0, 0)]
def bk_36_0 : List mIns := [(.aload_n 1, 1, 0, 0), (.getfield 9, 6, 0, 2), (.iconst 0, 0, 0, 0), (.aload_n 0, 0, 0, 0), (.getfield 9, 6, 0, 2), (.iconst 0, 0, 0, 0), (.bipush 32, 0, 0, 32), (.invokestatic 35, 0, 0, 2), (.aload_n 1, 1, 0, 0), (.getfield 15, 6, 1, 2), (.iconst 0, 0, 0, 0), (.aload_n 0, 0, 0, 0), (.getfield 15, 6, 1, 2), (.iconst 0, 0, 0, 0), (.bipush 32, 0, 0, 32), (.invokestatic 35, 0, 0, 2), (.aload_n 1, 1, 0, 0), (.getfield 18, 6, 2, 2), (.iconst 0, 0, 0, 0), (.aload_n 0, 0, 0, 0), (.getfield 18, 6, 2, 2), (.iconst 0, 0, 0, 0), (.bipush 32, 0, 0, 32), (.invokestatic 35, 0, 0, 2), (.aload_n 0, 0, 0, 0), (.aload_n 1, 1, 0, 0), (.getfield 21, 6, 3, 1), (.putfield 21, 6, 3, 1), (.aload_n 0, 0, 0, 0), (.aload_n 1, 1, 0, 0), (.getfield 25, 6, 4, 1), (.putfield 25, 6, 4, 1), (.aload_n 0, 0, 0, 0), (.aload_n 1, 1, 0, 0), (.getfield 28, 6, 5, 0), (.putfield 28, 6, 5, 0), (.aload_n 0, 0, 0, 0), (.aload_n 1, 1, 0, 0), (.getfield 32, 6, 6, 0), (.putfield 32, 6, 6, 0), (.return_, 0, 0, 0)]
def bk_37_0 : List mIns := [(.aload_n 0, 0, 0, 0), (.getfield 21, 6, 3, 1), (.ifCond .ne 5, 9, 0, 0), (.iconst 0, 0, 0, 0), (.ireturn, 0, 0, 0)]
def bk_37_9 : List mIns := [(.aload_n 0, 0, 0, 0), (.getfield 25, 6, 4, 1), (.ifCond .eq 12, 25, 0, 0), (.aload_n 0, 0, 0, 0), (.getfield 28, 6, 5, 0), (.iconst 2, 0, 0, 2), (.iadd, 0, 0, 0), (.goto 9, 31, 0, 0)]
def bk_37_25 : List mIns := [(.aload_n 0, 0, 0, 0), (.getfield 28, 6, 5, 0), (.iconst 1, 0, 0, 1), (.iadd, 0, 0, 0), (.nop, 31, 0, 0)]
def bk_37_31 : List mIns := [(.bipush 32, 0, 0, 32), (.invokestatic 41, 0, 0, 1), (.ireturn, 0, 0, 0)]
def bk_38_0 : List mIns := [(.iload_n 1, 1, 0, 0), (.ifCond .lt 15, 16, 0, 0), (.iload_n 1, 1, 0, 0), (.aload_n 0, 0, 0, 0), (.invokevirtual 47, 37, 1, 0), (.if_icmp .ge 7, 16, 0, 0), (.iconst 1, 0, 0, 1), (.goto 4, 17, 0, 0)]
def bk_38_16 : List mIns := [(.iconst 0, 0, 0, 0), (.nop, 17, 0, 0)]
def bk_38_17 : List mIns := [(.ireturn, 0, 0, 1)]
def bk_39_0 : List mIns := [(.iload_n 1, 1, 0, 0), (.ifCond .lt 15, 16, 0, 0), (.iload_n 1, 1, 0, 0), (.aload_n 0, 0, 0, 0), (.getfield 28, 6, 5, 0), (.if_icmp .ge 7, 16, 0, 0), (.iconst 1, 0, 0, 1), (.goto 4, 17, 0, 0)]
def bk_39_16 : List mIns := [(.iconst 0, 0, 0, 0), (.nop, 17, 0, 0)]
def bk_39_17 : List mIns := [(.ireturn, 0, 0, 1)]
def bk_40_0 : List mIns := [(.aload_n 0, 0, 0, 0), (.getfield 21, 6, 3, 1), (.ifCond .eq 19, 23, 0, 0), (.iload_n 1, 1, 0, 0), (.iconst 2, 0, 0, 2), (.if_icmp .ne 10, 19, 0, 0), (.aload_n 0, 0, 0, 0), (.getfield 25, 6, 4, 1), (.ifCond .eq 7, 23, 0, 0), (.nop, 19, 0, 0)]
def bk_40_19 : List mIns := [(.iconst 1, 0, 0, 1), (.goto 4, 24, 0, 0)]
def bk_40_23 : List mIns := [(.iconst 0, 0, 0, 0), (.nop, 24, 0, 0)]
def bk_40_24 : List mIns := [(.ireturn, 0, 0, 1)]
def bk_41_0 : List mIns := [(.aload_n 0, 0, 0, 0), (.iconst 0, 0, 0, 0), (.putfield 21, 6, 3, 1), (.aload_n 0, 0, 0, 0), (.iconst 0, 0, 0, 0), (.putfield 25, 6, 4, 1), (.aload_n 0, 0, 0, 0), (.iconst 0, 0, 0, 0), (.putfield 28, 6, 5, 0), (.aload_n 0, 0, 0, 0), (.iconst 0, 0, 0, 0), (.putfield 32, 6, 6, 0), (.return_, 0, 0, 0)]
def bk_42_0 : List mIns := [(.aload_n 0, 0, 0, 0), (.invokevirtual 51, 41, 1, 0), (.aload_n 0, 0, 0, 0), (.iconst 1, 0, 0, 1), (.putfield 21, 6, 3, 1), (.aload_n 0, 0, 0, 0), (.iconst 0, 0, 0, 0), (.sipush 5000, 0, 0, 5000), (.iconst (-1), 0, 0, (-1)), (.invokevirtual 54, 45, 4, 0), (.return_, 0, 0, 0)]
def bk_43_0 : List mIns := [(.aload_n 0, 0, 0, 0), (.getfield 28, 6, 5, 0), (.bipush 30, 0, 0, 30), (.if_icmp .ge 26, 32, 0, 0), (.aload_n 0, 0, 0, 0), (.dup, 0, 0, 0), (.getfield 28, 6, 5, 0), (.iconst 1, 0, 0, 1), (.iadd, 0, 0, 0), (.putfield 28, 6, 5, 0), (.aload_n 0, 0, 0, 0), (.aload_n 0, 0, 0, 0), (.getfield 28, 6, 5, 0), (.iload_n 1, 1, 0, 0), (.invokestatic 58, 85, 1, 0), (.iload_n 1, 1, 0, 0), (.invokevirtual 54, 45, 4, 0), (.nop, 32, 0, 0)]
def bk_43_32 : List mIns := [(.return_, 0, 0, 0)]
def bk_44_0 : List mIns := [(.aload_n 0, 0, 0, 0), (.iconst 1, 0, 0, 1), (.putfield 25, 6, 4, 1), (.aload_n 0, 0, 0, 0), (.aload_n 0, 0, 0, 0), (.getfield 28, 6, 5, 0), (.iconst 1, 0, 0, 1), (.iadd, 0, 0, 0), (.sipush 5000, 0, 0, 5000), (.iconst (-1), 0, 0, (-1)), (.invokevirtual 54, 45, 4, 0), (.return_, 0, 0, 0)]
def bk_45_0 : List mIns := [(.iload_n 1, 1, 0, 0), (.ifCond .lt 9, 10, 0, 0), (.iload_n 1, 1, 0, 0), (.bipush 32, 0, 0, 32), (.if_icmp .lt 4, 11, 0, 0), (.nop, 10, 0, 0)]
def bk_45_10 : List mIns := [(.return_, 0, 0, 0)]
def bk_45_11 : List mIns := [(.aload_n 0, 0, 0, 0), (.getfield 9, 6, 0, 2), (.iload_n 1, 1, 0, 0), (.iload_n 2, 2, 0, 0), (.iastore, 0, 0, 0), (.aload_n 0, 0, 0, 0), (.getfield 15, 6, 1, 2), (.iload_n 1, 1, 0, 0), (.iload_n 2, 2, 0, 0), (.iastore, 0, 0, 0), (.aload_n 0, 0, 0, 0), (.getfield 18, 6, 2, 2), (.iload_n 1, 1, 0, 0), (.iload_n 3, 3, 0, 0), (.iastore, 0, 0, 0), (.return_, 0, 0, 0)]
def bk_46_0 : List mIns := [(.aload_n 0, 0, 0, 0), (.getfield 9, 6, 0, 2), (.iload_n 3, 3, 0, 0), (.aload_n 1, 1, 0, 0), (.getfield 9, 6, 0, 2), (.iload_n 2, 2, 0, 0), (.iaload, 0, 0, 0), (.iastore, 0, 0, 0), (.aload_n 0, 0, 0, 0), (.getfield 15, 6, 1, 2), (.iload_n 3, 3, 0, 0), (.aload_n 1, 1, 0, 0), (.getfield 15, 6, 1, 2), (.iload_n 2, 2, 0, 0), (.iaload, 0, 0, 0), (.iastore, 0, 0, 0), (.aload_n 0, 0, 0, 0), (.getfield 18, 6, 2, 2), (.iload_n 3, 3, 0, 0), (.aload_n 1, 1, 0, 0), (.getfield 18, 6, 2, 2), (.iload_n 2, 2, 0, 0), (.iaload, 0, 0, 0), (.iastore, 0, 0, 0), (.return_, 0, 0, 0)]
def bk_47_0 : List mIns := [(.aload_n 0, 0, 0, 0), (.invokevirtual 62, 42, 1, 0), (.aload_n 0, 0, 0, 0), (.aload_n 1, 1, 0, 0), (.iload_n 2, 2, 0, 0), (.invokevirtual 65, 49, 3, 0), (.aload_n 1, 1, 0, 0), (.iload_n 2, 2, 0, 0), (.putfield 28, 6, 5, 0), (.aload_n 1, 1, 0, 0), (.iconst 0, 0, 0, 0), (.putfield 25, 6, 4, 1), (.return_, 0, 0, 0)]
def bk_48_0 : List mIns := [(.aload_n 0, 0, 0, 0), (.aload_n 1, 1, 0, 0), (.iconst 0, 0, 0, 0), (.invokevirtual 65, 49, 3, 0), (.aload_n 1, 1, 0, 0), (.invokevirtual 51, 41, 1, 0), (.return_, 0, 0, 0)]
def bk_49_0 : List mIns := [(.aload_n 1, 1, 0, 0), (.invokevirtual 47, 37, 1, 0), (.istore_n 3, 3, 0, 0), (.aload_n 0, 0, 0, 0), (.getfield 28, 6, 5, 0), (.iconst 1, 0, 0, 1), (.iadd, 0, 0, 0), (.istore 4, 4, 0, 0), (.iload_n 2, 2, 0, 0), (.iconst 1, 0, 0, 1), (.iadd, 0, 0, 0), (.istore 5, 5, 0, 0), (.nop, 18, 0, 0)]
def bk_49_18 : List mIns := [(.iload 5, 5, 0, 0), (.iload_n 3, 3, 0, 0), (.if_icmp .ge 28, 49, 0, 0), (.iload 4, 4, 0, 0), (.bipush 32, 0, 0, 32), (.if_icmp .ge 21, 49, 0, 0), (.aload_n 0, 0, 0, 0), (.aload_n 1, 1, 0, 0), (.iload 5, 5, 0, 0), (.iload 4, 4, 0, 0), (.invokevirtual 69, 46, 4, 0), (.iinc 4 1, 4, 0, 1), (.iinc 5 1, 5, 0, 1), (.goto (-28), 18, 0, 0)]
def bk_49_49 : List mIns := [(.aload_n 0, 0, 0, 0), (.dup, 0, 0, 0), (.getfield 28, 6, 5, 0), (.aload_n 1, 1, 0, 0), (.getfield 28, 6, 5, 0), (.iload_n 2, 2, 0, 0), (.isub, 0, 0, 0), (.iadd, 0, 0, 0), (.putfield 28, 6, 5, 0), (.aload_n 0, 0, 0, 0), (.aload_n 1, 1, 0, 0), (.getfield 25, 6, 4, 1), (.putfield 25, 6, 4, 1), (.return_, 0, 0, 0)]
def bk_50_0 : List mIns := [(.aload_n 0, 0, 0, 0), (.iconst 0, 0, 0, 0), (.sipush 5000, 0, 0, 5000), (.iconst (-1), 0, 0, (-1)), (.invokevirtual 54, 45, 4, 0), (.iconst 0, 0, 0, 0), (.istore_n 2, 2, 0, 0), (.nop, 11, 0, 0)]
def bk_50_11 : List mIns := [(.iload_n 2, 2, 0, 0), (.aload_n 0, 0, 0, 0), (.getfield 28, 6, 5, 0), (.if_icmp .ge 36, 52, 0, 0), (.iload_n 2, 2, 0, 0), (.aload_n 1, 1, 0, 0), (.arraylength, 0, 0, 0), (.if_icmp .ge 30, 52, 0, 0), (.aload_n 0, 0, 0, 0), (.iload_n 2, 2, 0, 0), (.iconst 1, 0, 0, 1), (.iadd, 0, 0, 0), (.aload_n 1, 1, 0, 0), (.iload_n 2, 2, 0, 0), (.iaload, 0, 0, 0), (.invokestatic 58, 85, 1, 0), (.aload_n 0, 0, 0, 0), (.getfield 18, 6, 2, 2), (.iload_n 2, 2, 0, 0), (.iconst 1, 0, 0, 1), (.iadd, 0, 0, 0), (.iaload, 0, 0, 0), (.invokevirtual 54, 45, 4, 0), (.iinc 2 1, 2, 0, 1), (.goto (-38), 11, 0, 0)]
def bk_50_52 : List mIns := [(.aload_n 0, 0, 0, 0), (.getfield 25, 6, 4, 1), (.ifCond .eq 7, 63, 0, 0), (.aload_n 0, 0, 0, 0), (.invokevirtual 73, 44, 1, 0), (.nop, 63, 0, 0)]
def bk_50_63 : List mIns := [(.aload_n 0, 0, 0, 0), (.iconst 0, 0, 0, 0), (.putfield 32, 6, 6, 0), (.return_, 0, 0, 0)]
def bk_51_0 : List mIns := [(.aload_n 0, 0, 0, 0), (.invokevirtual 47, 37, 1, 0), (.istore 4, 4, 0, 0), (.iconst (-1), 0, 0, (-1)), (.istore 5, 5, 0, 0), (.iconst 0, 0, 0, 0), (.istore 6, 6, 0, 0), (.nop, 12, 0, 0)]
def bk_51_12 : List mIns := [(.iload 6, 6, 0, 0), (.iload 4, 4, 0, 0), (.if_icmp .ge 72, 88, 0, 0), (.aload_n 0, 0, 0, 0), (.getfield 9, 6, 0, 2), (.iload 6, 6, 0, 0), (.dup2, 0, 0, 0), (.iaload, 0, 0, 0), (.aload_n 0, 0, 0, 0), (.getfield 9, 6, 0, 2), (.iload 6, 6, 0, 0), (.iaload, 0, 0, 0), (.iload_n 1, 1, 0, 0), (.iload_n 3, 3, 0, 0), (.iload 6, 6, 0, 0), (.iload 4, 4, 0, 0), (.invokestatic 76, 86, 4, 0), (.imul, 0, 0, 0), (.sipush 10000, 0, 0, 10000), (.idiv, 0, 0, 0), (.iadd, 0, 0, 0), (.iastore, 0, 0, 0), (.iload 5, 5, 0, 0), (.iconst (-1), 0, 0, (-1)), (.if_icmp .ne 29, 82, 0, 0), (.aload_n 0, 0, 0, 0), (.getfield 9, 6, 0, 2), (.iload 6, 6, 0, 0), (.iaload, 0, 0, 0), (.bipush 100, 0, 0, 100), (.imul, 0, 0, 0), (.aload_n 0, 0, 0, 0), (.getfield 15, 6, 1, 2), (.iload 6, 6, 0, 0), (.iaload, 0, 0, 0), (.iload_n 2, 2, 0, 0), (.imul, 0, 0, 0), (.if_icmp .le 7, 82, 0, 0), (.iload 6, 6, 0, 0), (.istore 5, 5, 0, 0), (.nop, 82, 0, 0)]
def bk_51_82 : List mIns := [(.iinc 6 1, 6, 0, 1), (.goto (-73), 12, 0, 0)]
def bk_51_88 : List mIns := [(.iload 5, 5, 0, 0), (.ireturn, 0, 0, 0)]
def bk_52_0 : List mIns := [(.iload_n 1, 1, 0, 0), (.ifCond .gt 8, 9, 0, 0), (.aload_n 0, 0, 0, 0), (.invokevirtual 51, 41, 1, 0), (.return_, 0, 0, 0)]
def bk_52_9 : List mIns := [(.aload_n 0, 0, 0, 0), (.aload_n 0, 0, 0, 0), (.getfield 28, 6, 5, 0), (.iload_n 1, 1, 0, 0), (.iconst 1, 0, 0, 1), (.isub, 0, 0, 0), (.invokestatic 41, 0, 0, 1), (.putfield 28, 6, 5, 0), (.aload_n 0, 0, 0, 0), (.iconst 0, 0, 0, 0), (.putfield 25, 6, 4, 1), (.return_, 0, 0, 0)]
def bk_53_0 : List mIns := [(.aload_n 0, 0, 0, 0), (.aload_n 0, 0, 0, 0), (.getfield 9, 6, 0, 2), (.invokevirtual 80, 55, 2, 0), (.ireturn, 0, 0, 0)]
def bk_54_0 : List mIns := [(.aload_n 0, 0, 0, 0), (.aload_n 0, 0, 0, 0), (.getfield 15, 6, 1, 2), (.invokevirtual 80, 55, 2, 0), (.ireturn, 0, 0, 0)]
def bk_55_0 : List mIns := [(.iconst 0, 0, 0, 0), (.istore_n 2, 2, 0, 0), (.aload_n 0, 0, 0, 0), (.invokevirtual 47, 37, 1, 0), (.istore_n 3, 3, 0, 0), (.iconst 0, 0, 0, 0), (.istore 4, 4, 0, 0), (.nop, 10, 0, 0)]
def bk_55_10 : List mIns := [(.iload 4, 4, 0, 0), (.iload_n 3, 3, 0, 0), (.if_icmp .ge 23, 36, 0, 0), (.iload 4, 4, 0, 0), (.aload_n 1, 1, 0, 0), (.arraylength, 0, 0, 0), (.if_icmp .ge 16, 36, 0, 0), (.iload_n 2, 2, 0, 0), (.aload_n 1, 1, 0, 0), (.iload 4, 4, 0, 0), (.iaload, 0, 0, 0), (.iadd, 0, 0, 0), (.istore_n 2, 2, 0, 0), (.iinc 4 1, 4, 0, 1), (.goto (-23), 10, 0, 0)]
def bk_55_36 : List mIns := [(.iload_n 2, 2, 0, 0), (.ireturn, 0, 0, 0)]
def bk_56_0 : List mIns := [(.iconst 0, 0, 0, 0), (.istore_n 1, 1, 0, 0), (.aload_n 0, 0, 0, 0), (.invokevirtual 47, 37, 1, 0), (.istore_n 2, 2, 0, 0), (.iconst 1, 0, 0, 1), (.istore_n 3, 3, 0, 0), (.nop, 9, 0, 0)]
def bk_56_9 : List mIns := [(.iload_n 3, 3, 0, 0), (.iload_n 2, 2, 0, 0), (.if_icmp .ge 24, 35, 0, 0), (.aload_n 0, 0, 0, 0), (.iload_n 3, 3, 0, 0), (.invokevirtual 84, 57, 2, 0), (.aload_n 0, 0, 0, 0), (.iload_n 1, 1, 0, 0), (.invokevirtual 84, 57, 2, 0), (.if_icmp .le 5, 29, 0, 0), (.iload_n 3, 3, 0, 0), (.istore_n 1, 1, 0, 0), (.nop, 29, 0, 0)]
def bk_56_29 : List mIns := [(.iinc 3 1, 3, 0, 1), (.goto (-23), 9, 0, 0)]
def bk_56_35 : List mIns := [(.iload_n 1, 1, 0, 0), (.ireturn, 0, 0, 0)]
def bk_57_0 : List mIns := [(.aload_n 0, 0, 0, 0), (.iload_n 1, 1, 0, 0), (.invokevirtual 87, 38, 2, 0), (.ifCond .eq 12, 17, 0, 0), (.aload_n 0, 0, 0, 0), (.getfield 15, 6, 1, 2), (.iload_n 1, 1, 0, 0), (.iaload, 0, 0, 0), (.ifCond .gt 5, 19, 0, 0), (.nop, 17, 0, 0)]
def bk_57_17 : List mIns := [(.iconst 0, 0, 0, 0), (.ireturn, 0, 0, 0)]
def bk_57_19 : List mIns := [(.aload_n 0, 0, 0, 0), (.getfield 9, 6, 0, 2), (.iload_n 1, 1, 0, 0), (.iaload, 0, 0, 0), (.sipush 1000, 0, 0, 1000), (.imul, 0, 0, 0), (.aload_n 0, 0, 0, 0), (.getfield 15, 6, 1, 2), (.iload_n 1, 1, 0, 0), (.iaload, 0, 0, 0), (.idiv, 0, 0, 0), (.ireturn, 0, 0, 0)]
def bk_58_0 : List mIns := [(.aload_n 0, 0, 0, 0), (.invokespecial 3, 0, 0, 0), (.aload_n 0, 0, 0, 0), (.new 9, 4, 9, 0), (.dup, 0, 0, 0), (.invokespecial 11, 24, 1, 1), (.putfield 12, 7, 0, 5), (.aload_n 0, 0, 0, 0), (.new 16, 1, 2, 0), (.dup, 0, 0, 0), (.invokespecial 18, 8, 1, 1), (.putfield 19, 7, 1, 5), (.aload_n 0, 0, 0, 0), (.new 9, 4, 9, 0), (.dup, 0, 0, 0), (.invokespecial 11, 24, 1, 1), (.putfield 23, 7, 2, 5), (.aload_n 0, 0, 0, 0), (.iconst 0, 0, 0, 0), (.putfield 26, 7, 3, 1), (.aload_n 0, 0, 0, 0), (.new 30, 5, 2, 0), (.dup, 0, 0, 0), (.invokespecial 32, 31, 1, 1), (.putfield 33, 7, 4, 5), (.aload_n 0, 0, 0, 0), (.new 37, 0, 6, 0), (.dup, 0, 0, 0), (.invokespecial 39, 0, 1, 1), (.putfield 40, 7, 5, 5), (.aload_n 0, 0, 0, 0), (.new 44, 3, 4, 0), (.dup, 0, 0, 0), (.invokespecial 46, 17, 1, 1), (.putfield 47, 7, 6, 5), (.aload_n 0, 0, 0, 0), (.new 44, 3, 4, 0), (.dup, 0, 0, 0), (.invokespecial 46, 17, 1, 1), (.putfield 51, 7, 7, 5), (.aload_n 0, 0, 0, 0), (.new 54, 6, 7, 0), (.dup, 0, 0, 0), (.invokespecial 56, 35, 1, 1), (.putfield 57, 7, 8, 5), (.return_, 0, 0, 0)]
def bk_59_0 : List mIns := [(.iload_n 1, 1, 0, 0), (.ifCond .lt 8, 9, 0, 0), (.iload_n 1, 1, 0, 0), (.iconst 2, 0, 0, 2), (.if_icmp .le 6, 12, 0, 0), (.nop, 9, 0, 0)]
def bk_59_9 : List mIns := [(.bipush (-2), 0, 0, (-2)), (.ireturn, 0, 0, 0)]
def bk_59_12 : List mIns := [(.aload_n 0, 0, 0, 0), (.getfield 12, 7, 0, 2), (.getfield 61, 4, 2, 0), (.istore_n 2, 2, 0, 0), (.iload_n 1, 1, 0, 0), (.iload_n 2, 2, 0, 0), (.if_icmp .ne 6, 28, 0, 0), (.bipush (-5), 0, 0, (-5)), (.ireturn, 0, 0, 0)]
def bk_59_28 : List mIns := [(.aload_n 0, 0, 0, 0), (.getfield 19, 7, 1, 2), (.aload_n 0, 0, 0, 0), (.getfield 12, 7, 0, 2), (.invokevirtual 65, 9, 2, 0), (.aload_n 0, 0, 0, 0), (.getfield 12, 7, 0, 2), (.iload_n 1, 1, 0, 0), (.putfield 61, 4, 2, 0), (.iload_n 2, 2, 0, 0), (.ireturn, 0, 0, 0)]
def bk_60_0 : List mIns := [(.iload_n 1, 1, 0, 0), (.bipush 101, 0, 0, 101), (.if_icmp .lt 10, 13, 0, 0), (.iload_n 1, 1, 0, 0), (.sipush 200, 0, 0, 200), (.if_icmp .le 6, 16, 0, 0), (.nop, 13, 0, 0)]
def bk_60_13 : List mIns := [(.bipush (-2), 0, 0, (-2)), (.ireturn, 0, 0, 0)]
def bk_60_16 : List mIns := [(.aload_n 0, 0, 0, 0), (.getfield 12, 7, 0, 2), (.getfield 69, 4, 3, 0), (.istore_n 2, 2, 0, 0), (.iload_n 1, 1, 0, 0), (.iload_n 2, 2, 0, 0), (.if_icmp .ne 6, 32, 0, 0), (.bipush (-5), 0, 0, (-5)), (.ireturn, 0, 0, 0)]
def bk_60_32 : List mIns := [(.aload_n 0, 0, 0, 0), (.getfield 19, 7, 1, 2), (.aload_n 0, 0, 0, 0), (.getfield 12, 7, 0, 2), (.invokevirtual 65, 9, 2, 0), (.aload_n 0, 0, 0, 0), (.getfield 12, 7, 0, 2), (.iload_n 1, 1, 0, 0), (.putfield 69, 4, 3, 0), (.iload_n 2, 2, 0, 0), (.ireturn, 0, 0, 0)]
def bk_61_0 : List mIns := [(.iload_n 1, 1, 0, 0), (.invokestatic 72, 81, 1, 0), (.ifCond .ne 5, 9, 0, 0), (.iconst (-1), 0, 0, (-1)), (.ireturn, 0, 0, 0)]
def bk_61_9 : List mIns := [(.iload_n 2, 2, 0, 0), (.invokestatic 76, 82, 1, 0), (.ifCond .eq 14, 27, 0, 0), (.iload_n 3, 3, 0, 0), (.iconst 1, 0, 0, 1), (.if_icmp .lt 9, 27, 0, 0), (.iload_n 3, 3, 0, 0), (.bipush 30, 0, 0, 30), (.if_icmp .le 6, 30, 0, 0), (.nop, 27, 0, 0)]
def bk_61_27 : List mIns := [(.bipush (-2), 0, 0, (-2)), (.ireturn, 0, 0, 0)]
def bk_61_30 : List mIns := [(.aload_n 0, 0, 0, 0), (.getfield 12, 7, 0, 2), (.getfield 79, 4, 0, 2), (.iload_n 1, 1, 0, 0), (.aaload, 4, 6, 0), (.getfield 83, 6, 3, 1), (.ifCond .ne 6, 48, 0, 0), (.bipush (-4), 0, 0, (-4)), (.ireturn, 0, 0, 0)]
def bk_61_48 : List mIns := [(.aload_n 0, 0, 0, 0), (.getfield 19, 7, 1, 2), (.aload_n 0, 0, 0, 0), (.getfield 12, 7, 0, 2), (.invokevirtual 65, 9, 2, 0), (.aload_n 0, 0, 0, 0), (.getfield 12, 7, 0, 2), (.iload_n 1, 1, 0, 0), (.iload_n 2, 2, 0, 0), (.iload_n 3, 3, 0, 0), (.invokevirtual 86, 29, 4, 0), (.ireturn, 0, 0, 0)]
def bk_62_0 : List mIns := [(.iload_n 1, 1, 0, 0), (.invokestatic 72, 81, 1, 0), (.ifCond .eq 19, 23, 0, 0), (.aload_n 0, 0, 0, 0), (.getfield 12, 7, 0, 2), (.getfield 79, 4, 0, 2), (.iload_n 1, 1, 0, 0), (.aaload, 4, 6, 0), (.iload_n 2, 2, 0, 0), (.invokevirtual 90, 39, 2, 0), (.ifCond .ne 5, 25, 0, 0), (.nop, 23, 0, 0)]
def bk_62_23 : List mIns := [(.iconst (-1), 0, 0, (-1)), (.ireturn, 0, 0, 0)]
def bk_62_25 : List mIns := [(.aload_n 0, 0, 0, 0), (.getfield 12, 7, 0, 2), (.invokevirtual 93, 28, 1, 0), (.istore_n 3, 3, 0, 0), (.iload_n 3, 3, 0, 0), (.invokestatic 72, 81, 1, 0), (.ifCond .ne 6, 43, 0, 0), (.bipush (-3), 0, 0, (-3)), (.ireturn, 0, 0, 0)]
def bk_62_43 : List mIns := [(.aload_n 0, 0, 0, 0), (.getfield 19, 7, 1, 2), (.aload_n 0, 0, 0, 0), (.getfield 12, 7, 0, 2), (.invokevirtual 65, 9, 2, 0), (.aload_n 0, 0, 0, 0), (.getfield 12, 7, 0, 2), (.getfield 79, 4, 0, 2), (.iload_n 3, 3, 0, 0), (.aaload, 4, 6, 0), (.aload_n 0, 0, 0, 0), (.getfield 12, 7, 0, 2), (.getfield 79, 4, 0, 2), (.iload_n 1, 1, 0, 0), (.aaload, 4, 6, 0), (.iload_n 2, 2, 0, 0), (.invokevirtual 97, 47, 3, 0), (.aload_n 0, 0, 0, 0), (.getfield 12, 7, 0, 2), (.dup, 0, 0, 0), (.getfield 101, 4, 5, 0), (.sipush 5000, 0, 0, 5000), (.iadd, 0, 0, 0), (.putfield 101, 4, 5, 0), (.aload_n 0, 0, 0, 0), (.getfield 12, 7, 0, 2), (.getfield 104, 4, 1, 2), (.iconst 3, 0, 0, 3), (.iload_n 1, 1, 0, 0), (.iload_n 3, 3, 0, 0), (.invokevirtual 108, 14, 4, 0), (.iload_n 3, 3, 0, 0), (.ireturn, 0, 0, 0)]
def bk_63_0 : List mIns := [(.iload_n 1, 1, 0, 0), (.invokestatic 72, 81, 1, 0), (.ifCond .eq 10, 14, 0, 0), (.iload_n 2, 2, 0, 0), (.invokestatic 72, 81, 1, 0), (.ifCond .ne 5, 16, 0, 0), (.nop, 14, 0, 0)]
def bk_63_14 : List mIns := [(.iconst (-1), 0, 0, (-1)), (.ireturn, 0, 0, 0)]
def bk_63_16 : List mIns := [(.iload_n 1, 1, 0, 0), (.iload_n 2, 2, 0, 0), (.if_icmp .ne 6, 24, 0, 0), (.bipush (-2), 0, 0, (-2)), (.ireturn, 0, 0, 0)]
def bk_63_24 : List mIns := [(.aload_n 0, 0, 0, 0), (.getfield 12, 7, 0, 2), (.getfield 79, 4, 0, 2), (.iload_n 1, 1, 0, 0), (.aaload, 4, 6, 0), (.astore_n 3, 3, 0, 0), (.aload_n 0, 0, 0, 0), (.getfield 12, 7, 0, 2), (.getfield 79, 4, 0, 2), (.iload_n 2, 2, 0, 0), (.aaload, 4, 6, 0), (.astore 4, 4, 0, 0), (.aload_n 3, 3, 0, 0), (.getfield 83, 6, 3, 1), (.ifCond .eq 11, 60, 0, 0), (.aload 4, 4, 0, 0), (.getfield 83, 6, 3, 1), (.ifCond .ne 6, 63, 0, 0), (.nop, 60, 0, 0)]
def bk_63_60 : List mIns := [(.bipush (-4), 0, 0, (-4)), (.ireturn, 0, 0, 0)]
def bk_63_63 : List mIns := [(.aload_n 3, 3, 0, 0), (.getfield 114, 6, 5, 0), (.aload 4, 4, 0, 0), (.getfield 114, 6, 5, 0), (.iadd, 0, 0, 0), (.bipush 30, 0, 0, 30), (.if_icmp .le 6, 81, 0, 0), (.bipush (-3), 0, 0, (-3)), (.ireturn, 0, 0, 0)]
def bk_63_81 : List mIns := [(.aload_n 0, 0, 0, 0), (.getfield 19, 7, 1, 2), (.aload_n 0, 0, 0, 0), (.getfield 12, 7, 0, 2), (.invokevirtual 65, 9, 2, 0), (.aload_n 3, 3, 0, 0), (.aload 4, 4, 0, 0), (.invokevirtual 117, 48, 2, 0), (.aload_n 0, 0, 0, 0), (.getfield 12, 7, 0, 2), (.getfield 104, 4, 1, 2), (.iconst 4, 0, 0, 4), (.iload_n 1, 1, 0, 0), (.aload_n 3, 3, 0, 0), (.getfield 114, 6, 5, 0), (.invokevirtual 108, 14, 4, 0), (.aload_n 3, 3, 0, 0), (.getfield 114, 6, 5, 0), (.ireturn, 0, 0, 0)]
def bk_64_0 : List mIns := [(.iload_n 1, 1, 0, 0), (.invokestatic 72, 81, 1, 0), (.ifCond .ne 5, 9, 0, 0), (.iconst (-1), 0, 0, (-1)), (.ireturn, 0, 0, 0)]
def bk_64_9 : List mIns := [(.aload_n 0, 0, 0, 0), (.getfield 12, 7, 0, 2), (.getfield 79, 4, 0, 2), (.iload_n 1, 1, 0, 0), (.aaload, 4, 6, 0), (.astore_n 2, 2, 0, 0), (.aload_n 2, 2, 0, 0), (.getfield 83, 6, 3, 1), (.ifCond .ne 6, 29, 0, 0), (.bipush (-4), 0, 0, (-4)), (.ireturn, 0, 0, 0)]
def bk_64_29 : List mIns := [(.aload_n 2, 2, 0, 0), (.getfield 121, 6, 4, 1), (.ifCond .eq 6, 39, 0, 0), (.bipush (-5), 0, 0, (-5)), (.ireturn, 0, 0, 0)]
def bk_64_39 : List mIns := [(.aload_n 0, 0, 0, 0), (.getfield 19, 7, 1, 2), (.aload_n 0, 0, 0, 0), (.getfield 12, 7, 0, 2), (.invokevirtual 65, 9, 2, 0), (.aload_n 2, 2, 0, 0), (.invokevirtual 124, 44, 1, 0), (.aload_n 0, 0, 0, 0), (.getfield 12, 7, 0, 2), (.dup, 0, 0, 0), (.getfield 101, 4, 5, 0), (.sipush 5000, 0, 0, 5000), (.iadd, 0, 0, 0), (.putfield 101, 4, 5, 0), (.aload_n 0, 0, 0, 0), (.getfield 12, 7, 0, 2), (.getfield 104, 4, 1, 2), (.iconst 5, 0, 0, 5), (.iload_n 1, 1, 0, 0), (.aload_n 2, 2, 0, 0), (.getfield 114, 6, 5, 0), (.invokevirtual 108, 14, 4, 0), (.aload_n 2, 2, 0, 0), (.getfield 114, 6, 5, 0), (.ireturn, 0, 0, 0)]
def bk_65_0 : List mIns := [(.iload_n 1, 1, 0, 0), (.invokestatic 72, 81, 1, 0), (.ifCond .ne 5, 9, 0, 0), (.iconst (-1), 0, 0, (-1)), (.ireturn, 0, 0, 0)]
def bk_65_9 : List mIns := [(.iload_n 2, 2, 0, 0), (.invokestatic 127, 83, 1, 0), (.ifCond .ne 6, 19, 0, 0), (.bipush (-2), 0, 0, (-2)), (.ireturn, 0, 0, 0)]
def bk_65_19 : List mIns := [(.aload_n 0, 0, 0, 0), (.getfield 12, 7, 0, 2), (.getfield 79, 4, 0, 2), (.iload_n 1, 1, 0, 0), (.aaload, 4, 6, 0), (.astore_n 3, 3, 0, 0), (.aload_n 3, 3, 0, 0), (.iload_n 2, 2, 0, 0), (.invokevirtual 130, 40, 2, 0), (.ifCond .ne 6, 40, 0, 0), (.bipush (-4), 0, 0, (-4)), (.ireturn, 0, 0, 0)]
def bk_65_40 : List mIns := [(.aload_n 0, 0, 0, 0), (.getfield 47, 7, 6, 2), (.aload_n 3, 3, 0, 0), (.iload_n 2, 2, 0, 0), (.invokevirtual 133, 18, 3, 0), (.aload_n 0, 0, 0, 0), (.getfield 47, 7, 6, 2), (.getfield 136, 3, 2, 0), (.ifCond .le 6, 62, 0, 0), (.bipush (-4), 0, 0, (-4)), (.ireturn, 0, 0, 0)]
def bk_65_62 : List mIns := [(.aload_n 0, 0, 0, 0), (.getfield 19, 7, 1, 2), (.aload_n 0, 0, 0, 0), (.getfield 12, 7, 0, 2), (.invokevirtual 65, 9, 2, 0), (.aload_n 3, 3, 0, 0), (.aload_n 0, 0, 0, 0), (.getfield 47, 7, 6, 2), (.getfield 139, 3, 0, 2), (.invokevirtual 143, 50, 2, 0), (.aload_n 0, 0, 0, 0), (.getfield 12, 7, 0, 2), (.dup, 0, 0, 0), (.getfield 101, 4, 5, 0), (.aload_n 3, 3, 0, 0), (.invokevirtual 147, 54, 1, 0), (.iadd, 0, 0, 0), (.putfield 101, 4, 5, 0), (.aload_n 0, 0, 0, 0), (.getfield 12, 7, 0, 2), (.getfield 104, 4, 1, 2), (.bipush 6, 0, 0, 6), (.iload_n 1, 1, 0, 0), (.iload_n 2, 2, 0, 0), (.invokevirtual 108, 14, 4, 0), (.aload_n 0, 0, 0, 0), (.getfield 47, 7, 6, 2), (.getfield 150, 3, 1, 0), (.ireturn, 0, 0, 0)]
def bk_66_0 : List mIns := [(.aload_n 0, 0, 0, 0), (.getfield 33, 7, 4, 2), (.iload_n 1, 1, 0, 0), (.invokevirtual 153, 32, 2, 0), (.ifCond .ne 6, 14, 0, 0), (.bipush (-3), 0, 0, (-3)), (.ireturn, 0, 0, 0)]
def bk_66_14 : List mIns := [(.aload_n 0, 0, 0, 0), (.getfield 33, 7, 4, 2), (.getfield 156, 5, 1, 0), (.ireturn, 0, 0, 0)]
def bk_67_0 : List mIns := [(.aload_n 0, 0, 0, 0), (.getfield 33, 7, 4, 2), (.getfield 156, 5, 1, 0), (.istore_n 1, 1, 0, 0), (.aload_n 0, 0, 0, 0), (.getfield 33, 7, 4, 2), (.iconst 0, 0, 0, 0), (.putfield 156, 5, 1, 0), (.iload_n 1, 1, 0, 0), (.ireturn, 0, 0, 0)]
def bk_68_0 : List mIns := [(.aload_n 0, 0, 0, 0), (.getfield 40, 7, 5, 2), (.aload_n 0, 0, 0, 0), (.getfield 33, 7, 4, 2), (.invokevirtual 159, 1, 2, 0), (.aload_n 0, 0, 0, 0), (.getfield 40, 7, 5, 2), (.getfield 163, 0, 4, 0), (.iconst (-1), 0, 0, (-1)), (.if_icmp .eq 14, 33, 0, 0), (.bipush (-100), 0, 0, (-100)), (.aload_n 0, 0, 0, 0), (.getfield 40, 7, 5, 2), (.getfield 163, 0, 4, 0), (.isub, 0, 0, 0), (.ireturn, 0, 0, 0)]
def bk_68_33 : List mIns := [(.aload_n 0, 0, 0, 0), (.getfield 40, 7, 5, 2), (.getfield 166, 0, 0, 0), (.tableswitch 132 1 5 #[36, 62, 82, 101, 120], 40, 36, 0)]
def bk_68_76 : List mIns := [(.aload_n 0, 0, 0, 0), (.aload_n 0, 0, 0, 0), (.getfield 40, 7, 5, 2), (.getfield 169, 0, 1, 0), (.aload_n 0, 0, 0, 0), (.getfield 40, 7, 5, 2), (.getfield 172, 0, 3, 0), (.aload_n 0, 0, 0, 0), (.getfield 33, 7, 4, 2), (.getfield 156, 5, 1, 0), (.invokevirtual 175, 69, 4, 0), (.ireturn, 0, 0, 0)]
def bk_68_102 : List mIns := [(.aload_n 0, 0, 0, 0), (.aload_n 0, 0, 0, 0), (.getfield 40, 7, 5, 2), (.getfield 169, 0, 1, 0), (.aload_n 0, 0, 0, 0), (.getfield 40, 7, 5, 2), (.getfield 178, 0, 2, 0), (.iconst 1, 0, 0, 1), (.invokevirtual 181, 61, 4, 0), (.ireturn, 0, 0, 0)]
def bk_68_122 : List mIns := [(.aload_n 0, 0, 0, 0), (.aload_n 0, 0, 0, 0), (.getfield 40, 7, 5, 2), (.getfield 169, 0, 1, 0), (.aload_n 0, 0, 0, 0), (.getfield 40, 7, 5, 2), (.getfield 178, 0, 2, 0), (.invokevirtual 184, 62, 3, 0), (.ireturn, 0, 0, 0)]
def bk_68_141 : List mIns := [(.aload_n 0, 0, 0, 0), (.aload_n 0, 0, 0, 0), (.getfield 40, 7, 5, 2), (.getfield 169, 0, 1, 0), (.aload_n 0, 0, 0, 0), (.getfield 40, 7, 5, 2), (.getfield 178, 0, 2, 0), (.invokevirtual 188, 63, 3, 0), (.ireturn, 0, 0, 0)]
def bk_68_160 : List mIns := [(.aload_n 0, 0, 0, 0), (.aload_n 0, 0, 0, 0), (.getfield 40, 7, 5, 2), (.getfield 169, 0, 1, 0), (.invokevirtual 191, 64, 2, 0), (.ireturn, 0, 0, 0)]
def bk_68_172 : List mIns := [(.aload_n 0, 0, 0, 0), (.aload_n 0, 0, 0, 0), (.getfield 40, 7, 5, 2), (.getfield 169, 0, 1, 0), (.aload_n 0, 0, 0, 0), (.getfield 40, 7, 5, 2), (.getfield 178, 0, 2, 0), (.invokevirtual 195, 65, 3, 0), (.ireturn, 0, 0, 0)]
def bk_69_0 : List mIns := [(.iload_n 1, 1, 0, 0), (.invokestatic 72, 81, 1, 0), (.ifCond .ne 5, 9, 0, 0), (.iconst (-1), 0, 0, (-1)), (.ireturn, 0, 0, 0)]
def bk_69_9 : List mIns := [(.aload_n 0, 0, 0, 0), (.getfield 12, 7, 0, 2), (.getfield 79, 4, 0, 2), (.iload_n 1, 1, 0, 0), (.aaload, 4, 6, 0), (.astore 4, 4, 0, 0), (.aload 4, 4, 0, 0), (.getfield 83, 6, 3, 1), (.ifCond .eq 6, 31, 0, 0), (.bipush (-4), 0, 0, (-4)), (.ireturn, 0, 0, 0)]
def bk_69_31 : List mIns := [(.iload_n 3, 3, 0, 0), (.iload_n 2, 2, 0, 0), (.isub, 0, 0, 0), (.bipush 30, 0, 0, 30), (.if_icmp .le 6, 42, 0, 0), (.bipush (-3), 0, 0, (-3)), (.ireturn, 0, 0, 0)]
def bk_69_42 : List mIns := [(.aload_n 0, 0, 0, 0), (.getfield 19, 7, 1, 2), (.aload_n 0, 0, 0, 0), (.getfield 12, 7, 0, 2), (.invokevirtual 65, 9, 2, 0), (.aload 4, 4, 0, 0), (.invokevirtual 198, 42, 1, 0), (.iload_n 2, 2, 0, 0), (.istore 5, 5, 0, 0), (.nop, 61, 0, 0)]
def bk_69_61 : List mIns := [(.iload 5, 5, 0, 0), (.iload_n 3, 3, 0, 0), (.if_icmp .ge 26, 90, 0, 0), (.aload 4, 4, 0, 0), (.aload_n 0, 0, 0, 0), (.getfield 33, 7, 4, 2), (.iload 5, 5, 0, 0), (.invokevirtual 201, 33, 2, 0), (.bipush 97, 0, 0, 97), (.isub, 0, 0, 0), (.invokevirtual 204, 43, 2, 0), (.iinc 5 1, 5, 0, 1), (.goto (-26), 61, 0, 0)]
def bk_69_90 : List mIns := [(.aload 4, 4, 0, 0), (.invokevirtual 124, 44, 1, 0), (.aload_n 0, 0, 0, 0), (.getfield 12, 7, 0, 2), (.dup, 0, 0, 0), (.getfield 101, 4, 5, 0), (.aload 4, 4, 0, 0), (.invokevirtual 147, 54, 1, 0), (.iadd, 0, 0, 0), (.putfield 101, 4, 5, 0), (.aload_n 0, 0, 0, 0), (.getfield 12, 7, 0, 2), (.getfield 104, 4, 1, 2), (.iconst 0, 0, 0, 0), (.iload_n 1, 1, 0, 0), (.aload 4, 4, 0, 0), (.getfield 114, 6, 5, 0), (.invokevirtual 108, 14, 4, 0), (.aload 4, 4, 0, 0), (.getfield 114, 6, 5, 0), (.ireturn, 0, 0, 0)]
def bk_70_0 : List mIns := [(.aload_n 0, 0, 0, 0), (.getfield 19, 7, 1, 2), (.aload_n 0, 0, 0, 0), (.getfield 12, 7, 0, 2), (.invokevirtual 208, 11, 2, 0), (.ifCond .ne 6, 17, 0, 0), (.bipush (-5), 0, 0, (-5)), (.ireturn, 0, 0, 0)]
def bk_70_17 : List mIns := [(.aload_n 0, 0, 0, 0), (.getfield 19, 7, 1, 2), (.getfield 212, 1, 1, 0), (.ireturn, 0, 0, 0)]
def bk_71_0 : List mIns := [(.aload_n 0, 0, 0, 0), (.getfield 26, 7, 3, 1), (.ifCond .ne 6, 10, 0, 0), (.bipush (-5), 0, 0, (-5)), (.ireturn, 0, 0, 0)]
def bk_71_10 : List mIns := [(.aload_n 0, 0, 0, 0), (.getfield 19, 7, 1, 2), (.aload_n 0, 0, 0, 0), (.getfield 12, 7, 0, 2), (.invokevirtual 65, 9, 2, 0), (.aload_n 0, 0, 0, 0), (.getfield 12, 7, 0, 2), (.aload_n 0, 0, 0, 0), (.getfield 23, 7, 2, 2), (.invokevirtual 213, 25, 2, 0), (.aload_n 0, 0, 0, 0), (.getfield 12, 7, 0, 2), (.invokevirtual 216, 26, 1, 0), (.ireturn, 0, 0, 0)]
def bk_72_0 : List mIns := [(.iload_n 1, 1, 0, 0), (.invokestatic 72, 81, 1, 0), (.ifCond .ne 5, 9, 0, 0), (.iconst (-1), 0, 0, (-1)), (.ireturn, 0, 0, 0)]
def bk_72_9 : List mIns := [(.iload_n 2, 2, 0, 0), (.ifCond .lt 9, 19, 0, 0), (.iload_n 2, 2, 0, 0), (.bipush 6, 0, 0, 6), (.if_icmp .le 6, 22, 0, 0), (.nop, 19, 0, 0)]
def bk_72_19 : List mIns := [(.bipush (-2), 0, 0, (-2)), (.ireturn, 0, 0, 0)]
def bk_72_22 : List mIns := [(.aload_n 0, 0, 0, 0), (.getfield 12, 7, 0, 2), (.getfield 79, 4, 0, 2), (.iload_n 1, 1, 0, 0), (.aaload, 4, 6, 0), (.astore_n 3, 3, 0, 0), (.aload_n 3, 3, 0, 0), (.getfield 83, 6, 3, 1), (.ifCond .ne 6, 42, 0, 0), (.bipush (-4), 0, 0, (-4)), (.ireturn, 0, 0, 0)]
def bk_72_42 : List mIns := [(.iload_n 2, 2, 0, 0), (.tableswitch 75 0 5 #[37, 42, 55, 60, 65, 70], 43, 37, 0)]
def bk_72_80 : List mIns := [(.aload_n 3, 3, 0, 0), (.getfield 114, 6, 5, 0), (.ireturn, 0, 0, 0)]
def bk_72_85 : List mIns := [(.aload_n 3, 3, 0, 0), (.getfield 121, 6, 4, 1), (.ifCond .eq 7, 96, 0, 0), (.iconst 1, 0, 0, 1), (.goto 4, 97, 0, 0)]
def bk_72_96 : List mIns := [(.iconst 0, 0, 0, 0), (.nop, 97, 0, 0)]
def bk_72_97 : List mIns := [(.ireturn, 0, 0, 0)]
def bk_72_98 : List mIns := [(.aload_n 3, 3, 0, 0), (.invokevirtual 219, 53, 1, 0), (.ireturn, 0, 0, 0)]
def bk_72_103 : List mIns := [(.aload_n 3, 3, 0, 0), (.invokevirtual 147, 54, 1, 0), (.ireturn, 0, 0, 0)]
def bk_72_108 : List mIns := [(.aload_n 3, 3, 0, 0), (.getfield 222, 6, 6, 0), (.ireturn, 0, 0, 0)]
def bk_72_113 : List mIns := [(.aload_n 3, 3, 0, 0), (.invokevirtual 225, 56, 1, 0), (.ireturn, 0, 0, 0)]
def bk_72_118 : List mIns := [(.aload_n 3, 3, 0, 0), (.aload_n 3, 3, 0, 0), (.invokevirtual 225, 56, 1, 0), (.invokevirtual 228, 57, 2, 0), (.ireturn, 0, 0, 0)]
def bk_73_0 : List mIns := [(.iload_n 1, 1, 0, 0), (.invokestatic 72, 81, 1, 0), (.ifCond .eq 19, 23, 0, 0), (.aload_n 0, 0, 0, 0), (.getfield 12, 7, 0, 2), (.getfield 79, 4, 0, 2), (.iload_n 1, 1, 0, 0), (.aaload, 4, 6, 0), (.iload_n 2, 2, 0, 0), (.invokevirtual 231, 38, 2, 0), (.ifCond .ne 5, 25, 0, 0), (.nop, 23, 0, 0)]
def bk_73_23 : List mIns := [(.iconst (-1), 0, 0, (-1)), (.ireturn, 0, 0, 0)]
def bk_73_25 : List mIns := [(.aload_n 0, 0, 0, 0), (.getfield 12, 7, 0, 2), (.getfield 79, 4, 0, 2), (.iload_n 1, 1, 0, 0), (.aaload, 4, 6, 0), (.astore 4, 4, 0, 0), (.iload_n 3, 3, 0, 0), (.tableswitch 93 0 3 #[31, 39, 47, 74], 37, 31, 0)]
def bk_73_68 : List mIns := [(.aload 4, 4, 0, 0), (.getfield 234, 6, 0, 2), (.iload_n 2, 2, 0, 0), (.iaload, 0, 0, 0), (.ireturn, 0, 0, 0)]
def bk_73_76 : List mIns := [(.aload 4, 4, 0, 0), (.getfield 237, 6, 1, 2), (.iload_n 2, 2, 0, 0), (.iaload, 0, 0, 0), (.ireturn, 0, 0, 0)]
def bk_73_84 : List mIns := [(.aload 4, 4, 0, 0), (.getfield 240, 6, 2, 2), (.iload_n 2, 2, 0, 0), (.iaload, 0, 0, 0), (.iconst (-1), 0, 0, (-1)), (.if_icmp .ne 8, 100, 0, 0), (.bipush (-5), 0, 0, (-5)), (.goto 13, 110, 0, 0)]
def bk_73_100 : List mIns := [(.bipush 97, 0, 0, 97), (.aload 4, 4, 0, 0), (.getfield 240, 6, 2, 2), (.iload_n 2, 2, 0, 0), (.iaload, 0, 0, 0), (.iadd, 0, 0, 0), (.nop, 110, 0, 0)]
def bk_73_110 : List mIns := [(.ireturn, 0, 0, 0)]
def bk_73_111 : List mIns := [(.aload_n 0, 0, 0, 0), (.getfield 12, 7, 0, 2), (.getfield 61, 4, 2, 0), (.bipush 9, 0, 0, 9), (.iload_n 2, 2, 0, 0), (.aload 4, 4, 0, 0), (.invokevirtual 243, 37, 1, 0), (.invokestatic 246, 86, 4, 0), (.ireturn, 0, 0, 0)]
def bk_73_130 : List mIns := [(.bipush (-2), 0, 0, (-2)), (.ireturn, 0, 0, 0)]
def bk_74_0 : List mIns := [(.iload_n 1, 1, 0, 0), (.invokestatic 72, 81, 1, 0), (.ifCond .eq 19, 23, 0, 0), (.aload_n 0, 0, 0, 0), (.getfield 12, 7, 0, 2), (.getfield 79, 4, 0, 2), (.iload_n 1, 1, 0, 0), (.aaload, 4, 6, 0), (.iload_n 3, 3, 0, 0), (.invokevirtual 90, 39, 2, 0), (.ifCond .ne 5, 25, 0, 0), (.nop, 23, 0, 0)]
def bk_74_23 : List mIns := [(.iconst (-1), 0, 0, (-1)), (.ireturn, 0, 0, 0)]
def bk_74_25 : List mIns := [(.iload_n 2, 2, 0, 0), (.invokestatic 127, 83, 1, 0), (.ifCond .ne 6, 35, 0, 0), (.bipush (-2), 0, 0, (-2)), (.ireturn, 0, 0, 0)]
def bk_74_35 : List mIns := [(.aload_n 0, 0, 0, 0), (.getfield 12, 7, 0, 2), (.getfield 79, 4, 0, 2), (.iload_n 1, 1, 0, 0), (.aaload, 4, 6, 0), (.astore 4, 4, 0, 0), (.aload 4, 4, 0, 0), (.iload_n 2, 2, 0, 0), (.invokevirtual 130, 40, 2, 0), (.ifCond .ne 6, 58, 0, 0), (.bipush (-4), 0, 0, (-4)), (.ireturn, 0, 0, 0)]
def bk_74_58 : List mIns := [(.aload_n 0, 0, 0, 0), (.getfield 47, 7, 6, 2), (.aload 4, 4, 0, 0), (.iload_n 2, 2, 0, 0), (.invokevirtual 133, 18, 3, 0), (.aload_n 0, 0, 0, 0), (.getfield 47, 7, 6, 2), (.getfield 139, 3, 0, 2), (.iload_n 3, 3, 0, 0), (.iaload, 0, 0, 0), (.istore 5, 5, 0, 0), (.iload 5, 5, 0, 0), (.iconst (-1), 0, 0, (-1)), (.if_icmp .ne 8, 90, 0, 0), (.bipush 63, 0, 0, 63), (.goto 8, 95, 0, 0)]
def bk_74_90 : List mIns := [(.bipush 97, 0, 0, 97), (.iload 5, 5, 0, 0), (.iadd, 0, 0, 0), (.nop, 95, 0, 0)]
def bk_74_95 : List mIns := [(.ireturn, 0, 0, 0)]
def bk_75_0 : List mIns := [(.iload_n 1, 1, 0, 0), (.invokestatic 72, 81, 1, 0), (.ifCond .ne 5, 9, 0, 0), (.iconst (-1), 0, 0, (-1)), (.ireturn, 0, 0, 0)]
def bk_75_9 : List mIns := [(.iload_n 2, 2, 0, 0), (.invokestatic 127, 83, 1, 0), (.ifCond .eq 12, 25, 0, 0), (.iload_n 3, 3, 0, 0), (.ifCond .lt 8, 25, 0, 0), (.iload_n 3, 3, 0, 0), (.iconst 2, 0, 0, 2), (.if_icmp .le 6, 28, 0, 0), (.nop, 25, 0, 0)]
def bk_75_25 : List mIns := [(.bipush (-2), 0, 0, (-2)), (.ireturn, 0, 0, 0)]
def bk_75_28 : List mIns := [(.aload_n 0, 0, 0, 0), (.getfield 12, 7, 0, 2), (.getfield 79, 4, 0, 2), (.iload_n 1, 1, 0, 0), (.aaload, 4, 6, 0), (.astore 4, 4, 0, 0), (.aload 4, 4, 0, 0), (.iload_n 2, 2, 0, 0), (.invokevirtual 130, 40, 2, 0), (.ifCond .ne 6, 51, 0, 0), (.bipush (-4), 0, 0, (-4)), (.ireturn, 0, 0, 0)]
def bk_75_51 : List mIns := [(.aload_n 0, 0, 0, 0), (.getfield 47, 7, 6, 2), (.aload 4, 4, 0, 0), (.iload_n 2, 2, 0, 0), (.invokevirtual 133, 18, 3, 0), (.iload_n 3, 3, 0, 0), (.ifCond .ne 11, 73, 0, 0), (.aload_n 0, 0, 0, 0), (.getfield 47, 7, 6, 2), (.getfield 150, 3, 1, 0), (.ireturn, 0, 0, 0)]
def bk_75_73 : List mIns := [(.iload_n 3, 3, 0, 0), (.iconst 1, 0, 0, 1), (.if_icmp .ne 11, 86, 0, 0), (.aload_n 0, 0, 0, 0), (.getfield 47, 7, 6, 2), (.getfield 136, 3, 2, 0), (.ireturn, 0, 0, 0)]
def bk_75_86 : List mIns := [(.aload_n 0, 0, 0, 0), (.getfield 47, 7, 6, 2), (.getfield 250, 3, 3, 0), (.iconst (-1), 0, 0, (-1)), (.if_icmp .ne 8, 102, 0, 0), (.bipush (-5), 0, 0, (-5)), (.goto 10, 109, 0, 0)]
def bk_75_102 : List mIns := [(.aload_n 0, 0, 0, 0), (.getfield 47, 7, 6, 2), (.getfield 250, 3, 3, 0), (.nop, 109, 0, 0)]
def bk_75_109 : List mIns := [(.ireturn, 0, 0, 0)]
def bk_76_0 : List mIns := [(.iload_n 1, 1, 0, 0), (.invokestatic 72, 81, 1, 0), (.ifCond .ne 5, 9, 0, 0), (.iconst (-1), 0, 0, (-1)), (.ireturn, 0, 0, 0)]
def bk_76_9 : List mIns := [(.aload_n 0, 0, 0, 0), (.getfield 12, 7, 0, 2), (.getfield 79, 4, 0, 2), (.iload_n 1, 1, 0, 0), (.aaload, 4, 6, 0), (.astore_n 2, 2, 0, 0), (.aload_n 2, 2, 0, 0), (.getfield 83, 6, 3, 1), (.ifCond .ne 6, 29, 0, 0), (.bipush (-4), 0, 0, (-4)), (.ireturn, 0, 0, 0)]
def bk_76_29 : List mIns := [(.iconst 0, 0, 0, 0), (.istore_n 3, 3, 0, 0), (.bipush 31, 0, 0, 31), (.istore 4, 4, 0, 0), (.iconst 0, 0, 0, 0), (.istore 5, 5, 0, 0), (.nop, 38, 0, 0)]
def bk_76_38 : List mIns := [(.iload 5, 5, 0, 0), (.iconst 2, 0, 0, 2), (.if_icmp .gt 52, 93, 0, 0), (.aload_n 2, 2, 0, 0), (.iload 5, 5, 0, 0), (.invokevirtual 130, 40, 2, 0), (.ifCond .eq 37, 87, 0, 0), (.aload_n 0, 0, 0, 0), (.getfield 47, 7, 6, 2), (.aload_n 2, 2, 0, 0), (.iload 5, 5, 0, 0), (.invokevirtual 133, 18, 3, 0), (.aload_n 0, 0, 0, 0), (.getfield 47, 7, 6, 2), (.invokevirtual 253, 22, 1, 0), (.iload 4, 4, 0, 0), (.if_icmp .ge 15, 87, 0, 0), (.aload_n 0, 0, 0, 0), (.getfield 47, 7, 6, 2), (.invokevirtual 253, 22, 1, 0), (.istore 4, 4, 0, 0), (.iload 5, 5, 0, 0), (.istore_n 3, 3, 0, 0), (.nop, 87, 0, 0)]
def bk_76_87 : List mIns := [(.iinc 5 1, 5, 0, 1), (.goto (-52), 38, 0, 0)]
def bk_76_93 : List mIns := [(.iload_n 3, 3, 0, 0), (.ireturn, 0, 0, 0)]
def bk_77_0 : List mIns := [(.iload_n 1, 1, 0, 0), (.invokestatic 72, 81, 1, 0), (.ifCond .ne 5, 9, 0, 0), (.iconst (-1), 0, 0, (-1)), (.ireturn, 0, 0, 0)]
def bk_77_9 : List mIns := [(.iload_n 2, 2, 0, 0), (.invokestatic 256, 84, 1, 0), (.ifCond .eq 22, 35, 0, 0), (.iload_n 3, 3, 0, 0), (.invokestatic 76, 82, 1, 0), (.ifCond .eq 15, 35, 0, 0), (.iload 4, 4, 0, 0), (.ifCond .lt 10, 35, 0, 0), (.iload 4, 4, 0, 0), (.bipush 30, 0, 0, 30), (.if_icmp .le 6, 38, 0, 0), (.nop, 35, 0, 0)]
def bk_77_35 : List mIns := [(.bipush (-2), 0, 0, (-2)), (.ireturn, 0, 0, 0)]
def bk_77_38 : List mIns := [(.aload_n 0, 0, 0, 0), (.getfield 12, 7, 0, 2), (.getfield 79, 4, 0, 2), (.iload_n 1, 1, 0, 0), (.aaload, 4, 6, 0), (.astore 5, 5, 0, 0), (.aload 5, 5, 0, 0), (.getfield 83, 6, 3, 1), (.ifCond .ne 6, 60, 0, 0), (.bipush (-4), 0, 0, (-4)), (.ireturn, 0, 0, 0)]
def bk_77_60 : List mIns := [(.aload_n 0, 0, 0, 0), (.getfield 57, 7, 8, 2), (.aload 5, 5, 0, 0), (.invokevirtual 259, 36, 2, 0), (.iconst 1, 0, 0, 1), (.istore 6, 6, 0, 0), (.iconst 0, 0, 0, 0), (.istore 7, 7, 0, 0), (.nop, 75, 0, 0)]
def bk_77_75 : List mIns := [(.iload 7, 7, 0, 0), (.iload 4, 4, 0, 0), (.if_icmp .ge 56, 135, 0, 0), (.iload 6, 6, 0, 0), (.ifCond .eq 51, 135, 0, 0), (.aload_n 0, 0, 0, 0), (.getfield 57, 7, 8, 2), (.aload_n 0, 0, 0, 0), (.getfield 12, 7, 0, 2), (.getfield 61, 4, 2, 0), (.aload_n 0, 0, 0, 0), (.getfield 12, 7, 0, 2), (.getfield 69, 4, 3, 0), (.iload_n 3, 3, 0, 0), (.invokevirtual 261, 51, 4, 0), (.istore 8, 8, 0, 0), (.iload 8, 8, 0, 0), (.iconst (-1), 0, 0, (-1)), (.if_icmp .eq 15, 129, 0, 0), (.aload_n 0, 0, 0, 0), (.getfield 57, 7, 8, 2), (.iload 8, 8, 0, 0), (.invokevirtual 264, 52, 2, 0), (.iconst 0, 0, 0, 0), (.istore 6, 6, 0, 0), (.nop, 129, 0, 0)]
def bk_77_129 : List mIns := [(.iinc 7 1, 7, 0, 1), (.goto (-57), 75, 0, 0)]
def bk_77_135 : List mIns := [(.aload_n 0, 0, 0, 0), (.getfield 51, 7, 7, 2), (.aload_n 0, 0, 0, 0), (.getfield 57, 7, 8, 2), (.iload_n 2, 2, 0, 0), (.invokevirtual 133, 18, 3, 0), (.aload_n 0, 0, 0, 0), (.getfield 51, 7, 7, 2), (.invokevirtual 253, 22, 1, 0), (.aload 5, 5, 0, 0), (.getfield 114, 6, 5, 0), (.iadd, 0, 0, 0), (.aload_n 0, 0, 0, 0), (.getfield 57, 7, 8, 2), (.getfield 114, 6, 5, 0), (.isub, 0, 0, 0), (.ireturn, 0, 0, 0)]
def bk_78_0 : List mIns := [(.iload_n 1, 1, 0, 0), (.invokestatic 72, 81, 1, 0), (.ifCond .ne 5, 9, 0, 0), (.iconst (-1), 0, 0, (-1)), (.ireturn, 0, 0, 0)]
def bk_78_9 : List mIns := [(.iload_n 2, 2, 0, 0), (.invokestatic 256, 84, 1, 0), (.ifCond .eq 10, 23, 0, 0), (.iload_n 3, 3, 0, 0), (.invokestatic 76, 82, 1, 0), (.ifCond .ne 6, 26, 0, 0), (.nop, 23, 0, 0)]
def bk_78_23 : List mIns := [(.bipush (-2), 0, 0, (-2)), (.ireturn, 0, 0, 0)]
def bk_78_26 : List mIns := [(.aload_n 0, 0, 0, 0), (.getfield 12, 7, 0, 2), (.getfield 79, 4, 0, 2), (.iload_n 1, 1, 0, 0), (.aaload, 4, 6, 0), (.astore 4, 4, 0, 0), (.aload 4, 4, 0, 0), (.getfield 83, 6, 3, 1), (.ifCond .ne 6, 48, 0, 0), (.bipush (-4), 0, 0, (-4)), (.ireturn, 0, 0, 0)]
def bk_78_48 : List mIns := [(.aload_n 0, 0, 0, 0), (.getfield 47, 7, 6, 2), (.aload 4, 4, 0, 0), (.iload_n 2, 2, 0, 0), (.invokevirtual 133, 18, 3, 0), (.aload_n 0, 0, 0, 0), (.getfield 57, 7, 8, 2), (.aload 4, 4, 0, 0), (.invokevirtual 259, 36, 2, 0), (.iconst 0, 0, 0, 0), (.istore 5, 5, 0, 0), (.nop, 70, 0, 0)]
def bk_78_70 : List mIns := [(.iload 5, 5, 0, 0), (.bipush 30, 0, 0, 30), (.if_icmp .ge 72, 146, 0, 0), (.aload_n 0, 0, 0, 0), (.getfield 57, 7, 8, 2), (.aload_n 0, 0, 0, 0), (.getfield 12, 7, 0, 2), (.getfield 61, 4, 2, 0), (.aload_n 0, 0, 0, 0), (.getfield 12, 7, 0, 2), (.getfield 69, 4, 3, 0), (.iload_n 3, 3, 0, 0), (.invokevirtual 261, 51, 4, 0), (.iconst (-1), 0, 0, (-1)), (.if_icmp .eq 6, 106, 0, 0), (.iload 5, 5, 0, 0), (.ireturn, 0, 0, 0)]
def bk_78_106 : List mIns := [(.aload_n 0, 0, 0, 0), (.getfield 51, 7, 7, 2), (.aload_n 0, 0, 0, 0), (.getfield 57, 7, 8, 2), (.iload_n 2, 2, 0, 0), (.invokevirtual 133, 18, 3, 0), (.aload_n 0, 0, 0, 0), (.getfield 51, 7, 7, 2), (.aload_n 0, 0, 0, 0), (.getfield 47, 7, 6, 2), (.aload 4, 4, 0, 0), (.getfield 114, 6, 5, 0), (.invokevirtual 267, 23, 3, 0), (.ifCond .ne 6, 140, 0, 0), (.iload 5, 5, 0, 0), (.ireturn, 0, 0, 0)]
def bk_78_140 : List mIns := [(.iinc 5 1, 5, 0, 1), (.goto (-73), 70, 0, 0)]
def bk_78_146 : List mIns := [(.bipush 30, 0, 0, 30), (.ireturn, 0, 0, 0)]
def bk_79_0 : List mIns := [(.iload_n 1, 1, 0, 0), (.ifCond .lt 12, 13, 0, 0), (.iload_n 2, 2, 0, 0), (.ifCond .lt 8, 13, 0, 0), (.iload_n 2, 2, 0, 0), (.iconst 2, 0, 0, 2), (.if_icmp .le 6, 16, 0, 0), (.nop, 13, 0, 0)]
def bk_79_13 : List mIns := [(.bipush (-2), 0, 0, (-2)), (.ireturn, 0, 0, 0)]
def bk_79_16 : List mIns := [(.aload_n 0, 0, 0, 0), (.getfield 12, 7, 0, 2), (.getfield 104, 4, 1, 2), (.iload_n 1, 1, 0, 0), (.iload_n 2, 2, 0, 0), (.invokevirtual 271, 16, 3, 0), (.ireturn, 0, 0, 0)]
def bk_80_0 : List mIns := [(.iload_n 1, 1, 0, 0), (.tableswitch 147 0 10 #[59, 67, 75, 83, 91, 99, 107, 115, 123, 131, 139], 1, 59, 0)]
def bk_80_60 : List mIns := [(.aload_n 0, 0, 0, 0), (.getfield 12, 7, 0, 2), (.invokevirtual 216, 26, 1, 0), (.ireturn, 0, 0, 0)]
def bk_80_68 : List mIns := [(.aload_n 0, 0, 0, 0), (.getfield 12, 7, 0, 2), (.invokevirtual 274, 27, 1, 0), (.ireturn, 0, 0, 0)]
def bk_80_76 : List mIns := [(.aload_n 0, 0, 0, 0), (.getfield 12, 7, 0, 2), (.getfield 277, 4, 4, 0), (.ireturn, 0, 0, 0)]
def bk_80_84 : List mIns := [(.aload_n 0, 0, 0, 0), (.getfield 12, 7, 0, 2), (.getfield 101, 4, 5, 0), (.ireturn, 0, 0, 0)]
def bk_80_92 : List mIns := [(.aload_n 0, 0, 0, 0), (.getfield 12, 7, 0, 2), (.getfield 280, 4, 6, 0), (.ireturn, 0, 0, 0)]
def bk_80_100 : List mIns := [(.aload_n 0, 0, 0, 0), (.getfield 12, 7, 0, 2), (.getfield 281, 4, 7, 0), (.ireturn, 0, 0, 0)]
def bk_80_108 : List mIns := [(.aload_n 0, 0, 0, 0), (.getfield 12, 7, 0, 2), (.getfield 284, 4, 8, 0), (.ireturn, 0, 0, 0)]
def bk_80_116 : List mIns := [(.aload_n 0, 0, 0, 0), (.getfield 12, 7, 0, 2), (.getfield 61, 4, 2, 0), (.ireturn, 0, 0, 0)]
def bk_80_124 : List mIns := [(.aload_n 0, 0, 0, 0), (.getfield 12, 7, 0, 2), (.getfield 69, 4, 3, 0), (.ireturn, 0, 0, 0)]
def bk_80_132 : List mIns := [(.aload_n 0, 0, 0, 0), (.getfield 19, 7, 1, 2), (.getfield 212, 1, 1, 0), (.ireturn, 0, 0, 0)]
def bk_80_140 : List mIns := [(.aload_n 0, 0, 0, 0), (.getfield 33, 7, 4, 2), (.getfield 156, 5, 1, 0), (.ireturn, 0, 0, 0)]
def bk_80_148 : List mIns := [(.bipush (-2), 0, 0, (-2)), (.ireturn, 0, 0, 0)]
def bk_81_0 : List mIns := [(.iload_n 0, 0, 0, 0), (.ifCond .lt 13, 14, 0, 0), (.iload_n 0, 0, 0, 0), (.bipush 6, 0, 0, 6), (.if_icmp .ge 7, 14, 0, 0), (.iconst 1, 0, 0, 1), (.goto 4, 15, 0, 0)]
def bk_81_14 : List mIns := [(.iconst 0, 0, 0, 0), (.nop, 15, 0, 0)]
def bk_81_15 : List mIns := [(.ireturn, 0, 0, 1)]
def bk_82_0 : List mIns := [(.iload_n 0, 0, 0, 0), (.ifCond .lt 13, 14, 0, 0), (.iload_n 0, 0, 0, 0), (.bipush 9, 0, 0, 9), (.if_icmp .gt 7, 14, 0, 0), (.iconst 1, 0, 0, 1), (.goto 4, 15, 0, 0)]
def bk_82_14 : List mIns := [(.iconst 0, 0, 0, 0), (.nop, 15, 0, 0)]
def bk_82_15 : List mIns := [(.ireturn, 0, 0, 1)]
def bk_83_0 : List mIns := [(.iload_n 0, 0, 0, 0), (.ifCond .lt 12, 13, 0, 0), (.iload_n 0, 0, 0, 0), (.iconst 2, 0, 0, 2), (.if_icmp .gt 7, 13, 0, 0), (.iconst 1, 0, 0, 1), (.goto 4, 14, 0, 0)]
def bk_83_13 : List mIns := [(.iconst 0, 0, 0, 0), (.nop, 14, 0, 0)]
def bk_83_14 : List mIns := [(.ireturn, 0, 0, 1)]
def bk_84_0 : List mIns := [(.iload_n 0, 0, 0, 0), (.ifCond .eq 8, 9, 0, 0), (.iload_n 0, 0, 0, 0), (.iconst 1, 0, 0, 1), (.if_icmp .ne 7, 13, 0, 0), (.nop, 9, 0, 0)]
def bk_84_9 : List mIns := [(.iconst 1, 0, 0, 1), (.goto 4, 14, 0, 0)]
def bk_84_13 : List mIns := [(.iconst 0, 0, 0, 0), (.nop, 14, 0, 0)]
def bk_84_14 : List mIns := [(.ireturn, 0, 0, 1)]
def bk_85_0 : List mIns := [(.sipush 2000, 0, 0, 2000), (.sipush 1000, 0, 0, 1000), (.iload_n 0, 0, 0, 0), (.imul, 0, 0, 0), (.iadd, 0, 0, 0), (.ireturn, 0, 0, 0)]
def bk_86_0 : List mIns := [(.iload_n 0, 0, 0, 0), (.iconst 1, 0, 0, 1), (.if_icmp .ne 13, 15, 0, 0), (.iconst 2, 0, 0, 2), (.iload_n 1, 1, 0, 0), (.imul, 0, 0, 0), (.iload_n 1, 1, 0, 0), (.imul, 0, 0, 0), (.iload_n 1, 1, 0, 0), (.iload_n 2, 2, 0, 0), (.imul, 0, 0, 0), (.iadd, 0, 0, 0), (.ireturn, 0, 0, 0)]
def bk_86_15 : List mIns := [(.iload_n 0, 0, 0, 0), (.iconst 2, 0, 0, 2), (.if_icmp .ne 17, 34, 0, 0), (.iconst 2, 0, 0, 2), (.iload_n 1, 1, 0, 0), (.imul, 0, 0, 0), (.iload_n 1, 1, 0, 0), (.imul, 0, 0, 0), (.iload_n 1, 1, 0, 0), (.iload_n 3, 3, 0, 0), (.iconst 1, 0, 0, 1), (.isub, 0, 0, 0), (.iload_n 2, 2, 0, 0), (.isub, 0, 0, 0), (.imul, 0, 0, 0), (.iadd, 0, 0, 0), (.ireturn, 0, 0, 0)]
def bk_86_34 : List mIns := [(.iconst 4, 0, 0, 4), (.iload_n 1, 1, 0, 0), (.imul, 0, 0, 0), (.iload_n 1, 1, 0, 0), (.imul, 0, 0, 0), (.ireturn, 0, 0, 0)]
def bk_87_0 : List mIns := [(.aload_n 0, 0, 0, 0), (.getfield 9, 0, 0, 4), (.arraylength, 0, 0, 2), (.aload_n 0, 0, 0, 0), (.invokevirtual 335, 89, 1, 0), (.ishr, 0, 0, 0), (.ireturn, 0, 0, 0)]
def bk_88_0 : List mIns := [(.aload_n 0, 0, 0, 0), (.invokevirtual 492, 90, 1, 0), (.ifCond .eq 12, 16, 0, 0), (.aload_n 0, 0, 0, 0), (.getfield 9, 0, 0, 4), (.iload_n 1, 1, 0, 0), (.invokestatic 495, 92, 2, 0), (.ireturn, 0, 0, 3)]
def bk_88_16 : List mIns := [(.aload_n 0, 0, 0, 0), (.getfield 9, 0, 0, 4), (.iload_n 1, 1, 0, 0), (.invokestatic 498, 0, 0, 7), (.ireturn, 0, 0, 3)]
def bk_89_0 : List mIns := [(.getstatic 38, 0, 0, 0), (.ifCond .eq 10, 13, 0, 0), (.aload_n 0, 0, 0, 0), (.getfield 15, 0, 0, 5), (.goto 4, 14, 0, 0)]
def bk_89_13 : List mIns := [(.iconst 1, 0, 0, 1), (.nop, 14, 0, 0)]
def bk_89_14 : List mIns := [(.ireturn, 0, 0, 2)]
def bk_90_0 : List mIns := [(.getstatic 38, 0, 0, 0), (.ifCond .eq 14, 17, 0, 0), (.aload_n 0, 0, 0, 0), (.getfield 15, 0, 0, 5), (.ifCond .ne 7, 17, 0, 0), (.iconst 1, 0, 0, 1), (.goto 4, 18, 0, 0)]
def bk_90_17 : List mIns := [(.iconst 0, 0, 0, 0), (.nop, 18, 0, 0)]
def bk_90_18 : List mIns := [(.ireturn, 0, 0, 1)]
def bk_91_0 : List mIns := [(.iload_n 0, 0, 0, 0), (.iload_n 1, 1, 0, 0), (.getstatic 1053, 0, 0, 1), (.invokestatic 1059, 93, 3, 0), (.pop, 0, 0, 0), (.return_, 0, 0, 0)]
def bk_92_0 : List mIns := [(.iload_n 1, 1, 0, 0), (.aload_n 0, 0, 0, 0), (.arraylength, 0, 0, 2), (.invokestatic 9, 91, 2, 0), (.aload_n 0, 0, 0, 0), (.iload_n 1, 1, 0, 0), (.baload, 0, 0, 0), (.sipush 255, 0, 0, 255), (.iand, 0, 0, 0), (.i2c, 0, 0, 0), (.ireturn, 0, 0, 3)]
def bk_93_0 : List mIns := [(.iload_n 0, 0, 0, 0), (.ifCond .lt 8, 9, 0, 0), (.iload_n 0, 0, 0, 0), (.iload_n 1, 1, 0, 0), (.if_icmp .lt 10, 16, 0, 0), (.nop, 9, 0, 0)]
def bk_93_9 : List mIns := [(.aload_n 2, 2, 0, 0), (.iload_n 0, 0, 0, 0), (.iload_n 1, 1, 0, 0), (.invokestatic 95, 0, 0, 7), (.athrow, 0, 0, 0)]
def bk_93_16 : List mIns := [(.iload_n 0, 0, 0, 0), (.ireturn, 0, 0, 0)]
def bk_94_0 : List mIns := [(.iload_n 1, 1, 0, 0), (.aload_n 0, 0, 0, 0), (.arraylength, 0, 0, 1), (.if_icmp .ge 9, 12, 0, 0), (.aload_n 0, 0, 0, 0), (.iload_n 1, 1, 0, 0), (.iaload, 0, 0, 1), (.goto 11, 20, 0, 0)]
def bk_94_12 : List mIns := [(.ldc 7, 0, 1, 2450023), (.iload_n 1, 1, 0, 0), (.imul, 0, 0, 0), (.sipush 1171, 0, 0, 1171), (.iadd, 0, 0, 0), (.nop, 20, 0, 0)]
def bk_94_20 : List mIns := [(.ireturn, 0, 0, 0)]
def bk_95_0 : List mIns := [(.iload_n 0, 0, 0, 0), (.ldc 8, 0, 1, 2147483647), (.iand, 0, 0, 0), (.iload_n 1, 1, 0, 0), (.irem, 0, 0, 0), (.ireturn, 0, 0, 0)]
def bk_96_0 : List mIns := [(.ldc2_w 9, 0, 0, 67), (.lstore_n 1, 1, 0, 0), (.iconst 0, 0, 0, 0), (.istore_n 3, 3, 0, 0), (.nop, 6, 0, 0)]
def bk_96_6 : List mIns := [(.iload_n 3, 3, 0, 0), (.bipush 9, 0, 0, 9), (.if_icmp .ge 22, 31, 0, 0), (.ldc2_w 11, 0, 0, 31), (.lload_n 1, 1, 0, 0), (.lmul, 0, 0, 0), (.aload_n 0, 0, 0, 0), (.iload_n 3, 3, 0, 0), (.invokevirtual 13, 80, 2, 0), (.i2l, 0, 0, 0), (.ladd, 0, 0, 0), (.lstore_n 1, 1, 0, 0), (.iinc 3 1, 3, 0, 1), (.goto (-22), 6, 0, 0)]
def bk_96_31 : List mIns := [(.iconst 0, 0, 0, 0), (.istore_n 3, 3, 0, 0), (.nop, 33, 0, 0)]
def bk_96_33 : List mIns := [(.iload_n 3, 3, 0, 0), (.bipush 6, 0, 0, 6), (.if_icmp .ge 100, 136, 0, 0), (.iconst 0, 0, 0, 0), (.istore 4, 4, 0, 0), (.nop, 42, 0, 0)]
def bk_96_42 : List mIns := [(.iload 4, 4, 0, 0), (.bipush 7, 0, 0, 7), (.if_icmp .ge 24, 70, 0, 0), (.ldc2_w 11, 0, 0, 31), (.lload_n 1, 1, 0, 0), (.lmul, 0, 0, 0), (.aload_n 0, 0, 0, 0), (.iload_n 3, 3, 0, 0), (.iload 4, 4, 0, 0), (.invokevirtual 19, 72, 3, 0), (.i2l, 0, 0, 0), (.ladd, 0, 0, 0), (.lstore_n 1, 1, 0, 0), (.iinc 4 1, 4, 0, 1), (.goto (-25), 42, 0, 0)]
def bk_96_70 : List mIns := [(.iconst 0, 0, 0, 0), (.istore 4, 4, 0, 0), (.nop, 73, 0, 0)]
def bk_96_73 : List mIns := [(.iload 4, 4, 0, 0), (.bipush 32, 0, 0, 32), (.if_icmp .ge 53, 130, 0, 0), (.ldc2_w 11, 0, 0, 31), (.lload_n 1, 1, 0, 0), (.lmul, 0, 0, 0), (.ldc2_w 23, 0, 0, 7), (.aload_n 0, 0, 0, 0), (.iload_n 3, 3, 0, 0), (.iload 4, 4, 0, 0), (.iconst 0, 0, 0, 0), (.invokevirtual 25, 73, 4, 0), (.i2l, 0, 0, 0), (.lmul, 0, 0, 0), (.ladd, 0, 0, 0), (.ldc2_w 29, 0, 0, 3), (.aload_n 0, 0, 0, 0), (.iload_n 3, 3, 0, 0), (.iload 4, 4, 0, 0), (.iconst 1, 0, 0, 1), (.invokevirtual 25, 73, 4, 0), (.i2l, 0, 0, 0), (.lmul, 0, 0, 0), (.ladd, 0, 0, 0), (.aload_n 0, 0, 0, 0), (.iload_n 3, 3, 0, 0), (.iload 4, 4, 0, 0), (.iconst 2, 0, 0, 2), (.invokevirtual 25, 73, 4, 0), (.i2l, 0, 0, 0), (.ladd, 0, 0, 0), (.lstore_n 1, 1, 0, 0), (.iinc 4 1, 4, 0, 1), (.goto (-54), 73, 0, 0)]
def bk_96_130 : List mIns := [(.iinc 3 1, 3, 0, 1), (.goto (-100), 33, 0, 0)]
def bk_96_136 : List mIns := [(.iconst 0, 0, 0, 0), (.istore_n 3, 3, 0, 0), (.nop, 138, 0, 0)]
def bk_96_138 : List mIns := [(.iload_n 3, 3, 0, 0), (.bipush 10, 0, 0, 10), (.if_icmp .ge 47, 188, 0, 0), (.ldc2_w 11, 0, 0, 31), (.lload_n 1, 1, 0, 0), (.lmul, 0, 0, 0), (.ldc2_w 31, 0, 0, 49), (.aload_n 0, 0, 0, 0), (.iload_n 3, 3, 0, 0), (.iconst 0, 0, 0, 0), (.invokevirtual 33, 79, 3, 0), (.i2l, 0, 0, 0), (.lmul, 0, 0, 0), (.ladd, 0, 0, 0), (.ldc2_w 23, 0, 0, 7), (.aload_n 0, 0, 0, 0), (.iload_n 3, 3, 0, 0), (.iconst 1, 0, 0, 1), (.invokevirtual 33, 79, 3, 0), (.i2l, 0, 0, 0), (.lmul, 0, 0, 0), (.ladd, 0, 0, 0), (.aload_n 0, 0, 0, 0), (.iload_n 3, 3, 0, 0), (.iconst 2, 0, 0, 2), (.invokevirtual 33, 79, 3, 0), (.i2l, 0, 0, 0), (.ladd, 0, 0, 0), (.lstore_n 1, 1, 0, 0), (.iinc 3 1, 3, 0, 1), (.goto (-47), 138, 0, 0)]
def bk_96_188 : List mIns := [(.lload_n 1, 1, 0, 0), (.lreturn, 0, 0, 0)]
def bk_97_0 : List mIns := [(.aload_n 0, 0, 0, 0), (.iload_n 1, 1, 0, 0), (.i2c, 0, 0, 0), (.invokevirtual 36, 66, 2, 0), (.pop, 0, 0, 0), (.return_, 0, 0, 0)]
def bk_98_0 : List mIns := [(.aload_n 0, 0, 0, 0), (.invokevirtual 40, 67, 1, 0), (.pop, 0, 0, 0), (.aload_n 0, 0, 0, 0), (.iload_n 1, 1, 0, 0), (.invokestatic 44, 97, 2, 0), (.aload_n 0, 0, 0, 0), (.iload_n 2, 2, 0, 0), (.invokestatic 44, 97, 2, 0), (.aload_n 0, 0, 0, 0), (.iload_n 3, 3, 0, 0), (.invokestatic 44, 97, 2, 0), (.iload 4, 4, 0, 0), (.ifCond .le 15, 37, 0, 0), (.aload_n 0, 0, 0, 0), (.iload 4, 4, 0, 0), (.invokestatic 44, 97, 2, 0), (.aload_n 0, 0, 0, 0), (.iload 5, 5, 0, 0), (.invokestatic 44, 97, 2, 0), (.nop, 37, 0, 0)]
def bk_98_37 : List mIns := [(.iload 6, 6, 0, 0), (.ifCond .le 9, 48, 0, 0), (.aload_n 0, 0, 0, 0), (.iload 6, 6, 0, 0), (.invokestatic 44, 97, 2, 0), (.nop, 48, 0, 0)]
def bk_98_48 : List mIns := [(.aload_n 0, 0, 0, 0), (.bipush 32, 0, 0, 32), (.invokestatic 44, 97, 2, 0), (.return_, 0, 0, 0)]
def bk_99_0 : List mIns := [(.iload_n 1, 1, 0, 0), (.bipush 9, 0, 0, 9), (.if_icmp .le 14, 17, 0, 0), (.aload_n 0, 0, 0, 0), (.bipush 48, 0, 0, 48), (.iload_n 1, 1, 0, 0), (.bipush 10, 0, 0, 10), (.idiv, 0, 0, 0), (.iadd, 0, 0, 0), (.invokestatic 44, 97, 2, 0), (.nop, 17, 0, 0)]
def bk_99_17 : List mIns := [(.aload_n 0, 0, 0, 0), (.bipush 48, 0, 0, 48), (.iload_n 1, 1, 0, 0), (.bipush 10, 0, 0, 10), (.irem, 0, 0, 0), (.iadd, 0, 0, 0), (.invokestatic 44, 97, 2, 0), (.return_, 0, 0, 0)]
def bk_100_0 : List mIns := [(.aload_n 0, 0, 0, 0), (.iload_n 1, 1, 0, 0), (.iconst 0, 0, 0, 0), (.invokevirtual 19, 72, 3, 0), (.bipush (-4), 0, 0, (-4)), (.if_icmp .ne 7, 15, 0, 0), (.iconst 1, 0, 0, 1), (.goto 4, 16, 0, 0)]
def bk_100_15 : List mIns := [(.iconst 0, 0, 0, 0), (.nop, 16, 0, 0)]
def bk_100_16 : List mIns := [(.istore 4, 4, 0, 0), (.aload_n 0, 0, 0, 0), (.iconst 3, 0, 0, 3), (.invokevirtual 13, 80, 2, 0), (.istore 5, 5, 0, 0), (.iconst 1, 0, 0, 1), (.iload_n 2, 2, 0, 0), (.iload_n 2, 2, 0, 0), (.bipush 64, 0, 0, 64), (.iand, 0, 0, 0), (.ifCond .ne 8, 39, 0, 0), (.bipush 6, 0, 0, 6), (.goto 5, 41, 0, 0)]
def bk_100_39 : List mIns := [(.bipush 31, 0, 0, 31), (.nop, 41, 0, 0)]
def bk_100_41 : List mIns := [(.invokestatic 50, 95, 2, 0), (.iadd, 0, 0, 0), (.istore 6, 6, 0, 0), (.iload 5, 5, 0, 0), (.sipush 10000, 0, 0, 10000), (.iadd, 0, 0, 0), (.istore 7, 7, 0, 0), (.aload_n 0, 0, 0, 0), (.bipush 119, 0, 0, 119), (.bipush 114, 0, 0, 114), (.bipush 105, 0, 0, 105), (.bipush 116, 0, 0, 116), (.bipush 101, 0, 0, 101), (.iconst 0, 0, 0, 0), (.invokestatic 53, 98, 7, 0), (.aload_n 0, 0, 0, 0), (.iload_n 1, 1, 0, 0), (.invokestatic 57, 99, 2, 0), (.aload_n 0, 0, 0, 0), (.bipush 32, 0, 0, 32), (.invokestatic 44, 97, 2, 0), (.iconst 0, 0, 0, 0), (.istore 8, 8, 0, 0), (.nop, 84, 0, 0)]
def bk_100_84 : List mIns := [(.iload 8, 8, 0, 0), (.iload 6, 6, 0, 0), (.if_icmp .ge 45, 133, 0, 0), (.iload_n 3, 3, 0, 0), (.iload 8, 8, 0, 0), (.bipush 29, 0, 0, 29), (.irem, 0, 0, 0), (.ishr, 0, 0, 0), (.bipush 7, 0, 0, 7), (.iand, 0, 0, 0), (.istore 9, 9, 0, 0), (.aload_n 0, 0, 0, 0), (.bipush 97, 0, 0, 97), (.iload 9, 9, 0, 0), (.iadd, 0, 0, 0), (.invokestatic 44, 97, 2, 0), (.iload 7, 7, 0, 0), (.sipush 2000, 0, 0, 2000), (.sipush 1000, 0, 0, 1000), (.iload 9, 9, 0, 0), (.imul, 0, 0, 0), (.iadd, 0, 0, 0), (.iadd, 0, 0, 0), (.istore 7, 7, 0, 0), (.iinc 8 1, 8, 0, 1), (.goto (-46), 84, 0, 0)]
def bk_100_133 : List mIns := [(.aload_n 0, 0, 0, 0), (.invokevirtual 60, 68, 1, 0), (.istore 8, 8, 0, 0), (.iload 4, 4, 0, 0), (.ifCond .eq 10, 151, 0, 0), (.iload 6, 6, 0, 0), (.bipush 30, 0, 0, 30), (.if_icmp .le 36, 184, 0, 0), (.nop, 151, 0, 0)]
def bk_100_151 : List mIns := [(.iload 8, 8, 0, 0), (.iload 4, 4, 0, 0), (.ifCond .eq 8, 163, 0, 0), (.bipush (-3), 0, 0, (-3)), (.goto 5, 165, 0, 0)]
def bk_100_163 : List mIns := [(.bipush (-4), 0, 0, (-4)), (.nop, 165, 0, 0)]
def bk_100_165 : List mIns := [(.if_icmp .ne 17, 182, 0, 0), (.aload_n 0, 0, 0, 0), (.iconst 3, 0, 0, 3), (.invokevirtual 13, 80, 2, 0), (.iload 5, 5, 0, 0), (.if_icmp .ne 7, 182, 0, 0), (.iconst 1, 0, 0, 1), (.goto 4, 183, 0, 0)]
def bk_100_182 : List mIns := [(.iconst 0, 0, 0, 0), (.nop, 183, 0, 0)]
def bk_100_183 : List mIns := [(.ireturn, 0, 0, 1)]
def bk_100_184 : List mIns := [(.iconst 0, 0, 0, 0), (.istore 9, 9, 0, 0), (.nop, 187, 0, 0)]
def bk_100_187 : List mIns := [(.iload 9, 9, 0, 0), (.iload 6, 6, 0, 0), (.if_icmp .ge 64, 255, 0, 0), (.aload_n 0, 0, 0, 0), (.iload_n 1, 1, 0, 0), (.iload 9, 9, 0, 0), (.iconst 3, 0, 0, 3), (.irem, 0, 0, 0), (.iload 9, 9, 0, 0), (.invokevirtual 63, 74, 4, 0), (.bipush 97, 0, 0, 97), (.iload_n 3, 3, 0, 0), (.iload 9, 9, 0, 0), (.bipush 29, 0, 0, 29), (.irem, 0, 0, 0), (.ishr, 0, 0, 0), (.bipush 7, 0, 0, 7), (.iand, 0, 0, 0), (.iadd, 0, 0, 0), (.if_icmp .ne 29, 247, 0, 0), (.aload_n 0, 0, 0, 0), (.iload_n 1, 1, 0, 0), (.iconst 1, 0, 0, 1), (.iload 9, 9, 0, 0), (.iadd, 0, 0, 0), (.iconst 2, 0, 0, 2), (.invokevirtual 25, 73, 4, 0), (.bipush 97, 0, 0, 97), (.iload_n 3, 3, 0, 0), (.iload 9, 9, 0, 0), (.bipush 29, 0, 0, 29), (.irem, 0, 0, 0), (.ishr, 0, 0, 0), (.bipush 7, 0, 0, 7), (.iand, 0, 0, 0), (.iadd, 0, 0, 0), (.if_icmp .eq 5, 249, 0, 0), (.nop, 247, 0, 0)]
def bk_100_247 : List mIns := [(.iconst 0, 0, 0, 0), (.ireturn, 0, 0, 1)]
def bk_100_249 : List mIns := [(.iinc 9 1, 9, 0, 1), (.goto (-65), 187, 0, 0)]
def bk_100_255 : List mIns := [(.iload 8, 8, 0, 0), (.iload 6, 6, 0, 0), (.if_icmp .ne 70, 329, 0, 0), (.aload_n 0, 0, 0, 0), (.iconst 3, 0, 0, 3), (.invokevirtual 13, 80, 2, 0), (.iload 7, 7, 0, 0), (.if_icmp .ne 60, 329, 0, 0), (.aload_n 0, 0, 0, 0), (.iload_n 1, 1, 0, 0), (.iconst 1, 0, 0, 1), (.invokevirtual 19, 72, 3, 0), (.iconst 1, 0, 0, 1), (.if_icmp .ne 50, 329, 0, 0), (.aload_n 0, 0, 0, 0), (.iload_n 1, 1, 0, 0), (.iconst 4, 0, 0, 4), (.invokevirtual 19, 72, 3, 0), (.ifCond .ne 41, 329, 0, 0), (.aload_n 0, 0, 0, 0), (.iload_n 1, 1, 0, 0), (.iconst 2, 0, 0, 2), (.invokevirtual 19, 72, 3, 0), (.iload 7, 7, 0, 0), (.iload 5, 5, 0, 0), (.isub, 0, 0, 0), (.if_icmp .ne 27, 329, 0, 0), (.aload_n 0, 0, 0, 0), (.iconst 0, 0, 0, 0), (.iconst 0, 0, 0, 0), (.invokevirtual 33, 79, 3, 0), (.ifCond .ne 18, 329, 0, 0), (.aload_n 0, 0, 0, 0), (.iconst 0, 0, 0, 0), (.iconst 2, 0, 0, 2), (.invokevirtual 33, 79, 3, 0), (.iload 6, 6, 0, 0), (.if_icmp .ne 7, 329, 0, 0), (.iconst 1, 0, 0, 1), (.goto 4, 330, 0, 0)]
def bk_100_329 : List mIns := [(.iconst 0, 0, 0, 0), (.nop, 330, 0, 0)]
def bk_100_330 : List mIns := [(.ireturn, 0, 0, 1)]
def bk_101_0 : List mIns := [(.aload_n 0, 0, 0, 0), (.iload_n 1, 1, 0, 0), (.iconst 0, 0, 0, 0), (.invokevirtual 19, 72, 3, 0), (.istore_n 2, 2, 0, 0), (.iload_n 2, 2, 0, 0), (.ifCond .ge 80, 88, 0, 0), (.iload_n 2, 2, 0, 0), (.bipush (-4), 0, 0, (-4)), (.if_icmp .ne 72, 86, 0, 0), (.aload_n 0, 0, 0, 0), (.iload_n 1, 1, 0, 0), (.iconst 0, 0, 0, 0), (.iconst 0, 0, 0, 0), (.invokevirtual 25, 73, 4, 0), (.iconst (-1), 0, 0, (-1)), (.if_icmp .ne 61, 86, 0, 0), (.aload_n 0, 0, 0, 0), (.iload_n 1, 1, 0, 0), (.invokevirtual 66, 76, 2, 0), (.bipush (-4), 0, 0, (-4)), (.if_icmp .ne 51, 86, 0, 0), (.aload_n 0, 0, 0, 0), (.iload_n 1, 1, 0, 0), (.invokevirtual 69, 64, 2, 0), (.bipush (-4), 0, 0, (-4)), (.if_icmp .ne 41, 86, 0, 0), (.aload_n 0, 0, 0, 0), (.iload_n 1, 1, 0, 0), (.iconst 0, 0, 0, 0), (.iconst 0, 0, 0, 0), (.invokevirtual 72, 75, 4, 0), (.bipush (-4), 0, 0, (-4)), (.if_icmp .ne 29, 86, 0, 0), (.aload_n 0, 0, 0, 0), (.iload_n 1, 1, 0, 0), (.iconst 0, 0, 0, 0), (.iconst 1, 0, 0, 1), (.invokevirtual 75, 61, 4, 0), (.bipush (-4), 0, 0, (-4)), (.if_icmp .ne 17, 86, 0, 0), (.aload_n 0, 0, 0, 0), (.iload_n 1, 1, 0, 0), (.iconst 0, 0, 0, 0), (.invokevirtual 78, 62, 3, 0), (.iconst (-1), 0, 0, (-1)), (.if_icmp .ne 7, 86, 0, 0), (.iconst 1, 0, 0, 1), (.goto 4, 87, 0, 0)]
def bk_101_86 : List mIns := [(.iconst 0, 0, 0, 0), (.nop, 87, 0, 0)]
def bk_101_87 : List mIns := [(.ireturn, 0, 0, 1)]
def bk_101_88 : List mIns := [(.iload_n 2, 2, 0, 0), (.iconst 1, 0, 0, 1), (.iadd, 0, 0, 0), (.aload_n 0, 0, 0, 0), (.iload_n 1, 1, 0, 0), (.iconst 1, 0, 0, 1), (.invokevirtual 19, 72, 3, 0), (.iadd, 0, 0, 0), (.istore_n 3, 3, 0, 0), (.iconst 0, 0, 0, 0), (.istore 4, 4, 0, 0), (.iconst 0, 0, 0, 0), (.istore 5, 5, 0, 0), (.iconst 0, 0, 0, 0), (.istore 6, 6, 0, 0), (.iconst 0, 0, 0, 0), (.istore 7, 7, 0, 0), (.nop, 111, 0, 0)]
def bk_101_111 : List mIns := [(.iload 7, 7, 0, 0), (.iload_n 3, 3, 0, 0), (.if_icmp .ge 162, 276, 0, 0), (.aload_n 0, 0, 0, 0), (.iload_n 1, 1, 0, 0), (.iload 7, 7, 0, 0), (.iconst 0, 0, 0, 0), (.invokevirtual 25, 73, 4, 0), (.istore 8, 8, 0, 0), (.aload_n 0, 0, 0, 0), (.iload_n 1, 1, 0, 0), (.iload 7, 7, 0, 0), (.iconst 1, 0, 0, 1), (.invokevirtual 25, 73, 4, 0), (.istore 9, 9, 0, 0), (.iload 4, 4, 0, 0), (.iload 8, 8, 0, 0), (.iadd, 0, 0, 0), (.istore 4, 4, 0, 0), (.iload 5, 5, 0, 0), (.iload 9, 9, 0, 0), (.iadd, 0, 0, 0), (.istore 5, 5, 0, 0), (.iload 8, 8, 0, 0), (.iload 9, 9, 0, 0), (.if_icmp .lt 71, 226, 0, 0), (.iload 7, 7, 0, 0), (.ifCond .le 34, 194, 0, 0), (.iload 7, 7, 0, 0), (.iload_n 2, 2, 0, 0), (.if_icmp .gt 28, 194, 0, 0), (.iload 9, 9, 0, 0), (.sipush 2000, 0, 0, 2000), (.if_icmp .lt 52, 226, 0, 0), (.iload 9, 9, 0, 0), (.sipush 9000, 0, 0, 9000), (.if_icmp .gt 44, 226, 0, 0), (.iload 9, 9, 0, 0), (.sipush 1000, 0, 0, 1000), (.irem, 0, 0, 0), (.ifCond .ne 35, 226, 0, 0), (.nop, 194, 0, 0)]
def bk_101_194 : List mIns := [(.iload 7, 7, 0, 0), (.ifCond .eq 9, 205, 0, 0), (.iload 7, 7, 0, 0), (.iload_n 2, 2, 0, 0), (.if_icmp .le 26, 228, 0, 0), (.nop, 205, 0, 0)]
def bk_101_205 : List mIns := [(.iload 9, 9, 0, 0), (.sipush 5000, 0, 0, 5000), (.if_icmp .ne 16, 226, 0, 0), (.aload_n 0, 0, 0, 0), (.iload_n 1, 1, 0, 0), (.iload 7, 7, 0, 0), (.iconst 2, 0, 0, 2), (.invokevirtual 25, 73, 4, 0), (.bipush (-5), 0, 0, (-5)), (.if_icmp .eq 5, 228, 0, 0), (.nop, 226, 0, 0)]
def bk_101_226 : List mIns := [(.iconst 0, 0, 0, 0), (.ireturn, 0, 0, 1)]
def bk_101_228 : List mIns := [(.iload 8, 8, 0, 0), (.sipush 1000, 0, 0, 1000), (.imul, 0, 0, 0), (.iload 9, 9, 0, 0), (.idiv, 0, 0, 0), (.aload_n 0, 0, 0, 0), (.iload_n 1, 1, 0, 0), (.iload 6, 6, 0, 0), (.iconst 0, 0, 0, 0), (.invokevirtual 25, 73, 4, 0), (.sipush 1000, 0, 0, 1000), (.imul, 0, 0, 0), (.aload_n 0, 0, 0, 0), (.iload_n 1, 1, 0, 0), (.iload 6, 6, 0, 0), (.iconst 1, 0, 0, 1), (.invokevirtual 25, 73, 4, 0), (.idiv, 0, 0, 0), (.if_icmp .le 8, 266, 0, 0), (.iload 7, 7, 0, 0), (.goto 5, 268, 0, 0)]
def bk_101_266 : List mIns := [(.iload 6, 6, 0, 0), (.nop, 268, 0, 0)]
def bk_101_268 : List mIns := [(.istore 6, 6, 0, 0), (.iinc 7 1, 7, 0, 1), (.goto (-162), 111, 0, 0)]
def bk_101_276 : List mIns := [(.iload 4, 4, 0, 0), (.aload_n 0, 0, 0, 0), (.iload_n 1, 1, 0, 0), (.iconst 2, 0, 0, 2), (.invokevirtual 19, 72, 3, 0), (.if_icmp .ne 67, 351, 0, 0), (.iload 5, 5, 0, 0), (.aload_n 0, 0, 0, 0), (.iload_n 1, 1, 0, 0), (.iconst 3, 0, 0, 3), (.invokevirtual 19, 72, 3, 0), (.if_icmp .ne 56, 351, 0, 0), (.iload 6, 6, 0, 0), (.aload_n 0, 0, 0, 0), (.iload_n 1, 1, 0, 0), (.iconst 5, 0, 0, 5), (.invokevirtual 19, 72, 3, 0), (.if_icmp .ne 45, 351, 0, 0), (.aload_n 0, 0, 0, 0), (.iload_n 1, 1, 0, 0), (.bipush 6, 0, 0, 6), (.invokevirtual 19, 72, 3, 0), (.aload_n 0, 0, 0, 0), (.iload_n 1, 1, 0, 0), (.iload 6, 6, 0, 0), (.iconst 0, 0, 0, 0), (.invokevirtual 25, 73, 4, 0), (.sipush 1000, 0, 0, 1000), (.imul, 0, 0, 0), (.aload_n 0, 0, 0, 0), (.iload_n 1, 1, 0, 0), (.iload 6, 6, 0, 0), (.iconst 1, 0, 0, 1), (.invokevirtual 25, 73, 4, 0), (.idiv, 0, 0, 0), (.if_icmp .ne 14, 351, 0, 0), (.aload_n 0, 0, 0, 0), (.iload_n 1, 1, 0, 0), (.iload_n 3, 3, 0, 0), (.iconst 0, 0, 0, 0), (.invokevirtual 25, 73, 4, 0), (.iconst (-1), 0, 0, (-1)), (.if_icmp .eq 5, 353, 0, 0), (.nop, 351, 0, 0)]
def bk_101_351 : List mIns := [(.iconst 0, 0, 0, 0), (.ireturn, 0, 0, 1)]
def bk_101_353 : List mIns := [(.iconst 0, 0, 0, 0), (.istore 7, 7, 0, 0), (.bipush 99, 0, 0, 99), (.istore 8, 8, 0, 0), (.iconst 0, 0, 0, 0), (.istore 9, 9, 0, 0), (.nop, 363, 0, 0)]
def bk_101_363 : List mIns := [(.iload 9, 9, 0, 0), (.iconst 3, 0, 0, 3), (.if_icmp .ge 279, 645, 0, 0), (.iload 9, 9, 0, 0), (.iconst 2, 0, 0, 2), (.if_icmp .ne 67, 439, 0, 0), (.aload_n 0, 0, 0, 0), (.iload_n 1, 1, 0, 0), (.iconst 1, 0, 0, 1), (.invokevirtual 19, 72, 3, 0), (.ifCond .ne 58, 439, 0, 0), (.aload_n 0, 0, 0, 0), (.iload_n 1, 1, 0, 0), (.invokevirtual 66, 76, 2, 0), (.iload 7, 7, 0, 0), (.if_icmp .ne 46, 437, 0, 0), (.aload_n 0, 0, 0, 0), (.iload_n 1, 1, 0, 0), (.iconst 2, 0, 0, 2), (.iconst 0, 0, 0, 0), (.invokevirtual 72, 75, 4, 0), (.bipush (-4), 0, 0, (-4)), (.if_icmp .ne 34, 437, 0, 0), (.iload_n 2, 2, 0, 0), (.ifCond .eq 15, 422, 0, 0), (.aload_n 0, 0, 0, 0), (.iload_n 1, 1, 0, 0), (.iconst 2, 0, 0, 2), (.iconst 0, 0, 0, 0), (.invokevirtual 63, 74, 4, 0), (.bipush (-4), 0, 0, (-4)), (.if_icmp .ne 18, 437, 0, 0), (.nop, 422, 0, 0)]
def bk_101_422 : List mIns := [(.aload_n 0, 0, 0, 0), (.iload_n 1, 1, 0, 0), (.iconst 2, 0, 0, 2), (.invokevirtual 81, 65, 3, 0), (.bipush (-4), 0, 0, (-4)), (.if_icmp .ne 7, 437, 0, 0), (.iconst 1, 0, 0, 1), (.goto 4, 438, 0, 0)]
def bk_101_437 : List mIns := [(.iconst 0, 0, 0, 0), (.nop, 438, 0, 0)]
def bk_101_438 : List mIns := [(.ireturn, 0, 0, 1)]
def bk_101_439 : List mIns := [(.iconst 0, 0, 0, 0), (.istore 10, 10, 0, 0), (.iconst 0, 0, 0, 0), (.istore 11, 11, 0, 0), (.bipush (-5), 0, 0, (-5)), (.istore 12, 12, 0, 0), (.iconst 0, 0, 0, 0), (.istore 13, 13, 0, 0), (.nop, 452, 0, 0)]
def bk_101_452 : List mIns := [(.iload 13, 13, 0, 0), (.iload_n 2, 2, 0, 0), (.if_icmp .ge 98, 553, 0, 0), (.aload_n 0, 0, 0, 0), (.iload_n 1, 1, 0, 0), (.iload 9, 9, 0, 0), (.iload 13, 13, 0, 0), (.invokevirtual 63, 74, 4, 0), (.istore 14, 14, 0, 0), (.iload 10, 10, 0, 0), (.iload 14, 14, 0, 0), (.bipush 63, 0, 0, 63), (.if_icmp .eq 22, 497, 0, 0), (.iload 14, 14, 0, 0), (.aload_n 0, 0, 0, 0), (.iload_n 1, 1, 0, 0), (.iconst 1, 0, 0, 1), (.iload 13, 13, 0, 0), (.iadd, 0, 0, 0), (.iconst 2, 0, 0, 2), (.invokevirtual 25, 73, 4, 0), (.if_icmp .eq 7, 497, 0, 0), (.iconst 1, 0, 0, 1), (.goto 4, 498, 0, 0)]
def bk_101_497 : List mIns := [(.iconst 0, 0, 0, 0), (.nop, 498, 0, 0)]
def bk_101_498 : List mIns := [(.iadd, 0, 0, 0), (.istore 10, 10, 0, 0), (.iload 11, 11, 0, 0), (.iload 14, 14, 0, 0), (.bipush 63, 0, 0, 63), (.if_icmp .ne 7, 514, 0, 0), (.iconst 1, 0, 0, 1), (.goto 4, 515, 0, 0)]
def bk_101_514 : List mIns := [(.iconst 0, 0, 0, 0), (.nop, 515, 0, 0)]
def bk_101_515 : List mIns := [(.iadd, 0, 0, 0), (.istore 11, 11, 0, 0), (.iload 12, 12, 0, 0), (.ifCond .ge 23, 543, 0, 0), (.iload 14, 14, 0, 0), (.aload_n 0, 0, 0, 0), (.iload_n 1, 1, 0, 0), (.iconst 1, 0, 0, 1), (.iload 13, 13, 0, 0), (.iadd, 0, 0, 0), (.iconst 2, 0, 0, 2), (.invokevirtual 25, 73, 4, 0), (.if_icmp .eq 8, 543, 0, 0), (.iload 13, 13, 0, 0), (.goto 5, 545, 0, 0)]
def bk_101_543 : List mIns := [(.iload 12, 12, 0, 0), (.nop, 545, 0, 0)]
def bk_101_545 : List mIns := [(.istore 12, 12, 0, 0), (.iinc 13 1, 13, 0, 1), (.goto (-98), 452, 0, 0)]
def bk_101_553 : List mIns := [(.aload_n 0, 0, 0, 0), (.iload_n 1, 1, 0, 0), (.iload 9, 9, 0, 0), (.iconst 0, 0, 0, 0), (.invokevirtual 72, 75, 4, 0), (.iload 10, 10, 0, 0), (.if_icmp .ne 53, 616, 0, 0), (.aload_n 0, 0, 0, 0), (.iload_n 1, 1, 0, 0), (.iload 9, 9, 0, 0), (.iconst 1, 0, 0, 1), (.invokevirtual 72, 75, 4, 0), (.iload 11, 11, 0, 0), (.if_icmp .ne 40, 616, 0, 0), (.aload_n 0, 0, 0, 0), (.iload_n 1, 1, 0, 0), (.iload 9, 9, 0, 0), (.iconst 2, 0, 0, 2), (.invokevirtual 72, 75, 4, 0), (.iload 12, 12, 0, 0), (.if_icmp .ne 27, 616, 0, 0), (.iload 9, 9, 0, 0), (.iconst 2, 0, 0, 2), (.if_icmp .ge 23, 618, 0, 0), (.aload_n 0, 0, 0, 0), (.iload_n 1, 1, 0, 0), (.iload 9, 9, 0, 0), (.bipush 9, 0, 0, 9), (.iconst 0, 0, 0, 0), (.invokevirtual 84, 77, 5, 0), (.iload 10, 10, 0, 0), (.iload 11, 11, 0, 0), (.iadd, 0, 0, 0), (.if_icmp .eq 5, 618, 0, 0), (.nop, 616, 0, 0)]
def bk_101_616 : List mIns := [(.iconst 0, 0, 0, 0), (.ireturn, 0, 0, 1)]
def bk_101_618 : List mIns := [(.iload 10, 10, 0, 0), (.iload 11, 11, 0, 0), (.iadd, 0, 0, 0), (.iload 8, 8, 0, 0), (.if_icmp .ge 14, 639, 0, 0), (.iload 9, 9, 0, 0), (.istore 7, 7, 0, 0), (.iload 10, 10, 0, 0), (.iload 11, 11, 0, 0), (.iadd, 0, 0, 0), (.istore 8, 8, 0, 0), (.nop, 639, 0, 0)]
def bk_101_639 : List mIns := [(.iinc 9 1, 9, 0, 1), (.goto (-279), 363, 0, 0)]
def bk_101_645 : List mIns := [(.aload_n 0, 0, 0, 0), (.iload_n 1, 1, 0, 0), (.invokevirtual 66, 76, 2, 0), (.iload 7, 7, 0, 0), (.if_icmp .ne 7, 659, 0, 0), (.iconst 1, 0, 0, 1), (.goto 4, 660, 0, 0)]
def bk_101_659 : List mIns := [(.iconst 0, 0, 0, 0), (.nop, 660, 0, 0)]
def bk_101_660 : List mIns := [(.ireturn, 0, 0, 1)]
def bk_102_0 : List mIns := [(.iload_n 2, 2, 0, 0), (.bipush 10, 0, 0, 10), (.invokestatic 50, 95, 2, 0), (.istore 4, 4, 0, 0), (.iconst 1, 0, 0, 1), (.iload_n 2, 2, 0, 0), (.iconst 4, 0, 0, 4), (.ishr, 0, 0, 0), (.bipush 6, 0, 0, 6), (.invokestatic 50, 95, 2, 0), (.iadd, 0, 0, 0), (.istore 5, 5, 0, 0), (.iload_n 2, 2, 0, 0), (.bipush 9, 0, 0, 9), (.ishr, 0, 0, 0), (.iconst 1, 0, 0, 1), (.iand, 0, 0, 0), (.istore 6, 6, 0, 0), (.aload_n 0, 0, 0, 0), (.iconst 2, 0, 0, 2), (.invokevirtual 13, 80, 2, 0), (.istore 7, 7, 0, 0), (.aload_n 0, 0, 0, 0), (.iconst 4, 0, 0, 4), (.invokevirtual 13, 80, 2, 0), (.istore 8, 8, 0, 0), (.aload_n 0, 0, 0, 0), (.iconst 5, 0, 0, 5), (.invokevirtual 13, 80, 2, 0), (.istore 9, 9, 0, 0), (.aload_n 0, 0, 0, 0), (.iload_n 1, 1, 0, 0), (.iconst 4, 0, 0, 4), (.invokevirtual 19, 72, 3, 0), (.istore 10, 10, 0, 0), (.aload_n 0, 0, 0, 0), (.iload_n 1, 1, 0, 0), (.iload 6, 6, 0, 0), (.iload 4, 4, 0, 0), (.iload 5, 5, 0, 0), (.invokevirtual 84, 77, 5, 0), (.istore 11, 11, 0, 0), (.aload_n 0, 0, 0, 0), (.iload_n 1, 1, 0, 0), (.iload 6, 6, 0, 0), (.iload 4, 4, 0, 0), (.invokevirtual 88, 78, 4, 0), (.istore 12, 12, 0, 0), (.aload_n 0, 0, 0, 0), (.bipush 6, 0, 0, 6), (.invokevirtual 13, 80, 2, 0), (.istore 13, 13, 0, 0), (.aload_n 0, 0, 0, 0), (.iload_n 1, 1, 0, 0), (.iconst 0, 0, 0, 0), (.invokevirtual 19, 72, 3, 0), (.istore 14, 14, 0, 0), (.aload_n 0, 0, 0, 0), (.iload_n 1, 1, 0, 0), (.iload 4, 4, 0, 0), (.iload 5, 5, 0, 0), (.invokevirtual 75, 61, 4, 0), (.istore 15, 15, 0, 0), (.aload_n 0, 0, 0, 0), (.iconst 5, 0, 0, 5), (.invokevirtual 13, 80, 2, 0), (.iload 9, 9, 0, 0), (.if_icmp .le 7, 122, 0, 0), (.iconst 1, 0, 0, 1), (.goto 4, 123, 0, 0)]
def bk_102_122 : List mIns := [(.iconst 0, 0, 0, 0), (.nop, 123, 0, 0)]
def bk_102_123 : List mIns := [(.istore 16, 16, 0, 0), (.iload 15, 15, 0, 0), (.iconst 1, 0, 0, 1), (.if_icmp .lt 78, 206, 0, 0), (.iload 15, 15, 0, 0), (.iload 5, 5, 0, 0), (.if_icmp .gt 71, 206, 0, 0), (.iload 16, 16, 0, 0), (.ifCond .ne 10, 150, 0, 0), (.iload 15, 15, 0, 0), (.iload 5, 5, 0, 0), (.if_icmp .ne 59, 206, 0, 0), (.nop, 150, 0, 0)]
def bk_102_150 : List mIns := [(.aload_n 0, 0, 0, 0), (.iconst 4, 0, 0, 4), (.invokevirtual 13, 80, 2, 0), (.iload 8, 8, 0, 0), (.iload 15, 15, 0, 0), (.iadd, 0, 0, 0), (.if_icmp .ne 46, 206, 0, 0), (.aload_n 0, 0, 0, 0), (.iconst 2, 0, 0, 2), (.invokevirtual 13, 80, 2, 0), (.iload 7, 7, 0, 0), (.bipush 10, 0, 0, 10), (.iload 4, 4, 0, 0), (.isub, 0, 0, 0), (.iload 15, 15, 0, 0), (.imul, 0, 0, 0), (.iadd, 0, 0, 0), (.if_icmp .ne 27, 206, 0, 0), (.aload_n 0, 0, 0, 0), (.iconst 5, 0, 0, 5), (.invokevirtual 13, 80, 2, 0), (.iload 9, 9, 0, 0), (.iconst 1, 0, 0, 1), (.iadd, 0, 0, 0), (.if_icmp .gt 15, 206, 0, 0), (.iload 12, 12, 0, 0), (.iload 15, 15, 0, 0), (.if_icmp .lt 10, 208, 0, 0), (.iload 16, 16, 0, 0), (.ifCond .eq 5, 208, 0, 0), (.nop, 206, 0, 0)]
def bk_102_206 : List mIns := [(.iconst 0, 0, 0, 0), (.ireturn, 0, 0, 1)]
def bk_102_208 : List mIns := [(.aload_n 0, 0, 0, 0), (.iconst 0, 0, 0, 0), (.iconst 0, 0, 0, 0), (.invokevirtual 33, 79, 3, 0), (.iload 16, 16, 0, 0), (.ifCond .eq 7, 223, 0, 0), (.iconst 2, 0, 0, 2), (.goto 4, 224, 0, 0)]
def bk_102_223 : List mIns := [(.iconst 1, 0, 0, 1), (.nop, 224, 0, 0)]
def bk_102_224 : List mIns := [(.if_icmp .ne 23, 247, 0, 0), (.aload_n 0, 0, 0, 0), (.iload 16, 16, 0, 0), (.ifCond .eq 7, 237, 0, 0), (.iconst 1, 0, 0, 1), (.goto 4, 238, 0, 0)]
def bk_102_237 : List mIns := [(.iconst 0, 0, 0, 0), (.nop, 238, 0, 0)]
def bk_102_238 : List mIns := [(.iconst 2, 0, 0, 2), (.invokevirtual 33, 79, 3, 0), (.iload 4, 4, 0, 0), (.if_icmp .eq 5, 249, 0, 0), (.nop, 247, 0, 0)]
def bk_102_247 : List mIns := [(.iconst 0, 0, 0, 0), (.ireturn, 0, 0, 1)]
def bk_102_249 : List mIns := [(.aload_n 0, 0, 0, 0), (.iload_n 1, 1, 0, 0), (.iconst 0, 0, 0, 0), (.invokevirtual 19, 72, 3, 0), (.istore 17, 17, 0, 0), (.aload_n 0, 0, 0, 0), (.bipush 6, 0, 0, 6), (.invokevirtual 13, 80, 2, 0), (.iload 13, 13, 0, 0), (.isub, 0, 0, 0), (.istore 18, 18, 0, 0), (.iload 17, 17, 0, 0), (.ifCond .ge 28, 298, 0, 0), (.iload 16, 16, 0, 0), (.ifCond .eq 21, 296, 0, 0), (.iload 18, 18, 0, 0), (.iload 14, 14, 0, 0), (.if_icmp .ne 14, 296, 0, 0), (.iload 11, 11, 0, 0), (.iload 14, 14, 0, 0), (.if_icmp .ne 7, 296, 0, 0), (.iconst 1, 0, 0, 1), (.goto 4, 297, 0, 0)]
def bk_102_296 : List mIns := [(.iconst 0, 0, 0, 0), (.nop, 297, 0, 0)]
def bk_102_297 : List mIns := [(.ireturn, 0, 0, 1)]
def bk_102_298 : List mIns := [(.iload 17, 17, 0, 0), (.iload 18, 18, 0, 0), (.iadd, 0, 0, 0), (.iload 14, 14, 0, 0), (.if_icmp .ne 60, 365, 0, 0), (.iload 11, 11, 0, 0), (.iload 18, 18, 0, 0), (.aload_n 0, 0, 0, 0), (.iload_n 1, 1, 0, 0), (.iload 6, 6, 0, 0), (.iconst 0, 0, 0, 0), (.invokevirtual 72, 75, 4, 0), (.iadd, 0, 0, 0), (.aload_n 0, 0, 0, 0), (.iload_n 1, 1, 0, 0), (.iload 6, 6, 0, 0), (.iconst 1, 0, 0, 1), (.invokevirtual 72, 75, 4, 0), (.iadd, 0, 0, 0), (.if_icmp .ne 35, 365, 0, 0), (.aload_n 0, 0, 0, 0), (.iload_n 1, 1, 0, 0), (.iconst 4, 0, 0, 4), (.invokevirtual 19, 72, 3, 0), (.iload 10, 10, 0, 0), (.iload 15, 15, 0, 0), (.iadd, 0, 0, 0), (.if_icmp .ne 21, 365, 0, 0), (.iload 16, 16, 0, 0), (.ifCond .eq 12, 361, 0, 0), (.aload_n 0, 0, 0, 0), (.iload_n 1, 1, 0, 0), (.iconst 1, 0, 0, 1), (.invokevirtual 19, 72, 3, 0), (.ifCond .ne 7, 365, 0, 0), (.nop, 361, 0, 0)]
def bk_102_361 : List mIns := [(.iconst 1, 0, 0, 1), (.goto 4, 366, 0, 0)]
def bk_102_365 : List mIns := [(.iconst 0, 0, 0, 0), (.nop, 366, 0, 0)]
def bk_102_366 : List mIns := [(.ireturn, 0, 0, 1)]
def bk_103_0 : List mIns := [(.aload_n 0, 0, 0, 0), (.iload_n 1, 1, 0, 0), (.iconst 0, 0, 0, 0), (.invokevirtual 19, 72, 3, 0), (.istore_n 3, 3, 0, 0), (.aload_n 0, 0, 0, 0), (.iload_n 1, 1, 0, 0), (.iconst 1, 0, 0, 1), (.invokevirtual 19, 72, 3, 0), (.istore 4, 4, 0, 0), (.aload_n 0, 0, 0, 0), (.iconst 0, 0, 0, 0), (.invokevirtual 13, 80, 2, 0), (.istore 5, 5, 0, 0), (.aload_n 0, 0, 0, 0), (.iconst 3, 0, 0, 3), (.invokevirtual 13, 80, 2, 0), (.istore 6, 6, 0, 0), (.iload_n 2, 2, 0, 0), (.iload_n 3, 3, 0, 0), (.iconst 1, 0, 0, 1), (.iadd, 0, 0, 0), (.invokestatic 50, 95, 2, 0), (.istore 7, 7, 0, 0), (.aload_n 0, 0, 0, 0), (.iload_n 1, 1, 0, 0), (.iconst 2, 0, 0, 2), (.invokevirtual 19, 72, 3, 0), (.istore 8, 8, 0, 0), (.aload_n 0, 0, 0, 0), (.iload_n 1, 1, 0, 0), (.iload 7, 7, 0, 0), (.invokevirtual 78, 62, 3, 0), (.istore 9, 9, 0, 0), (.iload 7, 7, 0, 0), (.iload_n 3, 3, 0, 0), (.if_icmp .eq 10, 68, 0, 0), (.iload 5, 5, 0, 0), (.bipush 6, 0, 0, 6), (.if_icmp .ne 36, 101, 0, 0), (.nop, 68, 0, 0)]
def bk_103_68 : List mIns := [(.iload 9, 9, 0, 0), (.iload 7, 7, 0, 0), (.iload_n 3, 3, 0, 0), (.if_icmp .ne 7, 80, 0, 0), (.iconst (-1), 0, 0, (-1)), (.goto 5, 82, 0, 0)]
def bk_103_80 : List mIns := [(.bipush (-3), 0, 0, (-3)), (.nop, 82, 0, 0)]
def bk_103_82 : List mIns := [(.if_icmp .ne 17, 99, 0, 0), (.aload_n 0, 0, 0, 0), (.iconst 3, 0, 0, 3), (.invokevirtual 13, 80, 2, 0), (.iload 6, 6, 0, 0), (.if_icmp .ne 7, 99, 0, 0), (.iconst 1, 0, 0, 1), (.goto 4, 100, 0, 0)]
def bk_103_99 : List mIns := [(.iconst 0, 0, 0, 0), (.nop, 100, 0, 0)]
def bk_103_100 : List mIns := [(.ireturn, 0, 0, 1)]
def bk_103_101 : List mIns := [(.iload 9, 9, 0, 0), (.ifCond .lt 129, 232, 0, 0), (.iload 9, 9, 0, 0), (.iload_n 1, 1, 0, 0), (.if_icmp .eq 123, 232, 0, 0), (.aload_n 0, 0, 0, 0), (.iconst 0, 0, 0, 0), (.invokevirtual 13, 80, 2, 0), (.iload 5, 5, 0, 0), (.iconst 1, 0, 0, 1), (.iadd, 0, 0, 0), (.if_icmp .ne 111, 232, 0, 0), (.aload_n 0, 0, 0, 0), (.iconst 3, 0, 0, 3), (.invokevirtual 13, 80, 2, 0), (.iload 6, 6, 0, 0), (.sipush 5000, 0, 0, 5000), (.iadd, 0, 0, 0), (.if_icmp .ne 97, 232, 0, 0), (.aload_n 0, 0, 0, 0), (.iload_n 1, 1, 0, 0), (.iconst 0, 0, 0, 0), (.invokevirtual 19, 72, 3, 0), (.iload 7, 7, 0, 0), (.if_icmp .ne 86, 232, 0, 0), (.aload_n 0, 0, 0, 0), (.iload 9, 9, 0, 0), (.iconst 0, 0, 0, 0), (.invokevirtual 19, 72, 3, 0), (.iload_n 3, 3, 0, 0), (.iload 7, 7, 0, 0), (.isub, 0, 0, 0), (.if_icmp .ne 72, 232, 0, 0), (.aload_n 0, 0, 0, 0), (.iload_n 1, 1, 0, 0), (.iconst 1, 0, 0, 1), (.invokevirtual 19, 72, 3, 0), (.ifCond .ne 63, 232, 0, 0), (.aload_n 0, 0, 0, 0), (.iload 9, 9, 0, 0), (.iconst 1, 0, 0, 1), (.invokevirtual 19, 72, 3, 0), (.iload 4, 4, 0, 0), (.if_icmp .ne 51, 232, 0, 0), (.aload_n 0, 0, 0, 0), (.iload 9, 9, 0, 0), (.iconst 4, 0, 0, 4), (.invokevirtual 19, 72, 3, 0), (.ifCond .ne 41, 232, 0, 0), (.aload_n 0, 0, 0, 0), (.iload_n 1, 1, 0, 0), (.iconst 2, 0, 0, 2), (.invokevirtual 19, 72, 3, 0), (.aload_n 0, 0, 0, 0), (.iload 9, 9, 0, 0), (.iconst 2, 0, 0, 2), (.invokevirtual 19, 72, 3, 0), (.iadd, 0, 0, 0), (.iload 8, 8, 0, 0), (.sipush 5000, 0, 0, 5000), (.iadd, 0, 0, 0), (.if_icmp .ne 18, 232, 0, 0), (.aload_n 0, 0, 0, 0), (.iconst 0, 0, 0, 0), (.iconst 2, 0, 0, 2), (.invokevirtual 33, 79, 3, 0), (.iload 9, 9, 0, 0), (.if_icmp .ne 7, 232, 0, 0), (.iconst 1, 0, 0, 1), (.goto 4, 233, 0, 0)]
def bk_103_232 : List mIns := [(.iconst 0, 0, 0, 0), (.nop, 233, 0, 0)]
def bk_103_233 : List mIns := [(.ireturn, 0, 0, 1)]
def bk_104_0 : List mIns := [(.iload_n 2, 2, 0, 0), (.bipush 6, 0, 0, 6), (.invokestatic 50, 95, 2, 0), (.istore_n 3, 3, 0, 0), (.aload_n 0, 0, 0, 0), (.iload_n 1, 1, 0, 0), (.iconst 0, 0, 0, 0), (.invokevirtual 19, 72, 3, 0), (.istore 4, 4, 0, 0), (.aload_n 0, 0, 0, 0), (.iload_n 3, 3, 0, 0), (.iconst 0, 0, 0, 0), (.invokevirtual 19, 72, 3, 0), (.istore 5, 5, 0, 0), (.aload_n 0, 0, 0, 0), (.iload_n 3, 3, 0, 0), (.iconst 1, 0, 0, 1), (.invokevirtual 19, 72, 3, 0), (.istore 6, 6, 0, 0), (.aload_n 0, 0, 0, 0), (.iconst 0, 0, 0, 0), (.invokevirtual 13, 80, 2, 0), (.istore 7, 7, 0, 0), (.aload_n 0, 0, 0, 0), (.iconst 3, 0, 0, 3), (.invokevirtual 13, 80, 2, 0), (.istore 8, 8, 0, 0), (.aload_n 0, 0, 0, 0), (.iload_n 1, 1, 0, 0), (.iload_n 3, 3, 0, 0), (.invokevirtual 91, 63, 3, 0), (.istore 9, 9, 0, 0), (.iload_n 3, 3, 0, 0), (.iload_n 1, 1, 0, 0), (.if_icmp .ne 16, 71, 0, 0), (.iload 9, 9, 0, 0), (.bipush (-2), 0, 0, (-2)), (.if_icmp .ne 7, 69, 0, 0), (.iconst 1, 0, 0, 1), (.goto 4, 70, 0, 0)]
def bk_104_69 : List mIns := [(.iconst 0, 0, 0, 0), (.nop, 70, 0, 0)]
def bk_104_70 : List mIns := [(.ireturn, 0, 0, 1)]
def bk_104_71 : List mIns := [(.iload 4, 4, 0, 0), (.ifCond .lt 8, 81, 0, 0), (.iload 5, 5, 0, 0), (.ifCond .ge 16, 94, 0, 0), (.nop, 81, 0, 0)]
def bk_104_81 : List mIns := [(.iload 9, 9, 0, 0), (.bipush (-4), 0, 0, (-4)), (.if_icmp .ne 7, 92, 0, 0), (.iconst 1, 0, 0, 1), (.goto 4, 93, 0, 0)]
def bk_104_92 : List mIns := [(.iconst 0, 0, 0, 0), (.nop, 93, 0, 0)]
def bk_104_93 : List mIns := [(.ireturn, 0, 0, 1)]
def bk_104_94 : List mIns := [(.iload 4, 4, 0, 0), (.iload 5, 5, 0, 0), (.iadd, 0, 0, 0), (.bipush 30, 0, 0, 30), (.if_icmp .le 26, 127, 0, 0), (.iload 9, 9, 0, 0), (.bipush (-3), 0, 0, (-3)), (.if_icmp .ne 17, 125, 0, 0), (.aload_n 0, 0, 0, 0), (.iconst 0, 0, 0, 0), (.invokevirtual 13, 80, 2, 0), (.iload 7, 7, 0, 0), (.if_icmp .ne 7, 125, 0, 0), (.iconst 1, 0, 0, 1), (.goto 4, 126, 0, 0)]
def bk_104_125 : List mIns := [(.iconst 0, 0, 0, 0), (.nop, 126, 0, 0)]
def bk_104_126 : List mIns := [(.ireturn, 0, 0, 1)]
def bk_104_127 : List mIns := [(.iload 9, 9, 0, 0), (.iload 4, 4, 0, 0), (.iload 5, 5, 0, 0), (.iadd, 0, 0, 0), (.if_icmp .ne 71, 205, 0, 0), (.aload_n 0, 0, 0, 0), (.iconst 0, 0, 0, 0), (.invokevirtual 13, 80, 2, 0), (.iload 7, 7, 0, 0), (.iconst 1, 0, 0, 1), (.isub, 0, 0, 0), (.if_icmp .ne 59, 205, 0, 0), (.aload_n 0, 0, 0, 0), (.iload_n 1, 1, 0, 0), (.iconst 1, 0, 0, 1), (.invokevirtual 19, 72, 3, 0), (.iload 6, 6, 0, 0), (.if_icmp .ne 48, 205, 0, 0), (.aload_n 0, 0, 0, 0), (.iload_n 3, 3, 0, 0), (.iconst 0, 0, 0, 0), (.invokevirtual 19, 72, 3, 0), (.bipush (-4), 0, 0, (-4)), (.if_icmp .ne 37, 205, 0, 0), (.aload_n 0, 0, 0, 0), (.iconst 3, 0, 0, 3), (.invokevirtual 13, 80, 2, 0), (.iload 8, 8, 0, 0), (.if_icmp .ne 27, 205, 0, 0), (.aload_n 0, 0, 0, 0), (.iconst 0, 0, 0, 0), (.iconst 0, 0, 0, 0), (.invokevirtual 33, 79, 3, 0), (.iconst 4, 0, 0, 4), (.if_icmp .ne 17, 205, 0, 0), (.aload_n 0, 0, 0, 0), (.iconst 0, 0, 0, 0), (.iconst 1, 0, 0, 1), (.invokevirtual 33, 79, 3, 0), (.iload_n 1, 1, 0, 0), (.if_icmp .ne 7, 205, 0, 0), (.iconst 1, 0, 0, 1), (.goto 4, 206, 0, 0)]
def bk_104_205 : List mIns := [(.iconst 0, 0, 0, 0), (.nop, 206, 0, 0)]
def bk_104_206 : List mIns := [(.ireturn, 0, 0, 1)]
def bk_105_0 : List mIns := [(.aload_n 0, 0, 0, 0), (.iconst 3, 0, 0, 3), (.invokevirtual 13, 80, 2, 0), (.istore_n 3, 3, 0, 0), (.iload_n 2, 2, 0, 0), (.iconst 1, 0, 0, 1), (.iand, 0, 0, 0), (.ifCond .ne 86, 95, 0, 0), (.aload_n 0, 0, 0, 0), (.iload_n 1, 1, 0, 0), (.iconst 1, 0, 0, 1), (.invokevirtual 19, 72, 3, 0), (.iconst 1, 0, 0, 1), (.if_icmp .ne 7, 26, 0, 0), (.iconst 1, 0, 0, 1), (.goto 4, 27, 0, 0)]
def bk_105_26 : List mIns := [(.iconst 0, 0, 0, 0), (.nop, 27, 0, 0)]
def bk_105_27 : List mIns := [(.istore 4, 4, 0, 0), (.aload_n 0, 0, 0, 0), (.iload_n 1, 1, 0, 0), (.invokevirtual 69, 64, 2, 0), (.istore 5, 5, 0, 0), (.iload 5, 5, 0, 0), (.iload 4, 4, 0, 0), (.ifCond .eq 8, 48, 0, 0), (.bipush (-5), 0, 0, (-5)), (.goto 9, 54, 0, 0)]
def bk_105_48 : List mIns := [(.aload_n 0, 0, 0, 0), (.iload_n 1, 1, 0, 0), (.iconst 0, 0, 0, 0), (.invokevirtual 19, 72, 3, 0), (.nop, 54, 0, 0)]
def bk_105_54 : List mIns := [(.if_icmp .ne 39, 93, 0, 0), (.aload_n 0, 0, 0, 0), (.iload_n 1, 1, 0, 0), (.iconst 1, 0, 0, 1), (.invokevirtual 19, 72, 3, 0), (.iconst 1, 0, 0, 1), (.if_icmp .ne 29, 93, 0, 0), (.aload_n 0, 0, 0, 0), (.iconst 3, 0, 0, 3), (.invokevirtual 13, 80, 2, 0), (.iload_n 3, 3, 0, 0), (.iload 4, 4, 0, 0), (.ifCond .eq 7, 82, 0, 0), (.iconst 0, 0, 0, 0), (.goto 6, 85, 0, 0)]
def bk_105_82 : List mIns := [(.sipush 5000, 0, 0, 5000), (.nop, 85, 0, 0)]
def bk_105_85 : List mIns := [(.iadd, 0, 0, 0), (.if_icmp .ne 7, 93, 0, 0), (.iconst 1, 0, 0, 1), (.goto 4, 94, 0, 0)]
def bk_105_93 : List mIns := [(.iconst 0, 0, 0, 0), (.nop, 94, 0, 0)]
def bk_105_94 : List mIns := [(.ireturn, 0, 0, 1)]
def bk_105_95 : List mIns := [(.iload_n 2, 2, 0, 0), (.iconst 1, 0, 0, 1), (.ishr, 0, 0, 0), (.iconst 3, 0, 0, 3), (.invokestatic 50, 95, 2, 0), (.istore 4, 4, 0, 0), (.iload 4, 4, 0, 0), (.iconst 2, 0, 0, 2), (.if_icmp .ne 12, 119, 0, 0), (.aload_n 0, 0, 0, 0), (.iload_n 1, 1, 0, 0), (.iconst 1, 0, 0, 1), (.invokevirtual 19, 72, 3, 0), (.ifCond .eq 14, 130, 0, 0), (.nop, 119, 0, 0)]
def bk_105_119 : List mIns := [(.aload_n 0, 0, 0, 0), (.iload_n 1, 1, 0, 0), (.iload 4, 4, 0, 0), (.iconst 1, 0, 0, 1), (.invokevirtual 72, 75, 4, 0), (.ifCond .le 7, 134, 0, 0), (.nop, 130, 0, 0)]
def bk_105_130 : List mIns := [(.iconst 1, 0, 0, 1), (.goto 4, 135, 0, 0)]
def bk_105_134 : List mIns := [(.iconst 0, 0, 0, 0), (.nop, 135, 0, 0)]
def bk_105_135 : List mIns := [(.istore 5, 5, 0, 0), (.aload_n 0, 0, 0, 0), (.iload_n 1, 1, 0, 0), (.iload 4, 4, 0, 0), (.iconst 0, 0, 0, 0), (.invokevirtual 72, 75, 4, 0), (.istore 6, 6, 0, 0), (.aload_n 0, 0, 0, 0), (.iload_n 1, 1, 0, 0), (.iload 4, 4, 0, 0), (.invokevirtual 81, 65, 3, 0), (.istore 7, 7, 0, 0), (.iload 5, 5, 0, 0), (.ifCond .eq 25, 183, 0, 0), (.iload 7, 7, 0, 0), (.bipush (-4), 0, 0, (-4)), (.if_icmp .ne 16, 181, 0, 0), (.aload_n 0, 0, 0, 0), (.iconst 3, 0, 0, 3), (.invokevirtual 13, 80, 2, 0), (.iload_n 3, 3, 0, 0), (.if_icmp .ne 7, 181, 0, 0), (.iconst 1, 0, 0, 1), (.goto 4, 182, 0, 0)]
def bk_105_181 : List mIns := [(.iconst 0, 0, 0, 0), (.nop, 182, 0, 0)]
def bk_105_182 : List mIns := [(.ireturn, 0, 0, 1)]
def bk_105_183 : List mIns := [(.iload 7, 7, 0, 0), (.iload 6, 6, 0, 0), (.if_icmp .ne 67, 254, 0, 0), (.aload_n 0, 0, 0, 0), (.iload_n 1, 1, 0, 0), (.iconst 0, 0, 0, 0), (.iconst 0, 0, 0, 0), (.invokevirtual 72, 75, 4, 0), (.iload 6, 6, 0, 0), (.if_icmp .ne 55, 254, 0, 0), (.aload_n 0, 0, 0, 0), (.iload_n 1, 1, 0, 0), (.iconst 0, 0, 0, 0), (.iconst 1, 0, 0, 1), (.invokevirtual 72, 75, 4, 0), (.ifCond .ne 45, 254, 0, 0), (.aload_n 0, 0, 0, 0), (.iload_n 1, 1, 0, 0), (.bipush 6, 0, 0, 6), (.invokevirtual 19, 72, 3, 0), (.sipush 1000, 0, 0, 1000), (.if_icmp .ne 32, 254, 0, 0), (.aload_n 0, 0, 0, 0), (.iconst 3, 0, 0, 3), (.invokevirtual 13, 80, 2, 0), (.iload_n 3, 3, 0, 0), (.aload_n 0, 0, 0, 0), (.iload_n 1, 1, 0, 0), (.iconst 3, 0, 0, 3), (.invokevirtual 19, 72, 3, 0), (.iadd, 0, 0, 0), (.if_icmp .ne 16, 254, 0, 0), (.aload_n 0, 0, 0, 0), (.iload_n 1, 1, 0, 0), (.iconst 4, 0, 0, 4), (.invokevirtual 19, 72, 3, 0), (.ifCond .ne 7, 254, 0, 0), (.iconst 1, 0, 0, 1), (.goto 4, 255, 0, 0)]
def bk_105_254 : List mIns := [(.iconst 0, 0, 0, 0), (.nop, 255, 0, 0)]
def bk_105_255 : List mIns := [(.ireturn, 0, 0, 1)]
def bk_106_0 : List mIns := [(.iload_n 1, 1, 0, 0), (.iconst 1, 0, 0, 1), (.iand, 0, 0, 0), (.ifCond .ne 76, 79, 0, 0), (.aload_n 0, 0, 0, 0), (.bipush 7, 0, 0, 7), (.invokevirtual 13, 80, 2, 0), (.istore_n 3, 3, 0, 0), (.iload_n 2, 2, 0, 0), (.iconst 4, 0, 0, 4), (.invokestatic 50, 95, 2, 0), (.istore 4, 4, 0, 0), (.aload_n 0, 0, 0, 0), (.iload 4, 4, 0, 0), (.invokevirtual 94, 59, 2, 0), (.iload 4, 4, 0, 0), (.iconst 3, 0, 0, 3), (.if_icmp .ne 8, 37, 0, 0), (.bipush (-2), 0, 0, (-2)), (.goto 15, 49, 0, 0)]
def bk_106_37 : List mIns := [(.iload 4, 4, 0, 0), (.iload_n 3, 3, 0, 0), (.if_icmp .ne 8, 48, 0, 0), (.bipush (-5), 0, 0, (-5)), (.goto 4, 49, 0, 0)]
def bk_106_48 : List mIns := [(.iload_n 3, 3, 0, 0), (.nop, 49, 0, 0)]
def bk_106_49 : List mIns := [(.if_icmp .ne 28, 77, 0, 0), (.aload_n 0, 0, 0, 0), (.bipush 7, 0, 0, 7), (.invokevirtual 13, 80, 2, 0), (.iload 4, 4, 0, 0), (.iconst 3, 0, 0, 3), (.if_icmp .ne 7, 68, 0, 0), (.iload_n 3, 3, 0, 0), (.goto 5, 70, 0, 0)]
def bk_106_68 : List mIns := [(.iload 4, 4, 0, 0), (.nop, 70, 0, 0)]
def bk_106_70 : List mIns := [(.if_icmp .ne 7, 77, 0, 0), (.iconst 1, 0, 0, 1), (.goto 4, 78, 0, 0)]
def bk_106_77 : List mIns := [(.iconst 0, 0, 0, 0), (.nop, 78, 0, 0)]
def bk_106_78 : List mIns := [(.ireturn, 0, 0, 1)]
def bk_106_79 : List mIns := [(.aload_n 0, 0, 0, 0), (.bipush 8, 0, 0, 8), (.invokevirtual 13, 80, 2, 0), (.istore_n 3, 3, 0, 0), (.bipush 100, 0, 0, 100), (.iload_n 2, 2, 0, 0), (.bipush 102, 0, 0, 102), (.invokestatic 50, 95, 2, 0), (.iadd, 0, 0, 0), (.istore 4, 4, 0, 0), (.iload 4, 4, 0, 0), (.bipush 100, 0, 0, 100), (.if_icmp .eq 11, 112, 0, 0), (.iload 4, 4, 0, 0), (.sipush 201, 0, 0, 201), (.if_icmp .ne 7, 116, 0, 0), (.nop, 112, 0, 0)]
def bk_106_112 : List mIns := [(.iconst 1, 0, 0, 1), (.goto 4, 117, 0, 0)]
def bk_106_116 : List mIns := [(.iconst 0, 0, 0, 0), (.nop, 117, 0, 0)]
def bk_106_117 : List mIns := [(.istore 5, 5, 0, 0), (.aload_n 0, 0, 0, 0), (.iload 4, 4, 0, 0), (.invokevirtual 97, 60, 2, 0), (.iload 5, 5, 0, 0), (.ifCond .eq 8, 135, 0, 0), (.bipush (-2), 0, 0, (-2)), (.goto 15, 147, 0, 0)]
def bk_106_135 : List mIns := [(.iload 4, 4, 0, 0), (.iload_n 3, 3, 0, 0), (.if_icmp .ne 8, 146, 0, 0), (.bipush (-5), 0, 0, (-5)), (.goto 4, 147, 0, 0)]
def bk_106_146 : List mIns := [(.iload_n 3, 3, 0, 0), (.nop, 147, 0, 0)]
def bk_106_147 : List mIns := [(.if_icmp .ne 27, 174, 0, 0), (.aload_n 0, 0, 0, 0), (.bipush 8, 0, 0, 8), (.invokevirtual 13, 80, 2, 0), (.iload 5, 5, 0, 0), (.ifCond .eq 7, 165, 0, 0), (.iload_n 3, 3, 0, 0), (.goto 5, 167, 0, 0)]
def bk_106_165 : List mIns := [(.iload 4, 4, 0, 0), (.nop, 167, 0, 0)]
def bk_106_167 : List mIns := [(.if_icmp .ne 7, 174, 0, 0), (.iconst 1, 0, 0, 1), (.goto 4, 175, 0, 0)]
def bk_106_174 : List mIns := [(.iconst 0, 0, 0, 0), (.nop, 175, 0, 0)]
def bk_106_175 : List mIns := [(.ireturn, 0, 0, 1)]
def bk_107_0 : List mIns := [(.new 14, 7, 9, 0), (.dup, 0, 0, 0), (.invokespecial 100, 58, 1, 1), (.astore_n 1, 1, 0, 0), (.aload_n 1, 1, 0, 0), (.invokevirtual 101, 70, 1, 0), (.bipush (-5), 0, 0, (-5)), (.if_icmp .ne 63, 77, 0, 0), (.aload_n 1, 1, 0, 0), (.invokevirtual 104, 71, 1, 0), (.bipush (-5), 0, 0, (-5)), (.if_icmp .ne 54, 77, 0, 0), (.aload_n 1, 1, 0, 0), (.invokevirtual 60, 68, 1, 0), (.bipush (-100), 0, 0, (-100)), (.if_icmp .ne 45, 77, 0, 0), (.aload_n 1, 1, 0, 0), (.bipush 8, 0, 0, 8), (.invokevirtual 13, 80, 2, 0), (.sipush 130, 0, 0, 130), (.if_icmp .ne 33, 77, 0, 0), (.aload_n 1, 1, 0, 0), (.iconst 0, 0, 0, 0), (.iconst 0, 0, 0, 0), (.invokevirtual 33, 79, 3, 0), (.bipush (-5), 0, 0, (-5)), (.if_icmp .ne 22, 77, 0, 0), (.aload_n 1, 1, 0, 0), (.bipush 6, 0, 0, 6), (.iconst 0, 0, 0, 0), (.invokevirtual 19, 72, 3, 0), (.iconst (-1), 0, 0, (-1)), (.if_icmp .ne 11, 77, 0, 0), (.aload_n 1, 1, 0, 0), (.iconst 0, 0, 0, 0), (.invokevirtual 13, 80, 2, 0), (.ifCond .eq 5, 79, 0, 0), (.nop, 77, 0, 0)]
def bk_107_77 : List mIns := [(.iconst 0, 0, 0, 0), (.ireturn, 0, 0, 1)]
def bk_107_79 : List mIns := [(.iconst 0, 0, 0, 0), (.istore_n 2, 2, 0, 0), (.nop, 81, 0, 0)]
def bk_107_81 : List mIns := [(.iload_n 2, 2, 0, 0), (.bipush 20, 0, 0, 20), (.if_icmp .ge 398, 482, 0, 0), (.aload_n 0, 0, 0, 0), (.iconst 2, 0, 0, 2), (.iload_n 2, 2, 0, 0), (.imul, 0, 0, 0), (.invokestatic 107, 94, 2, 0), (.istore_n 3, 3, 0, 0), (.aload_n 0, 0, 0, 0), (.iconst 2, 0, 0, 2), (.iload_n 2, 2, 0, 0), (.imul, 0, 0, 0), (.iconst 1, 0, 0, 1), (.iadd, 0, 0, 0), (.invokestatic 107, 94, 2, 0), (.istore 4, 4, 0, 0), (.iload_n 3, 3, 0, 0), (.bipush 7, 0, 0, 7), (.ishr, 0, 0, 0), (.bipush 6, 0, 0, 6), (.invokestatic 50, 95, 2, 0), (.istore 5, 5, 0, 0), (.iload_n 3, 3, 0, 0), (.bipush 11, 0, 0, 11), (.ishr, 0, 0, 0), (.bipush 11, 0, 0, 11), (.invokestatic 50, 95, 2, 0), (.istore 6, 6, 0, 0), (.aload_n 1, 1, 0, 0), (.iload 5, 5, 0, 0), (.iconst 0, 0, 0, 0), (.invokevirtual 19, 72, 3, 0), (.bipush (-4), 0, 0, (-4)), (.if_icmp .ne 7, 144, 0, 0), (.iconst 1, 0, 0, 1), (.goto 4, 145, 0, 0)]
def bk_107_144 : List mIns := [(.iconst 0, 0, 0, 0), (.nop, 145, 0, 0)]
def bk_107_145 : List mIns := [(.istore 7, 7, 0, 0), (.aload_n 1, 1, 0, 0), (.bipush 9, 0, 0, 9), (.invokevirtual 13, 80, 2, 0), (.istore 8, 8, 0, 0), (.aload_n 1, 1, 0, 0), (.invokestatic 111, 96, 1, 0), (.lstore 9, 9, 0, 0), (.iload 7, 7, 0, 0), (.ifCond .ne 8, 171, 0, 0), (.iload 6, 6, 0, 0), (.ifCond .ne 17, 185, 0, 0), (.nop, 171, 0, 0)]
def bk_107_171 : List mIns := [(.aload_n 1, 1, 0, 0), (.iload 5, 5, 0, 0), (.iload_n 3, 3, 0, 0), (.iload 4, 4, 0, 0), (.invokestatic 115, 100, 4, 0), (.istore 11, 11, 0, 0), (.goto 105, 287, 0, 0)]
def bk_107_185 : List mIns := [(.iload 6, 6, 0, 0), (.iconst 5, 0, 0, 5), (.if_icmp .ge 17, 205, 0, 0), (.aload_n 1, 1, 0, 0), (.iload 5, 5, 0, 0), (.iload_n 3, 3, 0, 0), (.iload 4, 4, 0, 0), (.invokestatic 119, 102, 4, 0), (.istore 11, 11, 0, 0), (.goto 85, 287, 0, 0)]
def bk_107_205 : List mIns := [(.iload 6, 6, 0, 0), (.iconst 5, 0, 0, 5), (.if_icmp .ne 16, 224, 0, 0), (.aload_n 1, 1, 0, 0), (.iload 5, 5, 0, 0), (.iload 4, 4, 0, 0), (.invokestatic 122, 103, 3, 0), (.istore 11, 11, 0, 0), (.goto 66, 287, 0, 0)]
def bk_107_224 : List mIns := [(.iload 6, 6, 0, 0), (.bipush 6, 0, 0, 6), (.if_icmp .eq 10, 238, 0, 0), (.iload 6, 6, 0, 0), (.bipush 7, 0, 0, 7), (.if_icmp .ne 16, 251, 0, 0), (.nop, 238, 0, 0)]
def bk_107_238 : List mIns := [(.aload_n 1, 1, 0, 0), (.iload 5, 5, 0, 0), (.iload 4, 4, 0, 0), (.invokestatic 126, 104, 3, 0), (.istore 11, 11, 0, 0), (.goto 39, 287, 0, 0)]
def bk_107_251 : List mIns := [(.iload 6, 6, 0, 0), (.bipush 8, 0, 0, 8), (.if_icmp .eq 10, 265, 0, 0), (.iload 6, 6, 0, 0), (.bipush 9, 0, 0, 9), (.if_icmp .ne 16, 278, 0, 0), (.nop, 265, 0, 0)]
def bk_107_265 : List mIns := [(.aload_n 1, 1, 0, 0), (.iload 5, 5, 0, 0), (.iload 4, 4, 0, 0), (.invokestatic 129, 105, 3, 0), (.istore 11, 11, 0, 0), (.goto 12, 287, 0, 0)]
def bk_107_278 : List mIns := [(.aload_n 1, 1, 0, 0), (.iload_n 3, 3, 0, 0), (.iload 4, 4, 0, 0), (.invokestatic 132, 106, 3, 0), (.istore 11, 11, 0, 0), (.nop, 287, 0, 0)]
def bk_107_287 : List mIns := [(.iload 8, 8, 0, 0), (.iconst 4, 0, 0, 4), (.if_icmp .ne 7, 297, 0, 0), (.iconst 3, 0, 0, 3), (.goto 5, 299, 0, 0)]
def bk_107_297 : List mIns := [(.iload 8, 8, 0, 0), (.nop, 299, 0, 0)]
def bk_107_299 : List mIns := [(.istore 12, 12, 0, 0), (.iload 11, 11, 0, 0), (.ifCond .eq 65, 368, 0, 0), (.iload 4, 4, 0, 0), (.sipush 3072, 0, 0, 3072), (.iand, 0, 0, 0), (.ifCond .ne 56, 368, 0, 0), (.aload_n 1, 1, 0, 0), (.bipush 9, 0, 0, 9), (.invokevirtual 13, 80, 2, 0), (.iload 8, 8, 0, 0), (.if_icmp .ne 19, 342, 0, 0), (.iload 8, 8, 0, 0), (.iconst 4, 0, 0, 4), (.if_icmp .ne 39, 368, 0, 0), (.aload_n 1, 1, 0, 0), (.invokestatic 111, 96, 1, 0), (.lload 9, 9, 0, 0), (.lcmp, 0, 0, 0), (.ifCond .eq 29, 368, 0, 0), (.nop, 342, 0, 0)]
def bk_107_342 : List mIns := [(.aload_n 1, 1, 0, 0), (.invokevirtual 101, 70, 1, 0), (.iload 12, 12, 0, 0), (.if_icmp .ne 17, 365, 0, 0), (.aload_n 1, 1, 0, 0), (.invokestatic 111, 96, 1, 0), (.lload 9, 9, 0, 0), (.lcmp, 0, 0, 0), (.ifCond .ne 7, 365, 0, 0), (.iconst 1, 0, 0, 1), (.goto 4, 366, 0, 0)]
def bk_107_365 : List mIns := [(.iconst 0, 0, 0, 0), (.nop, 366, 0, 0)]
def bk_107_366 : List mIns := [(.istore 11, 11, 0, 0), (.nop, 368, 0, 0)]
def bk_107_368 : List mIns := [(.iload 11, 11, 0, 0), (.ifCond .ne 5, 375, 0, 0), (.iconst 0, 0, 0, 0), (.ireturn, 0, 0, 1)]
def bk_107_375 : List mIns := [(.iconst 0, 0, 0, 0), (.istore 13, 13, 0, 0), (.iconst 0, 0, 0, 0), (.istore 14, 14, 0, 0), (.iconst 0, 0, 0, 0), (.istore 15, 15, 0, 0), (.nop, 384, 0, 0)]
def bk_107_384 : List mIns := [(.iload 15, 15, 0, 0), (.bipush 6, 0, 0, 6), (.if_icmp .ge 66, 454, 0, 0), (.aload_n 1, 1, 0, 0), (.iload 15, 15, 0, 0), (.invokestatic 135, 101, 2, 0), (.ifCond .ne 5, 402, 0, 0), (.iconst 0, 0, 0, 0), (.ireturn, 0, 0, 1)]
def bk_107_402 : List mIns := [(.iload 13, 13, 0, 0), (.aload_n 1, 1, 0, 0), (.iload 15, 15, 0, 0), (.iconst 0, 0, 0, 0), (.invokevirtual 19, 72, 3, 0), (.ifCond .ge 7, 418, 0, 0), (.iconst 0, 0, 0, 0), (.goto 10, 425, 0, 0)]
def bk_107_418 : List mIns := [(.aload_n 1, 1, 0, 0), (.iload 15, 15, 0, 0), (.iconst 0, 0, 0, 0), (.invokevirtual 19, 72, 3, 0), (.nop, 425, 0, 0)]
def bk_107_425 : List mIns := [(.iadd, 0, 0, 0), (.istore 13, 13, 0, 0), (.iload 14, 14, 0, 0), (.aload_n 1, 1, 0, 0), (.iload 15, 15, 0, 0), (.iconst 0, 0, 0, 0), (.invokevirtual 19, 72, 3, 0), (.ifCond .ge 7, 444, 0, 0), (.iconst 0, 0, 0, 0), (.goto 4, 445, 0, 0)]
def bk_107_444 : List mIns := [(.iconst 1, 0, 0, 1), (.nop, 445, 0, 0)]
def bk_107_445 : List mIns := [(.iadd, 0, 0, 0), (.istore 14, 14, 0, 0), (.iinc 15 1, 15, 0, 1), (.goto (-67), 384, 0, 0)]
def bk_107_454 : List mIns := [(.aload_n 1, 1, 0, 0), (.iconst 0, 0, 0, 0), (.invokevirtual 13, 80, 2, 0), (.iload 14, 14, 0, 0), (.if_icmp .ne 13, 474, 0, 0), (.aload_n 1, 1, 0, 0), (.iconst 1, 0, 0, 1), (.invokevirtual 13, 80, 2, 0), (.iload 13, 13, 0, 0), (.if_icmp .eq 5, 476, 0, 0), (.nop, 474, 0, 0)]
def bk_107_474 : List mIns := [(.iconst 0, 0, 0, 0), (.ireturn, 0, 0, 1)]
def bk_107_476 : List mIns := [(.iinc 2 1, 2, 0, 1), (.goto (-398), 81, 0, 0)]
def bk_107_482 : List mIns := [(.iconst 1, 0, 0, 1), (.ireturn, 0, 0, 1)]
def bl_0 : List (Nat × List mIns) := [(0, bk_0_0)]
def bl_1 : List (Nat × List mIns) := [(0, bk_1_0), (53, bk_1_53), (78, bk_1_78), (95, bk_1_95), (123, bk_1_123)]
def bl_2 : List (Nat × List mIns) := [(0, bk_2_0), (2, bk_2_2), (29, bk_2_29)]
def bl_3 : List (Nat × List mIns) := [(0, bk_3_0), (12, bk_3_12), (24, bk_3_24), (36, bk_3_36), (48, bk_3_48), (60, bk_3_60), (75, bk_3_75), (76, bk_3_76)]
def bl_4 : List (Nat × List mIns) := [(0, bk_4_0), (15, bk_4_15), (43, bk_4_43), (114, bk_4_114)]
def bl_5 : List (Nat × List mIns) := [(0, bk_5_0), (14, bk_5_14), (22, bk_5_22), (62, bk_5_62), (81, bk_5_81)]
def bl_6 : List (Nat × List mIns) := [(0, bk_6_0), (9, bk_6_9), (31, bk_6_31)]
def bl_7 : List (Nat × List mIns) := [(0, bk_7_0), (14, bk_7_14), (15, bk_7_15)]
def bl_8 : List (Nat × List mIns) := [(0, bk_8_0), (19, bk_8_19), (43, bk_8_43)]
def bl_9 : List (Nat × List mIns) := [(0, bk_9_0), (12, bk_9_12)]
def bl_10 : List (Nat × List mIns) := [(0, bk_10_0), (9, bk_10_9), (34, bk_10_34)]
def bl_11 : List (Nat × List mIns) := [(0, bk_11_0), (9, bk_11_9)]
def bl_12 : List (Nat × List mIns) := [(0, bk_12_0)]
def bl_13 : List (Nat × List mIns) := [(0, bk_13_0)]
def bl_14 : List (Nat × List mIns) := [(0, bk_14_0), (13, bk_14_13)]
def bl_15 : List (Nat × List mIns) := [(0, bk_15_0)]
def bl_16 : List (Nat × List mIns) := [(0, bk_16_0), (12, bk_16_12), (15, bk_16_15), (35, bk_16_35), (49, bk_16_49), (55, bk_16_55)]
def bl_17 : List (Nat × List mIns) := [(0, bk_17_0)]
def bl_18 : List (Nat × List mIns) := [(0, bk_18_0), (25, bk_18_25), (64, bk_18_64), (99, bk_18_99), (131, bk_18_131)]
def bl_19 : List (Nat × List mIns) := [(0, bk_19_0), (26, bk_19_26), (28, bk_19_28)]
def bl_20 : List (Nat × List mIns) := [(0, bk_20_0), (6, bk_20_6), (33, bk_20_33), (34, bk_20_34)]
def bl_21 : List (Nat × List mIns) := [(0, bk_21_0), (6, bk_21_6), (24, bk_21_24), (34, bk_21_34), (47, bk_21_47)]
def bl_22 : List (Nat × List mIns) := [(0, bk_22_0)]
def bl_23 : List (Nat × List mIns) := [(0, bk_23_0), (2, bk_23_2), (30, bk_23_30), (36, bk_23_36)]
def bl_24 : List (Nat × List mIns) := [(0, bk_24_0), (63, bk_24_63), (88, bk_24_88)]
def bl_25 : List (Nat × List mIns) := [(0, bk_25_0), (2, bk_25_2), (29, bk_25_29)]
def bl_26 : List (Nat × List mIns) := [(0, bk_26_0), (4, bk_26_4), (25, bk_26_25), (31, bk_26_31)]
def bl_27 : List (Nat × List mIns) := [(0, bk_27_0), (4, bk_27_4), (28, bk_27_28)]
def bl_28 : List (Nat × List mIns) := [(0, bk_28_0), (2, bk_28_2), (22, bk_28_22), (28, bk_28_28)]
def bl_29 : List (Nat × List mIns) := [(0, bk_29_0), (3, bk_29_3), (93, bk_29_93), (99, bk_29_99)]
def bl_30 : List (Nat × List mIns) := [(0, bk_30_0)]
def bl_31 : List (Nat × List mIns) := [(0, bk_31_0)]
def bl_32 : List (Nat × List mIns) := [(0, bk_32_0), (11, bk_32_11)]
def bl_33 : List (Nat × List mIns) := [(0, bk_33_0), (12, bk_33_12), (14, bk_33_14)]
def bl_34 : List (Nat × List mIns) := [(0, bk_34_0), (10, bk_34_10), (12, bk_34_12), (32, bk_34_32), (38, bk_34_38)]
def bl_35 : List (Nat × List mIns) := [(0, bk_35_0)]
def bl_36 : List (Nat × List mIns) := [(0, bk_36_0)]
def bl_37 : List (Nat × List mIns) := [(0, bk_37_0), (9, bk_37_9), (25, bk_37_25), (31, bk_37_31)]
def bl_38 : List (Nat × List mIns) := [(0, bk_38_0), (16, bk_38_16), (17, bk_38_17)]
def bl_39 : List (Nat × List mIns) := [(0, bk_39_0), (16, bk_39_16), (17, bk_39_17)]
def bl_40 : List (Nat × List mIns) := [(0, bk_40_0), (19, bk_40_19), (23, bk_40_23), (24, bk_40_24)]
def bl_41 : List (Nat × List mIns) := [(0, bk_41_0)]
def bl_42 : List (Nat × List mIns) := [(0, bk_42_0)]
def bl_43 : List (Nat × List mIns) := [(0, bk_43_0), (32, bk_43_32)]
def bl_44 : List (Nat × List mIns) := [(0, bk_44_0)]
def bl_45 : List (Nat × List mIns) := [(0, bk_45_0), (10, bk_45_10), (11, bk_45_11)]
def bl_46 : List (Nat × List mIns) := [(0, bk_46_0)]
def bl_47 : List (Nat × List mIns) := [(0, bk_47_0)]
def bl_48 : List (Nat × List mIns) := [(0, bk_48_0)]
def bl_49 : List (Nat × List mIns) := [(0, bk_49_0), (18, bk_49_18), (49, bk_49_49)]
def bl_50 : List (Nat × List mIns) := [(0, bk_50_0), (11, bk_50_11), (52, bk_50_52), (63, bk_50_63)]
def bl_51 : List (Nat × List mIns) := [(0, bk_51_0), (12, bk_51_12), (82, bk_51_82), (88, bk_51_88)]
def bl_52 : List (Nat × List mIns) := [(0, bk_52_0), (9, bk_52_9)]
def bl_53 : List (Nat × List mIns) := [(0, bk_53_0)]
def bl_54 : List (Nat × List mIns) := [(0, bk_54_0)]
def bl_55 : List (Nat × List mIns) := [(0, bk_55_0), (10, bk_55_10), (36, bk_55_36)]
def bl_56 : List (Nat × List mIns) := [(0, bk_56_0), (9, bk_56_9), (29, bk_56_29), (35, bk_56_35)]
def bl_57 : List (Nat × List mIns) := [(0, bk_57_0), (17, bk_57_17), (19, bk_57_19)]
def bl_58 : List (Nat × List mIns) := [(0, bk_58_0)]
def bl_59 : List (Nat × List mIns) := [(0, bk_59_0), (9, bk_59_9), (12, bk_59_12), (28, bk_59_28)]
def bl_60 : List (Nat × List mIns) := [(0, bk_60_0), (13, bk_60_13), (16, bk_60_16), (32, bk_60_32)]
def bl_61 : List (Nat × List mIns) := [(0, bk_61_0), (9, bk_61_9), (27, bk_61_27), (30, bk_61_30), (48, bk_61_48)]
def bl_62 : List (Nat × List mIns) := [(0, bk_62_0), (23, bk_62_23), (25, bk_62_25), (43, bk_62_43)]
def bl_63 : List (Nat × List mIns) := [(0, bk_63_0), (14, bk_63_14), (16, bk_63_16), (24, bk_63_24), (60, bk_63_60), (63, bk_63_63), (81, bk_63_81)]
def bl_64 : List (Nat × List mIns) := [(0, bk_64_0), (9, bk_64_9), (29, bk_64_29), (39, bk_64_39)]
def bl_65 : List (Nat × List mIns) := [(0, bk_65_0), (9, bk_65_9), (19, bk_65_19), (40, bk_65_40), (62, bk_65_62)]
def bl_66 : List (Nat × List mIns) := [(0, bk_66_0), (14, bk_66_14)]
def bl_67 : List (Nat × List mIns) := [(0, bk_67_0)]
def bl_68 : List (Nat × List mIns) := [(0, bk_68_0), (33, bk_68_33), (76, bk_68_76), (102, bk_68_102), (122, bk_68_122), (141, bk_68_141), (160, bk_68_160), (172, bk_68_172)]
def bl_69 : List (Nat × List mIns) := [(0, bk_69_0), (9, bk_69_9), (31, bk_69_31), (42, bk_69_42), (61, bk_69_61), (90, bk_69_90)]
def bl_70 : List (Nat × List mIns) := [(0, bk_70_0), (17, bk_70_17)]
def bl_71 : List (Nat × List mIns) := [(0, bk_71_0), (10, bk_71_10)]
def bl_72 : List (Nat × List mIns) := [(0, bk_72_0), (9, bk_72_9), (19, bk_72_19), (22, bk_72_22), (42, bk_72_42), (80, bk_72_80), (85, bk_72_85), (96, bk_72_96), (97, bk_72_97), (98, bk_72_98), (103, bk_72_103), (108, bk_72_108), (113, bk_72_113), (118, bk_72_118)]
def bl_73 : List (Nat × List mIns) := [(0, bk_73_0), (23, bk_73_23), (25, bk_73_25), (68, bk_73_68), (76, bk_73_76), (84, bk_73_84), (100, bk_73_100), (110, bk_73_110), (111, bk_73_111), (130, bk_73_130)]
def bl_74 : List (Nat × List mIns) := [(0, bk_74_0), (23, bk_74_23), (25, bk_74_25), (35, bk_74_35), (58, bk_74_58), (90, bk_74_90), (95, bk_74_95)]
def bl_75 : List (Nat × List mIns) := [(0, bk_75_0), (9, bk_75_9), (25, bk_75_25), (28, bk_75_28), (51, bk_75_51), (73, bk_75_73), (86, bk_75_86), (102, bk_75_102), (109, bk_75_109)]
def bl_76 : List (Nat × List mIns) := [(0, bk_76_0), (9, bk_76_9), (29, bk_76_29), (38, bk_76_38), (87, bk_76_87), (93, bk_76_93)]
def bl_77 : List (Nat × List mIns) := [(0, bk_77_0), (9, bk_77_9), (35, bk_77_35), (38, bk_77_38), (60, bk_77_60), (75, bk_77_75), (129, bk_77_129), (135, bk_77_135)]
def bl_78 : List (Nat × List mIns) := [(0, bk_78_0), (9, bk_78_9), (23, bk_78_23), (26, bk_78_26), (48, bk_78_48), (70, bk_78_70), (106, bk_78_106), (140, bk_78_140), (146, bk_78_146)]
def bl_79 : List (Nat × List mIns) := [(0, bk_79_0), (13, bk_79_13), (16, bk_79_16)]
def bl_80 : List (Nat × List mIns) := [(0, bk_80_0), (60, bk_80_60), (68, bk_80_68), (76, bk_80_76), (84, bk_80_84), (92, bk_80_92), (100, bk_80_100), (108, bk_80_108), (116, bk_80_116), (124, bk_80_124), (132, bk_80_132), (140, bk_80_140), (148, bk_80_148)]
def bl_81 : List (Nat × List mIns) := [(0, bk_81_0), (14, bk_81_14), (15, bk_81_15)]
def bl_82 : List (Nat × List mIns) := [(0, bk_82_0), (14, bk_82_14), (15, bk_82_15)]
def bl_83 : List (Nat × List mIns) := [(0, bk_83_0), (13, bk_83_13), (14, bk_83_14)]
def bl_84 : List (Nat × List mIns) := [(0, bk_84_0), (9, bk_84_9), (13, bk_84_13), (14, bk_84_14)]
def bl_85 : List (Nat × List mIns) := [(0, bk_85_0)]
def bl_86 : List (Nat × List mIns) := [(0, bk_86_0), (15, bk_86_15), (34, bk_86_34)]
def bl_87 : List (Nat × List mIns) := [(0, bk_87_0)]
def bl_88 : List (Nat × List mIns) := [(0, bk_88_0), (16, bk_88_16)]
def bl_89 : List (Nat × List mIns) := [(0, bk_89_0), (13, bk_89_13), (14, bk_89_14)]
def bl_90 : List (Nat × List mIns) := [(0, bk_90_0), (17, bk_90_17), (18, bk_90_18)]
def bl_91 : List (Nat × List mIns) := [(0, bk_91_0)]
def bl_92 : List (Nat × List mIns) := [(0, bk_92_0)]
def bl_93 : List (Nat × List mIns) := [(0, bk_93_0), (9, bk_93_9), (16, bk_93_16)]
def bl_94 : List (Nat × List mIns) := [(0, bk_94_0), (12, bk_94_12), (20, bk_94_20)]
def bl_95 : List (Nat × List mIns) := [(0, bk_95_0)]
def bl_96 : List (Nat × List mIns) := [(0, bk_96_0), (6, bk_96_6), (31, bk_96_31), (33, bk_96_33), (42, bk_96_42), (70, bk_96_70), (73, bk_96_73), (130, bk_96_130), (136, bk_96_136), (138, bk_96_138), (188, bk_96_188)]
def bl_97 : List (Nat × List mIns) := [(0, bk_97_0)]
def bl_98 : List (Nat × List mIns) := [(0, bk_98_0), (37, bk_98_37), (48, bk_98_48)]
def bl_99 : List (Nat × List mIns) := [(0, bk_99_0), (17, bk_99_17)]
def bl_100 : List (Nat × List mIns) := [(0, bk_100_0), (15, bk_100_15), (16, bk_100_16), (39, bk_100_39), (41, bk_100_41), (84, bk_100_84), (133, bk_100_133), (151, bk_100_151), (163, bk_100_163), (165, bk_100_165), (182, bk_100_182), (183, bk_100_183), (184, bk_100_184), (187, bk_100_187), (247, bk_100_247), (249, bk_100_249), (255, bk_100_255), (329, bk_100_329), (330, bk_100_330)]
def bl_101 : List (Nat × List mIns) := [(0, bk_101_0), (86, bk_101_86), (87, bk_101_87), (88, bk_101_88), (111, bk_101_111), (194, bk_101_194), (205, bk_101_205), (226, bk_101_226), (228, bk_101_228), (266, bk_101_266), (268, bk_101_268), (276, bk_101_276), (351, bk_101_351), (353, bk_101_353), (363, bk_101_363), (422, bk_101_422), (437, bk_101_437), (438, bk_101_438), (439, bk_101_439), (452, bk_101_452), (497, bk_101_497), (498, bk_101_498), (514, bk_101_514), (515, bk_101_515), (543, bk_101_543), (545, bk_101_545), (553, bk_101_553), (616, bk_101_616), (618, bk_101_618), (639, bk_101_639), (645, bk_101_645), (659, bk_101_659), (660, bk_101_660)]
def bl_102 : List (Nat × List mIns) := [(0, bk_102_0), (122, bk_102_122), (123, bk_102_123), (150, bk_102_150), (206, bk_102_206), (208, bk_102_208), (223, bk_102_223), (224, bk_102_224), (237, bk_102_237), (238, bk_102_238), (247, bk_102_247), (249, bk_102_249), (296, bk_102_296), (297, bk_102_297), (298, bk_102_298), (361, bk_102_361), (365, bk_102_365), (366, bk_102_366)]
def bl_103 : List (Nat × List mIns) := [(0, bk_103_0), (68, bk_103_68), (80, bk_103_80), (82, bk_103_82), (99, bk_103_99), (100, bk_103_100), (101, bk_103_101), (232, bk_103_232), (233, bk_103_233)]
def bl_104 : List (Nat × List mIns) := [(0, bk_104_0), (69, bk_104_69), (70, bk_104_70), (71, bk_104_71), (81, bk_104_81), (92, bk_104_92), (93, bk_104_93), (94, bk_104_94), (125, bk_104_125), (126, bk_104_126), (127, bk_104_127), (205, bk_104_205), (206, bk_104_206)]
def bl_105 : List (Nat × List mIns) := [(0, bk_105_0), (26, bk_105_26), (27, bk_105_27), (48, bk_105_48), (54, bk_105_54), (82, bk_105_82), (85, bk_105_85), (93, bk_105_93), (94, bk_105_94), (95, bk_105_95), (119, bk_105_119), (130, bk_105_130), (134, bk_105_134), (135, bk_105_135), (181, bk_105_181), (182, bk_105_182), (183, bk_105_183), (254, bk_105_254), (255, bk_105_255)]
def bl_106 : List (Nat × List mIns) := [(0, bk_106_0), (37, bk_106_37), (48, bk_106_48), (49, bk_106_49), (68, bk_106_68), (70, bk_106_70), (77, bk_106_77), (78, bk_106_78), (79, bk_106_79), (112, bk_106_112), (116, bk_106_116), (117, bk_106_117), (135, bk_106_135), (146, bk_106_146), (147, bk_106_147), (165, bk_106_165), (167, bk_106_167), (174, bk_106_174), (175, bk_106_175)]
def bl_107 : List (Nat × List mIns) := [(0, bk_107_0), (77, bk_107_77), (79, bk_107_79), (81, bk_107_81), (144, bk_107_144), (145, bk_107_145), (171, bk_107_171), (185, bk_107_185), (205, bk_107_205), (224, bk_107_224), (238, bk_107_238), (251, bk_107_251), (265, bk_107_265), (278, bk_107_278), (287, bk_107_287), (297, bk_107_297), (299, bk_107_299), (342, bk_107_342), (365, bk_107_365), (366, bk_107_366), (368, bk_107_368), (375, bk_107_375), (384, bk_107_384), (402, bk_107_402), (418, bk_107_418), (425, bk_107_425), (444, bk_107_444), (445, bk_107_445), (454, bk_107_454), (474, bk_107_474), (476, bk_107_476), (482, bk_107_482)]
def mBL : List (List (Nat × List mIns)) := [bl_0, bl_1, bl_2, bl_3, bl_4, bl_5, bl_6, bl_7, bl_8, bl_9, bl_10, bl_11, bl_12, bl_13, bl_14, bl_15, bl_16, bl_17, bl_18, bl_19, bl_20, bl_21, bl_22, bl_23, bl_24, bl_25, bl_26, bl_27, bl_28, bl_29, bl_30, bl_31, bl_32, bl_33, bl_34, bl_35, bl_36, bl_37, bl_38, bl_39, bl_40, bl_41, bl_42, bl_43, bl_44, bl_45, bl_46, bl_47, bl_48, bl_49, bl_50, bl_51, bl_52, bl_53, bl_54, bl_55, bl_56, bl_57, bl_58, bl_59, bl_60, bl_61, bl_62, bl_63, bl_64, bl_65, bl_66, bl_67, bl_68, bl_69, bl_70, bl_71, bl_72, bl_73, bl_74, bl_75, bl_76, bl_77, bl_78, bl_79, bl_80, bl_81, bl_82, bl_83, bl_84, bl_85, bl_86, bl_87, bl_88, bl_89, bl_90, bl_91, bl_92, bl_93, bl_94, bl_95, bl_96, bl_97, bl_98, bl_99, bl_100, bl_101, bl_102, bl_103, bl_104, bl_105, bl_106, bl_107]
def mNL : List Nat := [1, 2, 2, 2, 3, 2, 2, 3, 2, 2, 3, 2, 1, 2, 4, 1, 4, 1, 7, 4, 3, 4, 1, 4, 2, 3, 3, 3, 2, 6, 6, 1, 2, 2, 4, 1, 2, 1, 2, 2, 2, 1, 1, 2, 1, 4, 4, 3, 2, 6, 3, 7, 2, 1, 1, 5, 4, 2, 1, 3, 3, 4, 4, 5, 3, 4, 2, 2, 1, 6, 1, 1, 4, 5, 6, 5, 6, 9, 6, 3, 2, 1, 1, 1, 1, 1, 4, 1, 2, 1, 1, 2, 2, 3, 2, 2, 5, 2, 7, 2, 10, 15, 19, 10, 10, 8, 6, 16]
def mRL : List Nat := [0, 0, 0, 0, 0, 0, 0, 0, 1, 1, 1, 1, 2, 2, 2, 2, 2, 3, 3, 3, 3, 3, 3, 3, 4, 4, 4, 4, 4, 4, 4, 5, 5, 5, 5, 6, 6, 6, 6, 6, 6, 6, 6, 6, 6, 6, 6, 6, 6, 6, 6, 6, 6, 6, 6, 6, 6, 6, 7, 7, 7, 7, 7, 7, 7, 7, 7, 7, 7, 7, 7, 7, 7, 7, 7, 7, 7, 7, 7, 7, 7, 7, 7, 7, 7, 7, 7, 10, 10, 10, 10, 10, 11, 12, 9, 9, 9, 9, 9, 9, 9, 9, 9, 9, 9, 9, 9, 9]
def mB (y pc : Nat) : List mIns := ((mBL.getD y []).lookup pc).getD []
def mN (y : Nat) : Nat := mNL.getD y 0
def mRc (y : Nat) : Nat := mRL.getD y 0
theorem B_0_0 : mB 0 0 = bk_0_0 := rfl
theorem N_0 : mN 0 = 1 := rfl
theorem C_0 : mRc 0 = 0 := rfl
theorem B_1_0 : mB 1 0 = bk_1_0 := rfl
theorem B_1_53 : mB 1 53 = bk_1_53 := rfl
theorem B_1_78 : mB 1 78 = bk_1_78 := rfl
theorem B_1_95 : mB 1 95 = bk_1_95 := rfl
theorem B_1_123 : mB 1 123 = bk_1_123 := rfl
theorem N_1 : mN 1 = 2 := rfl
theorem C_1 : mRc 1 = 0 := rfl
theorem B_2_0 : mB 2 0 = bk_2_0 := rfl
theorem B_2_2 : mB 2 2 = bk_2_2 := rfl
theorem B_2_29 : mB 2 29 = bk_2_29 := rfl
theorem N_2 : mN 2 = 2 := rfl
theorem C_2 : mRc 2 = 0 := rfl
theorem B_3_0 : mB 3 0 = bk_3_0 := rfl
theorem B_3_12 : mB 3 12 = bk_3_12 := rfl
theorem B_3_24 : mB 3 24 = bk_3_24 := rfl
theorem B_3_36 : mB 3 36 = bk_3_36 := rfl
theorem B_3_48 : mB 3 48 = bk_3_48 := rfl
theorem B_3_60 : mB 3 60 = bk_3_60 := rfl
theorem B_3_75 : mB 3 75 = bk_3_75 := rfl
theorem B_3_76 : mB 3 76 = bk_3_76 := rfl
theorem N_3 : mN 3 = 2 := rfl
theorem C_3 : mRc 3 = 0 := rfl
theorem B_4_0 : mB 4 0 = bk_4_0 := rfl
theorem B_4_15 : mB 4 15 = bk_4_15 := rfl
theorem B_4_43 : mB 4 43 = bk_4_43 := rfl
theorem B_4_114 : mB 4 114 = bk_4_114 := rfl
theorem N_4 : mN 4 = 3 := rfl
theorem C_4 : mRc 4 = 0 := rfl
theorem B_5_0 : mB 5 0 = bk_5_0 := rfl
theorem B_5_14 : mB 5 14 = bk_5_14 := rfl
theorem B_5_22 : mB 5 22 = bk_5_22 := rfl
theorem B_5_62 : mB 5 62 = bk_5_62 := rfl
theorem B_5_81 : mB 5 81 = bk_5_81 := rfl
theorem N_5 : mN 5 = 2 := rfl
theorem C_5 : mRc 5 = 0 := rfl
theorem B_6_0 : mB 6 0 = bk_6_0 := rfl
theorem B_6_9 : mB 6 9 = bk_6_9 := rfl
theorem B_6_31 : mB 6 31 = bk_6_31 := rfl
theorem N_6 : mN 6 = 2 := rfl
theorem C_6 : mRc 6 = 0 := rfl
theorem B_7_0 : mB 7 0 = bk_7_0 := rfl
theorem B_7_14 : mB 7 14 = bk_7_14 := rfl
theorem B_7_15 : mB 7 15 = bk_7_15 := rfl
theorem N_7 : mN 7 = 3 := rfl
theorem C_7 : mRc 7 = 0 := rfl
theorem B_8_0 : mB 8 0 = bk_8_0 := rfl
theorem B_8_19 : mB 8 19 = bk_8_19 := rfl
theorem B_8_43 : mB 8 43 = bk_8_43 := rfl
theorem N_8 : mN 8 = 2 := rfl
theorem C_8 : mRc 8 = 1 := rfl
theorem B_9_0 : mB 9 0 = bk_9_0 := rfl
theorem B_9_12 : mB 9 12 = bk_9_12 := rfl
theorem N_9 : mN 9 = 2 := rfl
theorem C_9 : mRc 9 = 1 := rfl
theorem B_10_0 : mB 10 0 = bk_10_0 := rfl
theorem B_10_9 : mB 10 9 = bk_10_9 := rfl
theorem B_10_34 : mB 10 34 = bk_10_34 := rfl
theorem N_10 : mN 10 = 3 := rfl
theorem C_10 : mRc 10 = 1 := rfl
theorem B_11_0 : mB 11 0 = bk_11_0 := rfl
theorem B_11_9 : mB 11 9 = bk_11_9 := rfl
theorem N_11 : mN 11 = 2 := rfl
theorem C_11 : mRc 11 = 1 := rfl
theorem B_12_0 : mB 12 0 = bk_12_0 := rfl
theorem N_12 : mN 12 = 1 := rfl
theorem C_12 : mRc 12 = 2 := rfl
theorem B_13_0 : mB 13 0 = bk_13_0 := rfl
theorem N_13 : mN 13 = 2 := rfl
theorem C_13 : mRc 13 = 2 := rfl
theorem B_14_0 : mB 14 0 = bk_14_0 := rfl
theorem B_14_13 : mB 14 13 = bk_14_13 := rfl
theorem N_14 : mN 14 = 4 := rfl
theorem C_14 : mRc 14 = 2 := rfl
theorem B_15_0 : mB 15 0 = bk_15_0 := rfl
theorem N_15 : mN 15 = 1 := rfl
theorem C_15 : mRc 15 = 2 := rfl
theorem B_16_0 : mB 16 0 = bk_16_0 := rfl
theorem B_16_12 : mB 16 12 = bk_16_12 := rfl
theorem B_16_15 : mB 16 15 = bk_16_15 := rfl
theorem B_16_35 : mB 16 35 = bk_16_35 := rfl
theorem B_16_49 : mB 16 49 = bk_16_49 := rfl
theorem B_16_55 : mB 16 55 = bk_16_55 := rfl
theorem N_16 : mN 16 = 4 := rfl
theorem C_16 : mRc 16 = 2 := rfl
theorem B_17_0 : mB 17 0 = bk_17_0 := rfl
theorem N_17 : mN 17 = 1 := rfl
theorem C_17 : mRc 17 = 3 := rfl
theorem B_18_0 : mB 18 0 = bk_18_0 := rfl
theorem B_18_25 : mB 18 25 = bk_18_25 := rfl
theorem B_18_64 : mB 18 64 = bk_18_64 := rfl
theorem B_18_99 : mB 18 99 = bk_18_99 := rfl
theorem B_18_131 : mB 18 131 = bk_18_131 := rfl
theorem N_18 : mN 18 = 7 := rfl
theorem C_18 : mRc 18 = 3 := rfl
theorem B_19_0 : mB 19 0 = bk_19_0 := rfl
theorem B_19_26 : mB 19 26 = bk_19_26 := rfl
theorem B_19_28 : mB 19 28 = bk_19_28 := rfl
theorem N_19 : mN 19 = 4 := rfl
theorem C_19 : mRc 19 = 3 := rfl
theorem B_20_0 : mB 20 0 = bk_20_0 := rfl
theorem B_20_6 : mB 20 6 = bk_20_6 := rfl
theorem B_20_33 : mB 20 33 = bk_20_33 := rfl
theorem B_20_34 : mB 20 34 = bk_20_34 := rfl
theorem N_20 : mN 20 = 3 := rfl
theorem C_20 : mRc 20 = 3 := rfl
theorem B_21_0 : mB 21 0 = bk_21_0 := rfl
theorem B_21_6 : mB 21 6 = bk_21_6 := rfl
theorem B_21_24 : mB 21 24 = bk_21_24 := rfl
theorem B_21_34 : mB 21 34 = bk_21_34 := rfl
theorem B_21_47 : mB 21 47 = bk_21_47 := rfl
theorem N_21 : mN 21 = 4 := rfl
theorem C_21 : mRc 21 = 3 := rfl
theorem B_22_0 : mB 22 0 = bk_22_0 := rfl
theorem N_22 : mN 22 = 1 := rfl
theorem C_22 : mRc 22 = 3 := rfl
theorem B_23_0 : mB 23 0 = bk_23_0 := rfl
theorem B_23_2 : mB 23 2 = bk_23_2 := rfl
theorem B_23_30 : mB 23 30 = bk_23_30 := rfl
theorem B_23_36 : mB 23 36 = bk_23_36 := rfl
theorem N_23 : mN 23 = 4 := rfl
theorem C_23 : mRc 23 = 3 := rfl
theorem B_24_0 : mB 24 0 = bk_24_0 := rfl
theorem B_24_63 : mB 24 63 = bk_24_63 := rfl
theorem B_24_88 : mB 24 88 = bk_24_88 := rfl
theorem N_24 : mN 24 = 2 := rfl
theorem C_24 : mRc 24 = 4 := rfl
theorem B_25_0 : mB 25 0 = bk_25_0 := rfl
theorem B_25_2 : mB 25 2 = bk_25_2 := rfl
theorem B_25_29 : mB 25 29 = bk_25_29 := rfl
theorem N_25 : mN 25 = 3 := rfl
theorem C_25 : mRc 25 = 4 := rfl
theorem B_26_0 : mB 26 0 = bk_26_0 := rfl
theorem B_26_4 : mB 26 4 = bk_26_4 := rfl
theorem B_26_25 : mB 26 25 = bk_26_25 := rfl
theorem B_26_31 : mB 26 31 = bk_26_31 := rfl
theorem N_26 : mN 26 = 3 := rfl
theorem C_26 : mRc 26 = 4 := rfl
theorem B_27_0 : mB 27 0 = bk_27_0 := rfl
theorem B_27_4 : mB 27 4 = bk_27_4 := rfl
theorem B_27_28 : mB 27 28 = bk_27_28 := rfl
theorem N_27 : mN 27 = 3 := rfl
theorem C_27 : mRc 27 = 4 := rfl
theorem B_28_0 : mB 28 0 = bk_28_0 := rfl
theorem B_28_2 : mB 28 2 = bk_28_2 := rfl
theorem B_28_22 : mB 28 22 = bk_28_22 := rfl
theorem B_28_28 : mB 28 28 = bk_28_28 := rfl
theorem N_28 : mN 28 = 2 := rfl
theorem C_28 : mRc 28 = 4 := rfl
theorem B_29_0 : mB 29 0 = bk_29_0 := rfl
theorem B_29_3 : mB 29 3 = bk_29_3 := rfl
theorem B_29_93 : mB 29 93 = bk_29_93 := rfl
theorem B_29_99 : mB 29 99 = bk_29_99 := rfl
theorem N_29 : mN 29 = 6 := rfl
theorem C_29 : mRc 29 = 4 := rfl
theorem B_30_0 : mB 30 0 = bk_30_0 := rfl
theorem N_30 : mN 30 = 6 := rfl
theorem C_30 : mRc 30 = 4 := rfl
theorem B_31_0 : mB 31 0 = bk_31_0 := rfl
theorem N_31 : mN 31 = 1 := rfl
theorem C_31 : mRc 31 = 5 := rfl
theorem B_32_0 : mB 32 0 = bk_32_0 := rfl
theorem B_32_11 : mB 32 11 = bk_32_11 := rfl
theorem N_32 : mN 32 = 2 := rfl
theorem C_32 : mRc 32 = 5 := rfl
theorem B_33_0 : mB 33 0 = bk_33_0 := rfl
theorem B_33_12 : mB 33 12 = bk_33_12 := rfl
theorem B_33_14 : mB 33 14 = bk_33_14 := rfl
theorem N_33 : mN 33 = 2 := rfl
theorem C_33 : mRc 33 = 5 := rfl
theorem B_34_0 : mB 34 0 = bk_34_0 := rfl
theorem B_34_10 : mB 34 10 = bk_34_10 := rfl
theorem B_34_12 : mB 34 12 = bk_34_12 := rfl
theorem B_34_32 : mB 34 32 = bk_34_32 := rfl
theorem B_34_38 : mB 34 38 = bk_34_38 := rfl
theorem N_34 : mN 34 = 4 := rfl
theorem C_34 : mRc 34 = 5 := rfl
theorem B_35_0 : mB 35 0 = bk_35_0 := rfl
theorem N_35 : mN 35 = 1 := rfl
theorem C_35 : mRc 35 = 6 := rfl
theorem B_36_0 : mB 36 0 = bk_36_0 := rfl
theorem N_36 : mN 36 = 2 := rfl
theorem C_36 : mRc 36 = 6 := rfl
theorem B_37_0 : mB 37 0 = bk_37_0 := rfl
theorem B_37_9 : mB 37 9 = bk_37_9 := rfl
theorem B_37_25 : mB 37 25 = bk_37_25 := rfl
theorem B_37_31 : mB 37 31 = bk_37_31 := rfl
theorem N_37 : mN 37 = 1 := rfl
theorem C_37 : mRc 37 = 6 := rfl
theorem B_38_0 : mB 38 0 = bk_38_0 := rfl
theorem B_38_16 : mB 38 16 = bk_38_16 := rfl
theorem B_38_17 : mB 38 17 = bk_38_17 := rfl
theorem N_38 : mN 38 = 2 := rfl
theorem C_38 : mRc 38 = 6 := rfl
theorem B_39_0 : mB 39 0 = bk_39_0 := rfl
theorem B_39_16 : mB 39 16 = bk_39_16 := rfl
theorem B_39_17 : mB 39 17 = bk_39_17 := rfl
theorem N_39 : mN 39 = 2 := rfl
theorem C_39 : mRc 39 = 6 := rfl
theorem B_40_0 : mB 40 0 = bk_40_0 := rfl
theorem B_40_19 : mB 40 19 = bk_40_19 := rfl
theorem B_40_23 : mB 40 23 = bk_40_23 := rfl
theorem B_40_24 : mB 40 24 = bk_40_24 := rfl
theorem N_40 : mN 40 = 2 := rfl
theorem C_40 : mRc 40 = 6 := rfl
theorem B_41_0 : mB 41 0 = bk_41_0 := rfl
theorem N_41 : mN 41 = 1 := rfl
theorem C_41 : mRc 41 = 6 := rfl
theorem B_42_0 : mB 42 0 = bk_42_0 := rfl
theorem N_42 : mN 42 = 1 := rfl
theorem C_42 : mRc 42 = 6 := rfl
theorem B_43_0 : mB 43 0 = bk_43_0 := rfl
theorem B_43_32 : mB 43 32 = bk_43_32 := rfl
theorem N_43 : mN 43 = 2 := rfl
theorem C_43 : mRc 43 = 6 := rfl
theorem B_44_0 : mB 44 0 = bk_44_0 := rfl
theorem N_44 : mN 44 = 1 := rfl
theorem C_44 : mRc 44 = 6 := rfl
theorem B_45_0 : mB 45 0 = bk_45_0 := rfl
theorem B_45_10 : mB 45 10 = bk_45_10 := rfl
theorem B_45_11 : mB 45 11 = bk_45_11 := rfl
theorem N_45 : mN 45 = 4 := rfl
theorem C_45 : mRc 45 = 6 := rfl
theorem B_46_0 : mB 46 0 = bk_46_0 := rfl
theorem N_46 : mN 46 = 4 := rfl
theorem C_46 : mRc 46 = 6 := rfl
theorem B_47_0 : mB 47 0 = bk_47_0 := rfl
theorem N_47 : mN 47 = 3 := rfl
theorem C_47 : mRc 47 = 6 := rfl
theorem B_48_0 : mB 48 0 = bk_48_0 := rfl
theorem N_48 : mN 48 = 2 := rfl
theorem C_48 : mRc 48 = 6 := rfl
theorem B_49_0 : mB 49 0 = bk_49_0 := rfl
theorem B_49_18 : mB 49 18 = bk_49_18 := rfl
theorem B_49_49 : mB 49 49 = bk_49_49 := rfl
theorem N_49 : mN 49 = 6 := rfl
theorem C_49 : mRc 49 = 6 := rfl
theorem B_50_0 : mB 50 0 = bk_50_0 := rfl
theorem B_50_11 : mB 50 11 = bk_50_11 := rfl
theorem B_50_52 : mB 50 52 = bk_50_52 := rfl
theorem B_50_63 : mB 50 63 = bk_50_63 := rfl
theorem N_50 : mN 50 = 3 := rfl
theorem C_50 : mRc 50 = 6 := rfl
theorem B_51_0 : mB 51 0 = bk_51_0 := rfl
theorem B_51_12 : mB 51 12 = bk_51_12 := rfl
theorem B_51_82 : mB 51 82 = bk_51_82 := rfl
theorem B_51_88 : mB 51 88 = bk_51_88 := rfl
theorem N_51 : mN 51 = 7 := rfl
theorem C_51 : mRc 51 = 6 := rfl
theorem B_52_0 : mB 52 0 = bk_52_0 := rfl
theorem B_52_9 : mB 52 9 = bk_52_9 := rfl
theorem N_52 : mN 52 = 2 := rfl
theorem C_52 : mRc 52 = 6 := rfl
theorem B_53_0 : mB 53 0 = bk_53_0 := rfl
theorem N_53 : mN 53 = 1 := rfl
theorem C_53 : mRc 53 = 6 := rfl
theorem B_54_0 : mB 54 0 = bk_54_0 := rfl
theorem N_54 : mN 54 = 1 := rfl
theorem C_54 : mRc 54 = 6 := rfl
theorem B_55_0 : mB 55 0 = bk_55_0 := rfl
theorem B_55_10 : mB 55 10 = bk_55_10 := rfl
theorem B_55_36 : mB 55 36 = bk_55_36 := rfl
theorem N_55 : mN 55 = 5 := rfl
theorem C_55 : mRc 55 = 6 := rfl
theorem B_56_0 : mB 56 0 = bk_56_0 := rfl
theorem B_56_9 : mB 56 9 = bk_56_9 := rfl
theorem B_56_29 : mB 56 29 = bk_56_29 := rfl
theorem B_56_35 : mB 56 35 = bk_56_35 := rfl
theorem N_56 : mN 56 = 4 := rfl
theorem C_56 : mRc 56 = 6 := rfl
theorem B_57_0 : mB 57 0 = bk_57_0 := rfl
theorem B_57_17 : mB 57 17 = bk_57_17 := rfl
theorem B_57_19 : mB 57 19 = bk_57_19 := rfl
theorem N_57 : mN 57 = 2 := rfl
theorem C_57 : mRc 57 = 6 := rfl
theorem B_58_0 : mB 58 0 = bk_58_0 := rfl
theorem N_58 : mN 58 = 1 := rfl
theorem C_58 : mRc 58 = 7 := rfl
theorem B_59_0 : mB 59 0 = bk_59_0 := rfl
theorem B_59_9 : mB 59 9 = bk_59_9 := rfl
theorem B_59_12 : mB 59 12 = bk_59_12 := rfl
theorem B_59_28 : mB 59 28 = bk_59_28 := rfl
theorem N_59 : mN 59 = 3 := rfl
theorem C_59 : mRc 59 = 7 := rfl
theorem B_60_0 : mB 60 0 = bk_60_0 := rfl
theorem B_60_13 : mB 60 13 = bk_60_13 := rfl
theorem B_60_16 : mB 60 16 = bk_60_16 := rfl
theorem B_60_32 : mB 60 32 = bk_60_32 := rfl
theorem N_60 : mN 60 = 3 := rfl
theorem C_60 : mRc 60 = 7 := rfl
theorem B_61_0 : mB 61 0 = bk_61_0 := rfl
theorem B_61_9 : mB 61 9 = bk_61_9 := rfl
theorem B_61_27 : mB 61 27 = bk_61_27 := rfl
theorem B_61_30 : mB 61 30 = bk_61_30 := rfl
theorem B_61_48 : mB 61 48 = bk_61_48 := rfl
theorem N_61 : mN 61 = 4 := rfl
theorem C_61 : mRc 61 = 7 := rfl
theorem B_62_0 : mB 62 0 = bk_62_0 := rfl
theorem B_62_23 : mB 62 23 = bk_62_23 := rfl
theorem B_62_25 : mB 62 25 = bk_62_25 := rfl
theorem B_62_43 : mB 62 43 = bk_62_43 := rfl
theorem N_62 : mN 62 = 4 := rfl
theorem C_62 : mRc 62 = 7 := rfl
theorem B_63_0 : mB 63 0 = bk_63_0 := rfl
theorem B_63_14 : mB 63 14 = bk_63_14 := rfl
theorem B_63_16 : mB 63 16 = bk_63_16 := rfl
theorem B_63_24 : mB 63 24 = bk_63_24 := rfl
theorem B_63_60 : mB 63 60 = bk_63_60 := rfl
theorem B_63_63 : mB 63 63 = bk_63_63 := rfl
theorem B_63_81 : mB 63 81 = bk_63_81 := rfl
theorem N_63 : mN 63 = 5 := rfl
theorem C_63 : mRc 63 = 7 := rfl
theorem B_64_0 : mB 64 0 = bk_64_0 := rfl
theorem B_64_9 : mB 64 9 = bk_64_9 := rfl
theorem B_64_29 : mB 64 29 = bk_64_29 := rfl
theorem B_64_39 : mB 64 39 = bk_64_39 := rfl
theorem N_64 : mN 64 = 3 := rfl
theorem C_64 : mRc 64 = 7 := rfl
theorem B_65_0 : mB 65 0 = bk_65_0 := rfl
theorem B_65_9 : mB 65 9 = bk_65_9 := rfl
theorem B_65_19 : mB 65 19 = bk_65_19 := rfl
theorem B_65_40 : mB 65 40 = bk_65_40 := rfl
theorem B_65_62 : mB 65 62 = bk_65_62 := rfl
theorem N_65 : mN 65 = 4 := rfl
theorem C_65 : mRc 65 = 7 := rfl
theorem B_66_0 : mB 66 0 = bk_66_0 := rfl
theorem B_66_14 : mB 66 14 = bk_66_14 := rfl
theorem N_66 : mN 66 = 2 := rfl
theorem C_66 : mRc 66 = 7 := rfl
theorem B_67_0 : mB 67 0 = bk_67_0 := rfl
theorem N_67 : mN 67 = 2 := rfl
theorem C_67 : mRc 67 = 7 := rfl
theorem B_68_0 : mB 68 0 = bk_68_0 := rfl
theorem B_68_33 : mB 68 33 = bk_68_33 := rfl
theorem B_68_76 : mB 68 76 = bk_68_76 := rfl
theorem B_68_102 : mB 68 102 = bk_68_102 := rfl
theorem B_68_122 : mB 68 122 = bk_68_122 := rfl
theorem B_68_141 : mB 68 141 = bk_68_141 := rfl
theorem B_68_160 : mB 68 160 = bk_68_160 := rfl
theorem B_68_172 : mB 68 172 = bk_68_172 := rfl
theorem N_68 : mN 68 = 1 := rfl
theorem C_68 : mRc 68 = 7 := rfl
theorem B_69_0 : mB 69 0 = bk_69_0 := rfl
theorem B_69_9 : mB 69 9 = bk_69_9 := rfl
theorem B_69_31 : mB 69 31 = bk_69_31 := rfl
theorem B_69_42 : mB 69 42 = bk_69_42 := rfl
theorem B_69_61 : mB 69 61 = bk_69_61 := rfl
theorem B_69_90 : mB 69 90 = bk_69_90 := rfl
theorem N_69 : mN 69 = 6 := rfl
theorem C_69 : mRc 69 = 7 := rfl
theorem B_70_0 : mB 70 0 = bk_70_0 := rfl
theorem B_70_17 : mB 70 17 = bk_70_17 := rfl
theorem N_70 : mN 70 = 1 := rfl
theorem C_70 : mRc 70 = 7 := rfl
theorem B_71_0 : mB 71 0 = bk_71_0 := rfl
theorem B_71_10 : mB 71 10 = bk_71_10 := rfl
theorem N_71 : mN 71 = 1 := rfl
theorem C_71 : mRc 71 = 7 := rfl
theorem B_72_0 : mB 72 0 = bk_72_0 := rfl
theorem B_72_9 : mB 72 9 = bk_72_9 := rfl
theorem B_72_19 : mB 72 19 = bk_72_19 := rfl
theorem B_72_22 : mB 72 22 = bk_72_22 := rfl
theorem B_72_42 : mB 72 42 = bk_72_42 := rfl
theorem B_72_80 : mB 72 80 = bk_72_80 := rfl
theorem B_72_85 : mB 72 85 = bk_72_85 := rfl
theorem B_72_96 : mB 72 96 = bk_72_96 := rfl
theorem B_72_97 : mB 72 97 = bk_72_97 := rfl
theorem B_72_98 : mB 72 98 = bk_72_98 := rfl
theorem B_72_103 : mB 72 103 = bk_72_103 := rfl
theorem B_72_108 : mB 72 108 = bk_72_108 := rfl
theorem B_72_113 : mB 72 113 = bk_72_113 := rfl
theorem B_72_118 : mB 72 118 = bk_72_118 := rfl
theorem N_72 : mN 72 = 4 := rfl
theorem C_72 : mRc 72 = 7 := rfl
theorem B_73_0 : mB 73 0 = bk_73_0 := rfl
theorem B_73_23 : mB 73 23 = bk_73_23 := rfl
theorem B_73_25 : mB 73 25 = bk_73_25 := rfl
theorem B_73_68 : mB 73 68 = bk_73_68 := rfl
theorem B_73_76 : mB 73 76 = bk_73_76 := rfl
theorem B_73_84 : mB 73 84 = bk_73_84 := rfl
theorem B_73_100 : mB 73 100 = bk_73_100 := rfl
theorem B_73_110 : mB 73 110 = bk_73_110 := rfl
theorem B_73_111 : mB 73 111 = bk_73_111 := rfl
theorem B_73_130 : mB 73 130 = bk_73_130 := rfl
theorem N_73 : mN 73 = 5 := rfl
theorem C_73 : mRc 73 = 7 := rfl
theorem B_74_0 : mB 74 0 = bk_74_0 := rfl
theorem B_74_23 : mB 74 23 = bk_74_23 := rfl
theorem B_74_25 : mB 74 25 = bk_74_25 := rfl
theorem B_74_35 : mB 74 35 = bk_74_35 := rfl
theorem B_74_58 : mB 74 58 = bk_74_58 := rfl
theorem B_74_90 : mB 74 90 = bk_74_90 := rfl
theorem B_74_95 : mB 74 95 = bk_74_95 := rfl
theorem N_74 : mN 74 = 6 := rfl
theorem C_74 : mRc 74 = 7 := rfl
theorem B_75_0 : mB 75 0 = bk_75_0 := rfl
theorem B_75_9 : mB 75 9 = bk_75_9 := rfl
theorem B_75_25 : mB 75 25 = bk_75_25 := rfl
theorem B_75_28 : mB 75 28 = bk_75_28 := rfl
theorem B_75_51 : mB 75 51 = bk_75_51 := rfl
theorem B_75_73 : mB 75 73 = bk_75_73 := rfl
theorem B_75_86 : mB 75 86 = bk_75_86 := rfl
theorem B_75_102 : mB 75 102 = bk_75_102 := rfl
theorem B_75_109 : mB 75 109 = bk_75_109 := rfl
theorem N_75 : mN 75 = 5 := rfl
theorem C_75 : mRc 75 = 7 := rfl
theorem B_76_0 : mB 76 0 = bk_76_0 := rfl
theorem B_76_9 : mB 76 9 = bk_76_9 := rfl
theorem B_76_29 : mB 76 29 = bk_76_29 := rfl
theorem B_76_38 : mB 76 38 = bk_76_38 := rfl
theorem B_76_87 : mB 76 87 = bk_76_87 := rfl
theorem B_76_93 : mB 76 93 = bk_76_93 := rfl
theorem N_76 : mN 76 = 6 := rfl
theorem C_76 : mRc 76 = 7 := rfl
theorem B_77_0 : mB 77 0 = bk_77_0 := rfl
theorem B_77_9 : mB 77 9 = bk_77_9 := rfl
theorem B_77_35 : mB 77 35 = bk_77_35 := rfl
theorem B_77_38 : mB 77 38 = bk_77_38 := rfl
theorem B_77_60 : mB 77 60 = bk_77_60 := rfl
theorem B_77_75 : mB 77 75 = bk_77_75 := rfl
theorem B_77_129 : mB 77 129 = bk_77_129 := rfl
theorem B_77_135 : mB 77 135 = bk_77_135 := rfl
theorem N_77 : mN 77 = 9 := rfl
theorem C_77 : mRc 77 = 7 := rfl
theorem B_78_0 : mB 78 0 = bk_78_0 := rfl
theorem B_78_9 : mB 78 9 = bk_78_9 := rfl
theorem B_78_23 : mB 78 23 = bk_78_23 := rfl
theorem B_78_26 : mB 78 26 = bk_78_26 := rfl
theorem B_78_48 : mB 78 48 = bk_78_48 := rfl
theorem B_78_70 : mB 78 70 = bk_78_70 := rfl
theorem B_78_106 : mB 78 106 = bk_78_106 := rfl
theorem B_78_140 : mB 78 140 = bk_78_140 := rfl
theorem B_78_146 : mB 78 146 = bk_78_146 := rfl
theorem N_78 : mN 78 = 6 := rfl
theorem C_78 : mRc 78 = 7 := rfl
theorem B_79_0 : mB 79 0 = bk_79_0 := rfl
theorem B_79_13 : mB 79 13 = bk_79_13 := rfl
theorem B_79_16 : mB 79 16 = bk_79_16 := rfl
theorem N_79 : mN 79 = 3 := rfl
theorem C_79 : mRc 79 = 7 := rfl
theorem B_80_0 : mB 80 0 = bk_80_0 := rfl
theorem B_80_60 : mB 80 60 = bk_80_60 := rfl
theorem B_80_68 : mB 80 68 = bk_80_68 := rfl
theorem B_80_76 : mB 80 76 = bk_80_76 := rfl
theorem B_80_84 : mB 80 84 = bk_80_84 := rfl
theorem B_80_92 : mB 80 92 = bk_80_92 := rfl
theorem B_80_100 : mB 80 100 = bk_80_100 := rfl
theorem B_80_108 : mB 80 108 = bk_80_108 := rfl
theorem B_80_116 : mB 80 116 = bk_80_116 := rfl
theorem B_80_124 : mB 80 124 = bk_80_124 := rfl
theorem B_80_132 : mB 80 132 = bk_80_132 := rfl
theorem B_80_140 : mB 80 140 = bk_80_140 := rfl
theorem B_80_148 : mB 80 148 = bk_80_148 := rfl
theorem N_80 : mN 80 = 2 := rfl
theorem C_80 : mRc 80 = 7 := rfl
theorem B_81_0 : mB 81 0 = bk_81_0 := rfl
theorem B_81_14 : mB 81 14 = bk_81_14 := rfl
theorem B_81_15 : mB 81 15 = bk_81_15 := rfl
theorem N_81 : mN 81 = 1 := rfl
theorem C_81 : mRc 81 = 7 := rfl
theorem B_82_0 : mB 82 0 = bk_82_0 := rfl
theorem B_82_14 : mB 82 14 = bk_82_14 := rfl
theorem B_82_15 : mB 82 15 = bk_82_15 := rfl
theorem N_82 : mN 82 = 1 := rfl
theorem C_82 : mRc 82 = 7 := rfl
theorem B_83_0 : mB 83 0 = bk_83_0 := rfl
theorem B_83_13 : mB 83 13 = bk_83_13 := rfl
theorem B_83_14 : mB 83 14 = bk_83_14 := rfl
theorem N_83 : mN 83 = 1 := rfl
theorem C_83 : mRc 83 = 7 := rfl
theorem B_84_0 : mB 84 0 = bk_84_0 := rfl
theorem B_84_9 : mB 84 9 = bk_84_9 := rfl
theorem B_84_13 : mB 84 13 = bk_84_13 := rfl
theorem B_84_14 : mB 84 14 = bk_84_14 := rfl
theorem N_84 : mN 84 = 1 := rfl
theorem C_84 : mRc 84 = 7 := rfl
theorem B_85_0 : mB 85 0 = bk_85_0 := rfl
theorem N_85 : mN 85 = 1 := rfl
theorem C_85 : mRc 85 = 7 := rfl
theorem B_86_0 : mB 86 0 = bk_86_0 := rfl
theorem B_86_15 : mB 86 15 = bk_86_15 := rfl
theorem B_86_34 : mB 86 34 = bk_86_34 := rfl
theorem N_86 : mN 86 = 4 := rfl
theorem C_86 : mRc 86 = 7 := rfl
theorem B_87_0 : mB 87 0 = bk_87_0 := rfl
theorem N_87 : mN 87 = 1 := rfl
theorem C_87 : mRc 87 = 10 := rfl
theorem B_88_0 : mB 88 0 = bk_88_0 := rfl
theorem B_88_16 : mB 88 16 = bk_88_16 := rfl
theorem N_88 : mN 88 = 2 := rfl
theorem C_88 : mRc 88 = 10 := rfl
theorem B_89_0 : mB 89 0 = bk_89_0 := rfl
theorem B_89_13 : mB 89 13 = bk_89_13 := rfl
theorem B_89_14 : mB 89 14 = bk_89_14 := rfl
theorem N_89 : mN 89 = 1 := rfl
theorem C_89 : mRc 89 = 10 := rfl
theorem B_90_0 : mB 90 0 = bk_90_0 := rfl
theorem B_90_17 : mB 90 17 = bk_90_17 := rfl
theorem B_90_18 : mB 90 18 = bk_90_18 := rfl
theorem N_90 : mN 90 = 1 := rfl
theorem C_90 : mRc 90 = 10 := rfl
theorem B_91_0 : mB 91 0 = bk_91_0 := rfl
theorem N_91 : mN 91 = 2 := rfl
theorem C_91 : mRc 91 = 10 := rfl
theorem B_92_0 : mB 92 0 = bk_92_0 := rfl
theorem N_92 : mN 92 = 2 := rfl
theorem C_92 : mRc 92 = 11 := rfl
theorem B_93_0 : mB 93 0 = bk_93_0 := rfl
theorem B_93_9 : mB 93 9 = bk_93_9 := rfl
theorem B_93_16 : mB 93 16 = bk_93_16 := rfl
theorem N_93 : mN 93 = 3 := rfl
theorem C_93 : mRc 93 = 12 := rfl
theorem B_94_0 : mB 94 0 = bk_94_0 := rfl
theorem B_94_12 : mB 94 12 = bk_94_12 := rfl
theorem B_94_20 : mB 94 20 = bk_94_20 := rfl
theorem N_94 : mN 94 = 2 := rfl
theorem C_94 : mRc 94 = 9 := rfl
theorem B_95_0 : mB 95 0 = bk_95_0 := rfl
theorem N_95 : mN 95 = 2 := rfl
theorem C_95 : mRc 95 = 9 := rfl
theorem B_96_0 : mB 96 0 = bk_96_0 := rfl
theorem B_96_6 : mB 96 6 = bk_96_6 := rfl
theorem B_96_31 : mB 96 31 = bk_96_31 := rfl
theorem B_96_33 : mB 96 33 = bk_96_33 := rfl
theorem B_96_42 : mB 96 42 = bk_96_42 := rfl
theorem B_96_70 : mB 96 70 = bk_96_70 := rfl
theorem B_96_73 : mB 96 73 = bk_96_73 := rfl
theorem B_96_130 : mB 96 130 = bk_96_130 := rfl
theorem B_96_136 : mB 96 136 = bk_96_136 := rfl
theorem B_96_138 : mB 96 138 = bk_96_138 := rfl
theorem B_96_188 : mB 96 188 = bk_96_188 := rfl
theorem N_96 : mN 96 = 5 := rfl
theorem C_96 : mRc 96 = 9 := rfl
theorem B_97_0 : mB 97 0 = bk_97_0 := rfl
theorem N_97 : mN 97 = 2 := rfl
theorem C_97 : mRc 97 = 9 := rfl
theorem B_98_0 : mB 98 0 = bk_98_0 := rfl
theorem B_98_37 : mB 98 37 = bk_98_37 := rfl
theorem B_98_48 : mB 98 48 = bk_98_48 := rfl
theorem N_98 : mN 98 = 7 := rfl
theorem C_98 : mRc 98 = 9 := rfl
theorem B_99_0 : mB 99 0 = bk_99_0 := rfl
theorem B_99_17 : mB 99 17 = bk_99_17 := rfl
theorem N_99 : mN 99 = 2 := rfl
theorem C_99 : mRc 99 = 9 := rfl
theorem B_100_0 : mB 100 0 = bk_100_0 := rfl
theorem B_100_15 : mB 100 15 = bk_100_15 := rfl
theorem B_100_16 : mB 100 16 = bk_100_16 := rfl
theorem B_100_39 : mB 100 39 = bk_100_39 := rfl
theorem B_100_41 : mB 100 41 = bk_100_41 := rfl
theorem B_100_84 : mB 100 84 = bk_100_84 := rfl
theorem B_100_133 : mB 100 133 = bk_100_133 := rfl
theorem B_100_151 : mB 100 151 = bk_100_151 := rfl
theorem B_100_163 : mB 100 163 = bk_100_163 := rfl
theorem B_100_165 : mB 100 165 = bk_100_165 := rfl
theorem B_100_182 : mB 100 182 = bk_100_182 := rfl
theorem B_100_183 : mB 100 183 = bk_100_183 := rfl
theorem B_100_184 : mB 100 184 = bk_100_184 := rfl
theorem B_100_187 : mB 100 187 = bk_100_187 := rfl
theorem B_100_247 : mB 100 247 = bk_100_247 := rfl
theorem B_100_249 : mB 100 249 = bk_100_249 := rfl
theorem B_100_255 : mB 100 255 = bk_100_255 := rfl
theorem B_100_329 : mB 100 329 = bk_100_329 := rfl
theorem B_100_330 : mB 100 330 = bk_100_330 := rfl
theorem N_100 : mN 100 = 10 := rfl
theorem C_100 : mRc 100 = 9 := rfl
theorem B_101_0 : mB 101 0 = bk_101_0 := rfl
theorem B_101_86 : mB 101 86 = bk_101_86 := rfl
theorem B_101_87 : mB 101 87 = bk_101_87 := rfl
theorem B_101_88 : mB 101 88 = bk_101_88 := rfl
theorem B_101_111 : mB 101 111 = bk_101_111 := rfl
theorem B_101_194 : mB 101 194 = bk_101_194 := rfl
theorem B_101_205 : mB 101 205 = bk_101_205 := rfl
theorem B_101_226 : mB 101 226 = bk_101_226 := rfl
theorem B_101_228 : mB 101 228 = bk_101_228 := rfl
theorem B_101_266 : mB 101 266 = bk_101_266 := rfl
theorem B_101_268 : mB 101 268 = bk_101_268 := rfl
theorem B_101_276 : mB 101 276 = bk_101_276 := rfl
theorem B_101_351 : mB 101 351 = bk_101_351 := rfl
theorem B_101_353 : mB 101 353 = bk_101_353 := rfl
theorem B_101_363 : mB 101 363 = bk_101_363 := rfl
theorem B_101_422 : mB 101 422 = bk_101_422 := rfl
theorem B_101_437 : mB 101 437 = bk_101_437 := rfl
theorem B_101_438 : mB 101 438 = bk_101_438 := rfl
theorem B_101_439 : mB 101 439 = bk_101_439 := rfl
theorem B_101_452 : mB 101 452 = bk_101_452 := rfl
theorem B_101_497 : mB 101 497 = bk_101_497 := rfl
theorem B_101_498 : mB 101 498 = bk_101_498 := rfl
theorem B_101_514 : mB 101 514 = bk_101_514 := rfl
theorem B_101_515 : mB 101 515 = bk_101_515 := rfl
theorem B_101_543 : mB 101 543 = bk_101_543 := rfl
theorem B_101_545 : mB 101 545 = bk_101_545 := rfl
theorem B_101_553 : mB 101 553 = bk_101_553 := rfl
theorem B_101_616 : mB 101 616 = bk_101_616 := rfl
theorem B_101_618 : mB 101 618 = bk_101_618 := rfl
theorem B_101_639 : mB 101 639 = bk_101_639 := rfl
theorem B_101_645 : mB 101 645 = bk_101_645 := rfl
theorem B_101_659 : mB 101 659 = bk_101_659 := rfl
theorem B_101_660 : mB 101 660 = bk_101_660 := rfl
theorem N_101 : mN 101 = 15 := rfl
theorem C_101 : mRc 101 = 9 := rfl
theorem B_102_0 : mB 102 0 = bk_102_0 := rfl
theorem B_102_122 : mB 102 122 = bk_102_122 := rfl
theorem B_102_123 : mB 102 123 = bk_102_123 := rfl
theorem B_102_150 : mB 102 150 = bk_102_150 := rfl
theorem B_102_206 : mB 102 206 = bk_102_206 := rfl
theorem B_102_208 : mB 102 208 = bk_102_208 := rfl
theorem B_102_223 : mB 102 223 = bk_102_223 := rfl
theorem B_102_224 : mB 102 224 = bk_102_224 := rfl
theorem B_102_237 : mB 102 237 = bk_102_237 := rfl
theorem B_102_238 : mB 102 238 = bk_102_238 := rfl
theorem B_102_247 : mB 102 247 = bk_102_247 := rfl
theorem B_102_249 : mB 102 249 = bk_102_249 := rfl
theorem B_102_296 : mB 102 296 = bk_102_296 := rfl
theorem B_102_297 : mB 102 297 = bk_102_297 := rfl
theorem B_102_298 : mB 102 298 = bk_102_298 := rfl
theorem B_102_361 : mB 102 361 = bk_102_361 := rfl
theorem B_102_365 : mB 102 365 = bk_102_365 := rfl
theorem B_102_366 : mB 102 366 = bk_102_366 := rfl
theorem N_102 : mN 102 = 19 := rfl
theorem C_102 : mRc 102 = 9 := rfl
theorem B_103_0 : mB 103 0 = bk_103_0 := rfl
theorem B_103_68 : mB 103 68 = bk_103_68 := rfl
theorem B_103_80 : mB 103 80 = bk_103_80 := rfl
theorem B_103_82 : mB 103 82 = bk_103_82 := rfl
theorem B_103_99 : mB 103 99 = bk_103_99 := rfl
theorem B_103_100 : mB 103 100 = bk_103_100 := rfl
theorem B_103_101 : mB 103 101 = bk_103_101 := rfl
theorem B_103_232 : mB 103 232 = bk_103_232 := rfl
theorem B_103_233 : mB 103 233 = bk_103_233 := rfl
theorem N_103 : mN 103 = 10 := rfl
theorem C_103 : mRc 103 = 9 := rfl
theorem B_104_0 : mB 104 0 = bk_104_0 := rfl
theorem B_104_69 : mB 104 69 = bk_104_69 := rfl
theorem B_104_70 : mB 104 70 = bk_104_70 := rfl
theorem B_104_71 : mB 104 71 = bk_104_71 := rfl
theorem B_104_81 : mB 104 81 = bk_104_81 := rfl
theorem B_104_92 : mB 104 92 = bk_104_92 := rfl
theorem B_104_93 : mB 104 93 = bk_104_93 := rfl
theorem B_104_94 : mB 104 94 = bk_104_94 := rfl
theorem B_104_125 : mB 104 125 = bk_104_125 := rfl
theorem B_104_126 : mB 104 126 = bk_104_126 := rfl
theorem B_104_127 : mB 104 127 = bk_104_127 := rfl
theorem B_104_205 : mB 104 205 = bk_104_205 := rfl
theorem B_104_206 : mB 104 206 = bk_104_206 := rfl
theorem N_104 : mN 104 = 10 := rfl
theorem C_104 : mRc 104 = 9 := rfl
theorem B_105_0 : mB 105 0 = bk_105_0 := rfl
theorem B_105_26 : mB 105 26 = bk_105_26 := rfl
theorem B_105_27 : mB 105 27 = bk_105_27 := rfl
theorem B_105_48 : mB 105 48 = bk_105_48 := rfl
theorem B_105_54 : mB 105 54 = bk_105_54 := rfl
theorem B_105_82 : mB 105 82 = bk_105_82 := rfl
theorem B_105_85 : mB 105 85 = bk_105_85 := rfl
theorem B_105_93 : mB 105 93 = bk_105_93 := rfl
theorem B_105_94 : mB 105 94 = bk_105_94 := rfl
theorem B_105_95 : mB 105 95 = bk_105_95 := rfl
theorem B_105_119 : mB 105 119 = bk_105_119 := rfl
theorem B_105_130 : mB 105 130 = bk_105_130 := rfl
theorem B_105_134 : mB 105 134 = bk_105_134 := rfl
theorem B_105_135 : mB 105 135 = bk_105_135 := rfl
theorem B_105_181 : mB 105 181 = bk_105_181 := rfl
theorem B_105_182 : mB 105 182 = bk_105_182 := rfl
theorem B_105_183 : mB 105 183 = bk_105_183 := rfl
theorem B_105_254 : mB 105 254 = bk_105_254 := rfl
theorem B_105_255 : mB 105 255 = bk_105_255 := rfl
theorem N_105 : mN 105 = 8 := rfl
theorem C_105 : mRc 105 = 9 := rfl
theorem B_106_0 : mB 106 0 = bk_106_0 := rfl
theorem B_106_37 : mB 106 37 = bk_106_37 := rfl
theorem B_106_48 : mB 106 48 = bk_106_48 := rfl
theorem B_106_49 : mB 106 49 = bk_106_49 := rfl
theorem B_106_68 : mB 106 68 = bk_106_68 := rfl
theorem B_106_70 : mB 106 70 = bk_106_70 := rfl
theorem B_106_77 : mB 106 77 = bk_106_77 := rfl
theorem B_106_78 : mB 106 78 = bk_106_78 := rfl
theorem B_106_79 : mB 106 79 = bk_106_79 := rfl
theorem B_106_112 : mB 106 112 = bk_106_112 := rfl
theorem B_106_116 : mB 106 116 = bk_106_116 := rfl
theorem B_106_117 : mB 106 117 = bk_106_117 := rfl
theorem B_106_135 : mB 106 135 = bk_106_135 := rfl
theorem B_106_146 : mB 106 146 = bk_106_146 := rfl
theorem B_106_147 : mB 106 147 = bk_106_147 := rfl
theorem B_106_165 : mB 106 165 = bk_106_165 := rfl
theorem B_106_167 : mB 106 167 = bk_106_167 := rfl
theorem B_106_174 : mB 106 174 = bk_106_174 := rfl
theorem B_106_175 : mB 106 175 = bk_106_175 := rfl
theorem N_106 : mN 106 = 6 := rfl
theorem C_106 : mRc 106 = 9 := rfl
theorem B_107_0 : mB 107 0 = bk_107_0 := rfl
theorem B_107_77 : mB 107 77 = bk_107_77 := rfl
theorem B_107_79 : mB 107 79 = bk_107_79 := rfl
theorem B_107_81 : mB 107 81 = bk_107_81 := rfl
theorem B_107_144 : mB 107 144 = bk_107_144 := rfl
theorem B_107_145 : mB 107 145 = bk_107_145 := rfl
theorem B_107_171 : mB 107 171 = bk_107_171 := rfl
theorem B_107_185 : mB 107 185 = bk_107_185 := rfl
theorem B_107_205 : mB 107 205 = bk_107_205 := rfl
theorem B_107_224 : mB 107 224 = bk_107_224 := rfl
theorem B_107_238 : mB 107 238 = bk_107_238 := rfl
theorem B_107_251 : mB 107 251 = bk_107_251 := rfl
theorem B_107_265 : mB 107 265 = bk_107_265 := rfl
theorem B_107_278 : mB 107 278 = bk_107_278 := rfl
theorem B_107_287 : mB 107 287 = bk_107_287 := rfl
theorem B_107_297 : mB 107 297 = bk_107_297 := rfl
theorem B_107_299 : mB 107 299 = bk_107_299 := rfl
theorem B_107_342 : mB 107 342 = bk_107_342 := rfl
theorem B_107_365 : mB 107 365 = bk_107_365 := rfl
theorem B_107_366 : mB 107 366 = bk_107_366 := rfl
theorem B_107_368 : mB 107 368 = bk_107_368 := rfl
theorem B_107_375 : mB 107 375 = bk_107_375 := rfl
theorem B_107_384 : mB 107 384 = bk_107_384 := rfl
theorem B_107_402 : mB 107 402 = bk_107_402 := rfl
theorem B_107_418 : mB 107 418 = bk_107_418 := rfl
theorem B_107_425 : mB 107 425 = bk_107_425 := rfl
theorem B_107_444 : mB 107 444 = bk_107_444 := rfl
theorem B_107_445 : mB 107 445 = bk_107_445 := rfl
theorem B_107_454 : mB 107 454 = bk_107_454 := rfl
theorem B_107_474 : mB 107 474 = bk_107_474 := rfl
theorem B_107_476 : mB 107 476 = bk_107_476 := rfl
theorem B_107_482 : mB 107 482 = bk_107_482 := rfl
theorem N_107 : mN 107 = 16 := rfl
theorem C_107 : mRc 107 = 9 := rfl
end
section
/-! RUNS OF THE SMALL MACHINE, without their length: Ev, EvM; a row an instruction -/
def mR : Nat → Nat → List mIns → List Value → List Value → mH → Option (Option Value × mH) := mRun mB mN mRc
theorem mR_succ (f y : Nat) (i : mIns) (is : List mIns) (L st : List Value) (h : mH) : mR (f + 1) y (i :: is) L st h = match mStep mRc i L st h with
      | .inl (L', st', h') => mR f y is L' st' h'
      | .inr (.inl (t, L', st')) => mR f y (mB y t) L' st' h
      | .inr (.inr (.inl r)) => some r
      | .inr (.inr (.inr none)) => none
      | .inr (.inr (.inr (some (z, as, st')))) => match mR f z (mB z 0) (as ++ List.replicate (mN z - as.length) .null) [] h with
        | none => none
        | some (v, h') => mR f y is L (v.toList ++ st') h' := rfl
theorem mR_nil (f y : Nat) (L st : List Value) (h : mH) : mR f y [] L st h = none := by cases f <;> rfl
theorem mR_mono : ∀ (f y : Nat) (is : List mIns) (L st : List Value) (h : mH) (r : Option Value × mH), mR f y is L st h = some r → mR (f + 1) y is L st h = some r := by
  intro f
  induction f with
  | zero => intro y is L st h r hr; cases hr
  | succ f ih =>
    intro y is L st h r hr
    cases is with
    | nil => rw [mR_nil] at hr; cases hr
    | cons i is =>
      rw [mR_succ] at hr ⊢
      generalize mStep mRc i L st h = w at hr ⊢
      rcases w with ⟨L', st', h'⟩ | ⟨t, L', st'⟩ | q | (_ | ⟨z, as, st'⟩)
      · exact ih _ _ _ _ _ _ hr
      · exact ih _ _ _ _ _ _ hr
      · exact hr
      · cases hr
      · dsimp only at hr ⊢
        cases hc : mR f z (mB z 0) (as ++ List.replicate (mN z - as.length) .null) [] h with
        | none => rw [hc] at hr; cases hr
        | some q =>
          rw [hc] at hr
          rw [ih _ _ _ _ _ _ hc]
          exact ih _ _ _ _ _ _ hr
theorem mR_le {f g y : Nat} {is : List mIns} {L st : List Value} {h : mH} {r : Option Value × mH} (hfg : f ≤ g) (hr : mR f y is L st h = some r) : mR g y is L st h = some r := by
  obtain ⟨d, rfl⟩ := Nat.exists_eq_add_of_le hfg
  induction d with
  | zero => exact hr
  | succ d ih => exact mR_mono _ _ _ _ _ _ _ (ih (Nat.le_add_right _ _))
def Ev (y : Nat) (is : List mIns) (L st : List Value) (h : mH) (Q : Option Value → mH → Prop) : Prop := ∃ (f : Nat) (r : Option Value × mH), mR f y is L st h = some r ∧ Q r.1 r.2
def EvM (z : Nat) (as : List Value) (h : mH) (Q : Option Value → mH → Prop) : Prop := Ev z (mB z 0) (as ++ List.replicate (mN z - as.length) .null) [] h Q
theorem Ev_mono {y : Nat} {is : List mIns} {L st : List Value} {h : mH} {Q Q' : Option Value → mH → Prop} (hQ : ∀ v k, Q v k → Q' v k) (hE : Ev y is L st h Q) : Ev y is L st h Q' := by
  obtain ⟨f, r, h1, h2⟩ := hE
  exact ⟨f, r, h1, hQ _ _ h2⟩
theorem EvM_mono {z : Nat} {as : List Value} {h : mH} {Q Q' : Option Value → mH → Prop} (hQ : ∀ v k, Q v k → Q' v k) (hE : EvM z as h Q) : EvM z as h Q' := Ev_mono hQ hE
theorem Ev_nx {y : Nat} {i : mIns} {is : List mIns} {L st L' st' : List Value} {h h' : mH} {Q : Option Value → mH → Prop} (hs : mStep mRc i L st h = .inl (L', st', h')) : Ev y (i :: is) L st h Q ↔ Ev y is L' st' h' Q := by
  constructor
  · rintro ⟨f, r, h1, h2⟩
    cases f with
    | zero => cases h1
    | succ f => rw [mR_succ, hs] at h1; exact ⟨f, r, h1, h2⟩
  · rintro ⟨f, r, h1, h2⟩
    exact ⟨f + 1, r, by rw [mR_succ, hs]; exact h1, h2⟩
theorem Ev_jp {y t : Nat} {i : mIns} {is : List mIns} {L st L' st' : List Value} {h : mH} {Q : Option Value → mH → Prop} (hs : mStep mRc i L st h = .inr (.inl (t, L', st'))) : Ev y (i :: is) L st h Q ↔ Ev y (mB y t) L' st' h Q := by
  constructor
  · rintro ⟨f, r, h1, h2⟩
    cases f with
    | zero => cases h1
    | succ f => rw [mR_succ, hs] at h1; exact ⟨f, r, h1, h2⟩
  · rintro ⟨f, r, h1, h2⟩
    exact ⟨f + 1, r, by rw [mR_succ, hs]; exact h1, h2⟩
theorem Ev_rt {y : Nat} {i : mIns} {is : List mIns} {L st : List Value} {h : mH} {v : Option Value} {h' : mH} {Q : Option Value → mH → Prop} (hs : mStep mRc i L st h = .inr (.inr (.inl (v, h')))) : Ev y (i :: is) L st h Q ↔ Q v h' := by
  constructor
  · rintro ⟨f, r, h1, h2⟩
    cases f with
    | zero => cases h1
    | succ f => rw [mR_succ, hs] at h1; cases h1; exact h2
  · intro h2
    exact ⟨1, (v, h'), by rw [mR_succ, hs], h2⟩
theorem Ev_er {y : Nat} {i : mIns} {is : List mIns} {L st : List Value} {h : mH} {Q : Option Value → mH → Prop} (hs : mStep mRc i L st h = .inr (.inr (.inr none))) : Ev y (i :: is) L st h Q ↔ False := by
  constructor
  · rintro ⟨f, r, h1, h2⟩
    cases f with
    | zero => cases h1
    | succ f => rw [mR_succ, hs] at h1; cases h1
  · exact False.elim
theorem Ev_cl {y z : Nat} {i : mIns} {is : List mIns} {as L st st' : List Value} {h : mH} {Q : Option Value → mH → Prop} (hs : mStep mRc i L st h = .inr (.inr (.inr (some (z, as, st'))))) : Ev y (i :: is) L st h Q ↔ EvM z as h (fun v h' => Ev y is L (v.toList ++ st') h' Q) := by
  constructor
  · rintro ⟨f, r, h1, h2⟩
    cases f with
    | zero => cases h1
    | succ f =>
      rw [mR_succ, hs] at h1
      dsimp only at h1
      cases hc : mR f z (mB z 0) (as ++ List.replicate (mN z - as.length) .null) [] h with
      | none => rw [hc] at h1; cases h1
      | some q => rw [hc] at h1; exact ⟨f, q, hc, f, r, h1, h2⟩
  · rintro ⟨f, q, h1, g, r, h2, h3⟩
    refine ⟨max f g + 1, r, ?_, h3⟩
    rw [mR_succ, hs]
    dsimp only
    rw [mR_le (Nat.le_max_left f g) h1]
    exact mR_le (Nat.le_max_right f g) h2
section EVROWS
variable {y a b n : Nat} {v x p q : Int32} {is : List mIns} {L st : List Value} {h : mH} {o r : Nat} {Q : Option Value → mH → Prop}
theorem e_iconst {k : Int} : Ev y ((.iconst k, a, b, v) :: is) L st h Q ↔ Ev y is L (.int v :: st) h Q := Ev_nx rfl
theorem e_bipush {k : Int} : Ev y ((.bipush k, a, b, v) :: is) L st h Q ↔ Ev y is L (.int v :: st) h Q := Ev_nx rfl
theorem e_sipush {k : Int} : Ev y ((.sipush k, a, b, v) :: is) L st h Q ↔ Ev y is L (.int v :: st) h Q := Ev_nx rfl
theorem e_iload_n {k : Fin 4} : Ev y ((.iload_n k, a, b, v) :: is) L st h Q ↔ ∃ x, L[a]? = some (.int x) ∧ Ev y is L (.int x :: st) h Q := by
  constructor
  · intro z
    by_cases c : ∃ x, L[a]? = some (.int x)
    · obtain ⟨x, c⟩ := c
      rw [Ev_nx (L' := L) (st' := .int x :: st) (h' := h) (by simp only [mStep, c])] at z
      exact ⟨x, c, z⟩
    · rw [Ev_er] at z
      · exact z.elim
      · simp only [mStep]
        split
        · rename_i x e; exact absurd ⟨x, e⟩ c
        · rfl
  · rintro ⟨x, c, z⟩
    rw [Ev_nx (L' := L) (st' := .int x :: st) (h' := h) (by simp only [mStep, c])]
    exact z
theorem e_iload {k : Nat} : Ev y ((.iload k, a, b, v) :: is) L st h Q ↔ ∃ x, L[a]? = some (.int x) ∧ Ev y is L (.int x :: st) h Q := by
  constructor
  · intro z
    by_cases c : ∃ x, L[a]? = some (.int x)
    · obtain ⟨x, c⟩ := c
      rw [Ev_nx (L' := L) (st' := .int x :: st) (h' := h) (by simp only [mStep, c])] at z
      exact ⟨x, c, z⟩
    · rw [Ev_er] at z
      · exact z.elim
      · simp only [mStep]
        split
        · rename_i x e; exact absurd ⟨x, e⟩ c
        · rfl
  · rintro ⟨x, c, z⟩
    rw [Ev_nx (L' := L) (st' := .int x :: st) (h' := h) (by simp only [mStep, c])]
    exact z
theorem e_aload_n {k : Fin 4} : Ev y ((.aload_n k, a, b, v) :: is) L st h Q ↔ ∃ o, L[a]? = some (.ref o) ∧ Ev y is L (.ref o :: st) h Q := by
  constructor
  · intro z
    by_cases c : ∃ x, L[a]? = some (.ref x)
    · obtain ⟨x, c⟩ := c
      rw [Ev_nx (L' := L) (st' := .ref x :: st) (h' := h) (by simp only [mStep, c])] at z
      exact ⟨x, c, z⟩
    · rw [Ev_er] at z
      · exact z.elim
      · simp only [mStep]
        split
        · rename_i x e; exact absurd ⟨x, e⟩ c
        · rfl
  · rintro ⟨x, c, z⟩
    rw [Ev_nx (L' := L) (st' := .ref x :: st) (h' := h) (by simp only [mStep, c])]
    exact z
theorem e_aload {k : Nat} : Ev y ((.aload k, a, b, v) :: is) L st h Q ↔ ∃ o, L[a]? = some (.ref o) ∧ Ev y is L (.ref o :: st) h Q := by
  constructor
  · intro z
    by_cases c : ∃ x, L[a]? = some (.ref x)
    · obtain ⟨x, c⟩ := c
      rw [Ev_nx (L' := L) (st' := .ref x :: st) (h' := h) (by simp only [mStep, c])] at z
      exact ⟨x, c, z⟩
    · rw [Ev_er] at z
      · exact z.elim
      · simp only [mStep]
        split
        · rename_i x e; exact absurd ⟨x, e⟩ c
        · rfl
  · rintro ⟨x, c, z⟩
    rw [Ev_nx (L' := L) (st' := .ref x :: st) (h' := h) (by simp only [mStep, c])]
    exact z
theorem e_istore_n {k : Fin 4} : Ev y ((.istore_n k, a, b, v) :: is) L (.int x :: st) h Q ↔ Ev y is (L.set a (.int x)) st h Q := Ev_nx rfl
theorem e_istore {k : Nat} : Ev y ((.istore k, a, b, v) :: is) L (.int x :: st) h Q ↔ Ev y is (L.set a (.int x)) st h Q := Ev_nx rfl
theorem e_astore_n {k : Fin 4} : Ev y ((.astore_n k, a, b, v) :: is) L (.ref o :: st) h Q ↔ Ev y is (L.set a (.ref o)) st h Q := Ev_nx rfl
theorem e_astore {k : Nat} : Ev y ((.astore k, a, b, v) :: is) L (.ref o :: st) h Q ↔ Ev y is (L.set a (.ref o)) st h Q := Ev_nx rfl
theorem e_iinc {k : Nat} {m : Int} : Ev y ((.iinc k m, a, b, v) :: is) L st h Q ↔ ∃ x, L[a]? = some (.int x) ∧ Ev y is (L.set a (.int (x + v))) st h Q := by
  constructor
  · intro z
    by_cases c : ∃ x, L[a]? = some (.int x)
    · obtain ⟨x, c⟩ := c
      rw [Ev_nx (L' := L.set a (.int (x + v))) (st' := st) (h' := h) (by simp only [mStep, c])] at z
      exact ⟨x, c, z⟩
    · rw [Ev_er] at z
      · exact z.elim
      · simp only [mStep]
        split
        · rename_i x e; exact absurd ⟨x, e⟩ c
        · rfl
  · rintro ⟨x, c, z⟩
    rw [Ev_nx (L' := L.set a (.int (x + v))) (st' := st) (h' := h) (by simp only [mStep, c])]
    exact z
theorem e_iadd : Ev y ((.iadd, a, b, v) :: is) L (.int q :: .int p :: st) h Q ↔ Ev y is L (.int (p + q) :: st) h Q := Ev_nx rfl
theorem e_isub : Ev y ((.isub, a, b, v) :: is) L (.int q :: .int p :: st) h Q ↔ Ev y is L (.int (p - q) :: st) h Q := Ev_nx rfl
theorem e_imul : Ev y ((.imul, a, b, v) :: is) L (.int q :: .int p :: st) h Q ↔ Ev y is L (.int (p * q) :: st) h Q := Ev_nx rfl
theorem e_iand : Ev y ((.iand, a, b, v) :: is) L (.int q :: .int p :: st) h Q ↔ Ev y is L (.int (p &&& q) :: st) h Q := Ev_nx rfl
theorem e_ishr : Ev y ((.ishr, a, b, v) :: is) L (.int q :: .int p :: st) h Q ↔ Ev y is L (.int (p >>> (q &&& 31)) :: st) h Q := Ev_nx rfl
theorem e_idiv : Ev y ((.idiv, a, b, v) :: is) L (.int q :: .int p :: st) h Q ↔ ¬ q = 0 ∧ Ev y is L (.int (p / q) :: st) h Q := by
  by_cases c : q = 0
  · subst c
    rw [Ev_er (by simp [mStep])]; simp
  · rw [Ev_nx (L' := L) (st' := .int (p / q) :: st) (h' := h) (by simp [mStep, c])]; simp [c]
theorem e_i2c : Ev y ((.i2c, a, b, v) :: is) L (.int p :: st) h Q ↔ Ev y is L (.int (p.toUInt32 % 65536).toInt32 :: st) h Q := Ev_nx rfl
theorem e_dup_i : Ev y ((.dup, a, b, v) :: is) L (.int p :: st) h Q ↔ Ev y is L (.int p :: .int p :: st) h Q := Ev_nx rfl
theorem e_dup_r : Ev y ((.dup, a, b, v) :: is) L (.ref o :: st) h Q ↔ Ev y is L (.ref o :: .ref o :: st) h Q := Ev_nx rfl
theorem e_dup2 : Ev y ((.dup2, a, b, v) :: is) L (.int p :: .ref o :: st) h Q ↔ Ev y is L (.int p :: .ref o :: .int p :: .ref o :: st) h Q := Ev_nx rfl
theorem e_pop : Ev y ((.pop, a, b, v) :: is) L (.int p :: st) h Q ↔ Ev y is L st h Q := Ev_nx rfl
theorem e_goto {k : Int} : Ev y ((.goto k, a, b, v) :: is) L st h Q ↔ Ev y (mB y a) L st h Q := Ev_jp rfl
theorem e_nop : Ev y ((.nop, a, b, v) :: is) L st h Q ↔ Ev y (mB y a) L st h Q := Ev_jp rfl
theorem e_if_eq {k : Int} : Ev y ((.ifCond .eq k, a, b, v) :: is) L (.int p :: st) h Q ↔ if p = 0 then Ev y (mB y a) L st h Q else Ev y is L st h Q := by
  by_cases c : p = 0
  · rw [if_pos c, Ev_jp (t := a) (L' := L) (st' := st) (by simp [mStep, mCmp, c])]
  · rw [if_neg c, Ev_nx (L' := L) (st' := st) (h' := h) (by simp [mStep, mCmp]; first | exact fun z => absurd z c | (simpa using c) | exact c)]
theorem e_if_ne {k : Int} : Ev y ((.ifCond .ne k, a, b, v) :: is) L (.int p :: st) h Q ↔ if ¬ p = 0 then Ev y (mB y a) L st h Q else Ev y is L st h Q := by
  by_cases c : ¬ p = 0
  · rw [if_pos c, Ev_jp (t := a) (L' := L) (st' := st) (by simp [mStep, mCmp, c])]
  · rw [if_neg c, Ev_nx (L' := L) (st' := st) (h' := h) (by simp [mStep, mCmp]; first | exact fun z => absurd z c | (simpa using c) | exact c)]
theorem e_if_lt {k : Int} : Ev y ((.ifCond .lt k, a, b, v) :: is) L (.int p :: st) h Q ↔ if p < 0 then Ev y (mB y a) L st h Q else Ev y is L st h Q := by
  by_cases c : p < 0
  · rw [if_pos c, Ev_jp (t := a) (L' := L) (st' := st) (by simp [mStep, mCmp, c])]
  · rw [if_neg c, Ev_nx (L' := L) (st' := st) (h' := h) (by simp [mStep, mCmp]; first | exact fun z => absurd z c | (simpa using c) | exact c)]
theorem e_if_ge {k : Int} : Ev y ((.ifCond .ge k, a, b, v) :: is) L (.int p :: st) h Q ↔ if 0 ≤ p then Ev y (mB y a) L st h Q else Ev y is L st h Q := by
  by_cases c : 0 ≤ p
  · rw [if_pos c, Ev_jp (t := a) (L' := L) (st' := st) (by simp [mStep, mCmp, c])]
  · rw [if_neg c, Ev_nx (L' := L) (st' := st) (h' := h) (by simp [mStep, mCmp]; first | exact fun z => absurd z c | (simpa using c) | exact c)]
theorem e_if_gt {k : Int} : Ev y ((.ifCond .gt k, a, b, v) :: is) L (.int p :: st) h Q ↔ if 0 < p then Ev y (mB y a) L st h Q else Ev y is L st h Q := by
  by_cases c : 0 < p
  · rw [if_pos c, Ev_jp (t := a) (L' := L) (st' := st) (by simp [mStep, mCmp, c])]
  · rw [if_neg c, Ev_nx (L' := L) (st' := st) (h' := h) (by simp [mStep, mCmp]; first | exact fun z => absurd z c | (simpa using c) | exact c)]
theorem e_if_le {k : Int} : Ev y ((.ifCond .le k, a, b, v) :: is) L (.int p :: st) h Q ↔ if p ≤ 0 then Ev y (mB y a) L st h Q else Ev y is L st h Q := by
  by_cases c : p ≤ 0
  · rw [if_pos c, Ev_jp (t := a) (L' := L) (st' := st) (by simp [mStep, mCmp, c])]
  · rw [if_neg c, Ev_nx (L' := L) (st' := st) (h' := h) (by simp [mStep, mCmp]; first | exact fun z => absurd z c | (simpa using c) | exact c)]
theorem e_icmp_eq {k : Int} : Ev y ((.if_icmp .eq k, a, b, v) :: is) L (.int q :: .int p :: st) h Q ↔ if p = q then Ev y (mB y a) L st h Q else Ev y is L st h Q := by
  by_cases c : p = q
  · rw [if_pos c, Ev_jp (t := a) (L' := L) (st' := st) (by simp [mStep, mCmp, c])]
  · rw [if_neg c, Ev_nx (L' := L) (st' := st) (h' := h) (by simp [mStep, mCmp]; first | exact fun z => absurd z c | (simpa using c) | exact c)]
theorem e_icmp_ne {k : Int} : Ev y ((.if_icmp .ne k, a, b, v) :: is) L (.int q :: .int p :: st) h Q ↔ if ¬ p = q then Ev y (mB y a) L st h Q else Ev y is L st h Q := by
  by_cases c : ¬ p = q
  · rw [if_pos c, Ev_jp (t := a) (L' := L) (st' := st) (by simp [mStep, mCmp, c])]
  · rw [if_neg c, Ev_nx (L' := L) (st' := st) (h' := h) (by simp [mStep, mCmp]; first | exact fun z => absurd z c | (simpa using c) | exact c)]
theorem e_icmp_lt {k : Int} : Ev y ((.if_icmp .lt k, a, b, v) :: is) L (.int q :: .int p :: st) h Q ↔ if p < q then Ev y (mB y a) L st h Q else Ev y is L st h Q := by
  by_cases c : p < q
  · rw [if_pos c, Ev_jp (t := a) (L' := L) (st' := st) (by simp [mStep, mCmp, c])]
  · rw [if_neg c, Ev_nx (L' := L) (st' := st) (h' := h) (by simp [mStep, mCmp]; first | exact fun z => absurd z c | (simpa using c) | exact c)]
theorem e_icmp_ge {k : Int} : Ev y ((.if_icmp .ge k, a, b, v) :: is) L (.int q :: .int p :: st) h Q ↔ if q ≤ p then Ev y (mB y a) L st h Q else Ev y is L st h Q := by
  by_cases c : q ≤ p
  · rw [if_pos c, Ev_jp (t := a) (L' := L) (st' := st) (by simp [mStep, mCmp, c])]
  · rw [if_neg c, Ev_nx (L' := L) (st' := st) (h' := h) (by simp [mStep, mCmp]; first | exact fun z => absurd z c | (simpa using c) | exact c)]
theorem e_icmp_gt {k : Int} : Ev y ((.if_icmp .gt k, a, b, v) :: is) L (.int q :: .int p :: st) h Q ↔ if q < p then Ev y (mB y a) L st h Q else Ev y is L st h Q := by
  by_cases c : q < p
  · rw [if_pos c, Ev_jp (t := a) (L' := L) (st' := st) (by simp [mStep, mCmp, c])]
  · rw [if_neg c, Ev_nx (L' := L) (st' := st) (h' := h) (by simp [mStep, mCmp]; first | exact fun z => absurd z c | (simpa using c) | exact c)]
theorem e_icmp_le {k : Int} : Ev y ((.if_icmp .le k, a, b, v) :: is) L (.int q :: .int p :: st) h Q ↔ if p ≤ q then Ev y (mB y a) L st h Q else Ev y is L st h Q := by
  by_cases c : p ≤ q
  · rw [if_pos c, Ev_jp (t := a) (L' := L) (st' := st) (by simp [mStep, mCmp, c])]
  · rw [if_neg c, Ev_nx (L' := L) (st' := st) (h' := h) (by simp [mStep, mCmp]; first | exact fun z => absurd z c | (simpa using c) | exact c)]
theorem e_tsw {d lo hi : Int} {offs : Array Int} : Ev y ((.tableswitch d lo hi offs, a, b, v) :: is) L (.int p :: st) h Q ↔ Ev y (mB y (mTgt a d lo offs p)) L st h Q := Ev_jp rfl
theorem e_ret0 : Ev y ((.ireturn, a, b, 0) :: is) L [.int p] h Q ↔ Q (some (.int p)) h := Ev_rt (by simp [mStep, mNar])
theorem e_ret1 : Ev y ((.ireturn, a, b, 1) :: is) L [.int p] h Q ↔ (p = 0 ∨ p = 1) ∧ Q (some (.int p)) h := by
  by_cases c : p = 0 ∨ p = 1
  · rw [Ev_rt (v := some (.int p)) (h' := h) (by simp [mStep, mNar, c])]; simp [c]
  · rw [Ev_er (by simp [mStep, mNar]; simpa using c)]; simp [c]
theorem e_retv (hn : mNar v p = true) : Ev y ((.ireturn, a, b, v) :: is) L [.int p] h Q ↔ Q (some (.int p)) h := Ev_rt (by simp only [mStep, hn, if_true])
theorem e_retn : Ev y ((.return_, a, b, v) :: is) L [] h Q ↔ Q none h := Ev_rt rfl
theorem e_getI {k : Nat} : Ev y ((.getfield k, a, b, 0) :: is) L (.ref o :: st) h Q ↔ h.1.2.2.1 o = (1, a) ∧ Ev y is L (.int (h.2.2 o b) :: st) h Q := by
  by_cases c : h.1.2.2.1 o = (1, a)
  · rw [Ev_nx (L' := L) (st' := .int (h.2.2 o b) :: st) (h' := h) (by simp [mStep, c])]; simp [c]
  · rw [Ev_er (by simp [mStep, c])]; simp [c]
theorem e_getZ {k : Nat} : Ev y ((.getfield k, a, b, 1) :: is) L (.ref o :: st) h Q ↔ h.1.2.2.1 o = (1, a) ∧ Ev y is L (.int (h.2.2 o b) :: st) h Q := by
  by_cases c : h.1.2.2.1 o = (1, a)
  · rw [Ev_nx (L' := L) (st' := .int (h.2.2 o b) :: st) (h' := h) (by simp [mStep, c])]; simp [c]
  · rw [Ev_er (by simp [mStep, c])]; simp [c]
theorem e_getR {k : Nat} : Ev y ((.getfield k, a, b, 2) :: is) L (.ref o :: st) h Q ↔ h.1.2.2.1 o = (1, a) ∧ ∃ r, h.2.1 o b = some r ∧ Ev y is L (.ref r :: st) h Q := by
  by_cases c : h.1.2.2.1 o = (1, a)
  · cases e : h.2.1 o b with
    | some r => rw [Ev_nx (L' := L) (st' := .ref r :: st) (h' := h) (by simp [mStep, c, e])]; simp [c]
    | none => rw [Ev_er (by simp [mStep, c, e])]; simp
  · rw [Ev_er (by simp [mStep, c])]; simp [c]
theorem e_getV {k : Nat} : Ev y ((.getfield k, a, b, 4) :: is) L (.ref o :: st) h Q ↔ mStr o = true ∧ Ev y is L (.ref (o + 100000) :: st) h Q := by
  by_cases c : mStr o = true
  · rw [Ev_nx (L' := L) (st' := .ref (o + 100000) :: st) (h' := h) (by simp [mStep, c])]; simp [c]
  · rw [Ev_er (by simp [mStep, c])]; simp [c]
theorem e_getC {k : Nat} : Ev y ((.getfield k, a, b, 5) :: is) L (.ref o :: st) h Q ↔ mStr o = true ∧ Ev y is L (.int 0 :: st) h Q := by
  by_cases c : mStr o = true
  · rw [Ev_nx (L' := L) (st' := .int 0 :: st) (h' := h) (by simp [mStep, c])]; simp [c]
  · rw [Ev_er (by simp [mStep, c])]; simp [c]
theorem e_putI {k : Nat} : Ev y ((.putfield k, a, b, 0) :: is) L (.int x :: .ref o :: st) h Q ↔ h.1.2.2.1 o = (1, a) ∧ Ev y is L st (h.1, h.2.1, mSet h.2.2 o b x) Q := by
  by_cases c : h.1.2.2.1 o = (1, a)
  · rw [Ev_nx (L' := L) (st' := st) (h' := (h.1, h.2.1, mSet h.2.2 o b x)) (by simp [mStep, c])]; simp [c]
  · rw [Ev_er (by simp [mStep, c])]; simp [c]
theorem e_putZ {k : Nat} : Ev y ((.putfield k, a, b, 1) :: is) L (.int x :: .ref o :: st) h Q ↔ h.1.2.2.1 o = (1, a) ∧ (x = 0 ∨ x = 1) ∧ Ev y is L st (h.1, h.2.1, mSet h.2.2 o b x) Q := by
  by_cases c : h.1.2.2.1 o = (1, a) ∧ (x = 0 ∨ x = 1)
  · rw [Ev_nx (L' := L) (st' := st) (h' := (h.1, h.2.1, mSet h.2.2 o b x)) (by simp only [mStep]; rw [if_pos ⟨c.1, Or.inr ⟨trivial, c.2⟩⟩])]; simp only [c.1, c.2, true_and]
  · rw [Ev_er (by simp only [mStep]; rw [if_neg (fun z => c ⟨z.1, z.2.elim (fun w => absurd w (by decide)) (fun w => w.2)⟩)])]
    constructor
    · exact False.elim
    · rintro ⟨c1, c2, -⟩; exact c ⟨c1, c2⟩
theorem e_putF {k : Nat} : Ev y ((.putfield k, a, b, 5) :: is) L (.ref r :: .ref o :: st) h Q ↔ h.1.2.2.1 o = (1, a) ∧ r < 500000 ∧ Ev y is L st (h.1, mSetR h.2.1 o b (some r), h.2.2) Q := by
  by_cases c : h.1.2.2.1 o = (1, a) ∧ r < 500000
  · rw [Ev_nx (L' := L) (st' := st) (h' := (h.1, mSetR h.2.1 o b (some r), h.2.2)) (by simp [mStep, c.1, c.2])]; simp [c.1, c.2]
  · rw [Ev_er (by simp only [mStep]; rw [if_neg (by rintro ⟨c1, -, c2⟩; exact c ⟨c1, c2⟩)])]
    constructor
    · exact False.elim
    · rintro ⟨c1, c2, -⟩; exact c ⟨c1, c2⟩
theorem e_gst0 {k : Nat} : Ev y ((.getstatic k, a, b, 0) :: is) L st h Q ↔ Ev y is L (.int 1 :: st) h Q := Ev_nx (by simp [mStep])
theorem e_gst1 {k : Nat} : Ev y ((.getstatic k, a, b, 1) :: is) L st h Q ↔ Ev y is L (.ref 3000000 :: st) h Q := Ev_nx (by simp [mStep])
theorem e_sld : Ev y ((.iaload, a, b, 1) :: is) L (.int p :: .ref o :: st) h Q ↔ (o = 2000000 ∧ mIn p h.1.2.2.2.1 = true) ∧ Ev y is L (.int (h.1.2.2.2.2 p.toNatClampNeg) :: st) h Q := by
  by_cases c : o = 2000000 ∧ mIn p h.1.2.2.2.1 = true
  · rw [Ev_nx (L' := L) (st' := .int (h.1.2.2.2.2 p.toNatClampNeg) :: st) (h' := h) (by simp [mStep, c.1, c.2])]; simp [c.1, c.2]
  · rw [Ev_er (by simp only [mStep, if_true]; rw [if_neg c])]; simp only [c, false_and]
theorem e_iald : Ev y ((.iaload, a, b, 0) :: is) L (.int p :: .ref o :: st) h Q ↔ ((h.1.2.2.1 o).1 = 2 ∧ mIn p (h.1.2.2.1 o).2 = true) ∧ Ev y is L (.int (h.2.2 o p.toNatClampNeg) :: st) h Q := by
  by_cases c : (h.1.2.2.1 o).1 = 2 ∧ mIn p (h.1.2.2.1 o).2 = true
  · rw [Ev_nx (L' := L) (st' := .int (h.2.2 o p.toNatClampNeg) :: st) (h' := h) (by simp [mStep, c.1, c.2])]; simp [c.1, c.2]
  · rw [Ev_er (by simp only [mStep]; rw [if_neg (by decide), if_neg c])]; simp only [c, false_and]
theorem e_cald : Ev y ((.caload, a, b, v) :: is) L (.int p :: .ref o :: st) h Q ↔ ((h.1.2.2.1 o).1 = 3 ∧ mIn p (h.1.2.2.1 o).2 = true) ∧ Ev y is L (.int (h.2.2 o p.toNatClampNeg) :: st) h Q := by
  by_cases c : (h.1.2.2.1 o).1 = 3 ∧ mIn p (h.1.2.2.1 o).2 = true
  · rw [Ev_nx (L' := L) (st' := .int (h.2.2 o p.toNatClampNeg) :: st) (h' := h) (by simp [mStep, c.1, c.2])]; simp [c.1, c.2]
  · rw [Ev_er (by simp only [mStep]; rw [if_neg c])]; simp only [c, false_and]
theorem e_bald : Ev y ((.baload, a, b, v) :: is) L (.int p :: .ref o :: st) h Q ↔ (mStB o = true ∧ mIn p (mLen (o - 1100000)) = true) ∧ Ev y is L (.int ((mByt (o - 1100000)).getD p.toNatClampNeg 0) :: st) h Q := by
  by_cases c : mStB o = true ∧ mIn p (mLen (o - 1100000)) = true
  · rw [Ev_nx (L' := L) (st' := .int ((mByt (o - 1100000)).getD p.toNatClampNeg 0) :: st) (h' := h) (by simp only [mStep]; rw [if_pos c])]; simp only [c, true_and, and_self]
  · rw [Ev_er (by simp only [mStep]; rw [if_neg c])]; simp only [c, false_and]
theorem e_iast : Ev y ((.iastore, a, b, v) :: is) L (.int x :: .int p :: .ref o :: st) h Q ↔ ((h.1.2.2.1 o).1 = 2 ∧ mIn p (h.1.2.2.1 o).2 = true) ∧ Ev y is L st (h.1, h.2.1, mSet h.2.2 o p.toNatClampNeg x) Q := by
  by_cases c : (h.1.2.2.1 o).1 = 2 ∧ mIn p (h.1.2.2.1 o).2 = true
  · rw [Ev_nx (L' := L) (st' := st) (h' := (h.1, h.2.1, mSet h.2.2 o p.toNatClampNeg x)) (by simp only [mStep]; rw [if_pos c])]; simp only [c, true_and, and_self]
  · rw [Ev_er (by simp only [mStep]; rw [if_neg c])]; simp only [c, false_and]
theorem e_cast : Ev y ((.castore, a, b, v) :: is) L (.int x :: .int p :: .ref o :: st) h Q ↔ ((h.1.2.2.1 o).1 = 3 ∧ mIn p (h.1.2.2.1 o).2 = true) ∧ Ev y is L st (h.1, h.2.1, mSet h.2.2 o p.toNatClampNeg (x.toUInt32 % 65536).toInt32) Q := by
  by_cases c : (h.1.2.2.1 o).1 = 3 ∧ mIn p (h.1.2.2.1 o).2 = true
  · rw [Ev_nx (L' := L) (st' := st) (h' := (h.1, h.2.1, mSet h.2.2 o p.toNatClampNeg (x.toUInt32 % 65536).toInt32)) (by simp only [mStep]; rw [if_pos c])]; simp only [c, true_and, and_self]
  · rw [Ev_er (by simp only [mStep]; rw [if_neg c])]; simp only [c, false_and]
theorem e_aald : Ev y ((.aaload, a, b, v) :: is) L (.int p :: .ref o :: st) h Q ↔ ((a = 4 ∨ a = 5) ∧ (h.1.2.2.1 o).1 = a ∧ mIn p (h.1.2.2.1 o).2 = true) ∧ ∃ r, h.2.1 o p.toNatClampNeg = some r ∧ Ev y is L (.ref r :: st) h Q := by
  by_cases c : (a = 4 ∨ a = 5) ∧ (h.1.2.2.1 o).1 = a ∧ mIn p (h.1.2.2.1 o).2 = true
  · cases e : h.2.1 o p.toNatClampNeg with
    | some r => rw [Ev_nx (L' := L) (st' := .ref r :: st) (h' := h) (by simp only [mStep]; rw [if_pos c, e])]; simp only [c, true_and, and_self, Option.some.injEq, exists_eq_left']
    | none => rw [Ev_er (by simp only [mStep]; rw [if_pos c, e])]; simp
  · rw [Ev_er (by simp only [mStep]; rw [if_neg c])]; simp only [c, false_and]
theorem e_aast : Ev y ((.aastore, a, b, v) :: is) L (.ref r :: .int p :: .ref o :: st) h Q ↔ (((a = 4 ∧ b = 6) ∨ (a = 5 ∧ b = 4)) ∧ (h.1.2.2.1 o).1 = a ∧ mIn p (h.1.2.2.1 o).2 = true ∧ h.1.2.2.1 r = (1, b)) ∧ Ev y is L st (h.1, mSetR h.2.1 o p.toNatClampNeg (some r), h.2.2) Q := by
  by_cases c : ((a = 4 ∧ b = 6) ∨ (a = 5 ∧ b = 4)) ∧ (h.1.2.2.1 o).1 = a ∧ mIn p (h.1.2.2.1 o).2 = true ∧ h.1.2.2.1 r = (1, b)
  · rw [Ev_nx (L' := L) (st' := st) (h' := (h.1, mSetR h.2.1 o p.toNatClampNeg (some r), h.2.2)) (by simp only [mStep]; rw [if_pos c])]; simp only [c, true_and, and_self]
  · rw [Ev_er (by simp only [mStep]; rw [if_neg c])]; simp only [c, false_and]
theorem e_alen : Ev y ((.arraylength, a, b, 0) :: is) L (.ref o :: st) h Q ↔ (h.1.2.2.1 o).1 = 2 ∧ Ev y is L (.int (nI (h.1.2.2.1 o).2) :: st) h Q := by
  by_cases c : (h.1.2.2.1 o).1 = 2
  · rw [Ev_nx (L' := L) (st' := .int (nI (h.1.2.2.1 o).2) :: st) (h' := h) (by simp [mStep, c])]; simp [c]
  · rw [Ev_er (by simp [mStep, c])]; simp [c]
theorem e_slen : Ev y ((.arraylength, a, b, 1) :: is) L (.ref o :: st) h Q ↔ o = 2000000 ∧ Ev y is L (.int (nI h.1.2.2.2.1) :: st) h Q := by
  by_cases c : o = 2000000
  · rw [Ev_nx (L' := L) (st' := .int (nI h.1.2.2.2.1) :: st) (h' := h) (by simp [mStep, c])]; simp [c]
  · rw [Ev_er (by simp [mStep, c])]; simp [c]
theorem e_blen : Ev y ((.arraylength, a, b, 2) :: is) L (.ref o :: st) h Q ↔ mStB o = true ∧ Ev y is L (.int (nI (mLen (o - 1100000))) :: st) h Q := by
  by_cases c : mStB o = true
  · rw [Ev_nx (L' := L) (st' := .int (nI (mLen (o - 1100000))) :: st) (h' := h) (by simp [mStep, c])]; simp [c]
  · rw [Ev_er (by simp [mStep, c])]; simp [c]
theorem e_newa {t : ArrayType} : Ev y ((.newarray t, a, b, v) :: is) L (.int x :: st) h Q ↔ ((a = 2 ∨ a = 3) ∧ 0 ≤ x ∧ x ≤ 100000 ∧ h.1.1 < 500000) ∧
    Ev y is L (.ref h.1.1 :: st) ((h.1.1 + 1, h.1.2.1 + x.toNatClampNeg, mShp h.1.2.2.1 h.1.1 (a, x.toNatClampNeg), h.1.2.2.2), h.2.1, fun b j => if b = h.1.1 then 0 else h.2.2 b j) Q := by
  by_cases c : (a = 2 ∨ a = 3) ∧ 0 ≤ x ∧ x ≤ 100000 ∧ h.1.1 < 500000
  · rw [Ev_nx (L' := L) (st' := .ref h.1.1 :: st) (h' := ((h.1.1 + 1, h.1.2.1 + x.toNatClampNeg, mShp h.1.2.2.1 h.1.1 (a, x.toNatClampNeg), h.1.2.2.2), h.2.1, fun b j => if b = h.1.1 then 0 else h.2.2 b j)) (by simp only [mStep]; rw [if_pos c])]; simp only [c, true_and, and_self]
  · rw [Ev_er (by simp only [mStep]; rw [if_neg c])]; simp only [c, false_and]
theorem e_newq {k : Nat} : Ev y ((.anewarray k, a, b, v) :: is) L (.int x :: st) h Q ↔ (((a = 4 ∧ b = 6) ∨ (a = 5 ∧ b = 4)) ∧ 0 ≤ x ∧ x ≤ 100000 ∧ h.1.1 < 500000) ∧
    Ev y is L (.ref h.1.1 :: st) ((h.1.1 + 1, h.1.2.1 + x.toNatClampNeg, mShp h.1.2.2.1 h.1.1 (a, x.toNatClampNeg), h.1.2.2.2), fun b j => if b = h.1.1 then none else h.2.1 b j, h.2.2) Q := by
  by_cases c : ((a = 4 ∧ b = 6) ∨ (a = 5 ∧ b = 4)) ∧ 0 ≤ x ∧ x ≤ 100000 ∧ h.1.1 < 500000
  · rw [Ev_nx (L' := L) (st' := .ref h.1.1 :: st) (h' := ((h.1.1 + 1, h.1.2.1 + x.toNatClampNeg, mShp h.1.2.2.1 h.1.1 (a, x.toNatClampNeg), h.1.2.2.2), fun b j => if b = h.1.1 then none else h.2.1 b j, h.2.2)) (by simp only [mStep]; rw [if_pos c])]; simp only [c, true_and, and_self]
  · rw [Ev_er (by simp only [mStep]; rw [if_neg c])]; simp only [c, false_and]
theorem e_new {k : Nat} : Ev y ((.new k, a, b, 0) :: is) L st h Q ↔ h.1.1 < 500000 ∧
    Ev y is L (.ref h.1.1 :: st) ((h.1.1 + 1, h.1.2.1 + b, mShp h.1.2.2.1 h.1.1 (1, a), h.1.2.2.2), fun b j => if b = h.1.1 then none else h.2.1 b j, fun b j => if b = h.1.1 then 0 else h.2.2 b j) Q := by
  by_cases c : h.1.1 < 500000
  · rw [Ev_nx (L' := L) (st' := .ref h.1.1 :: st) (h' := ((h.1.1 + 1, h.1.2.1 + b, mShp h.1.2.2.1 h.1.1 (1, a), h.1.2.2.2), fun b j => if b = h.1.1 then none else h.2.1 b j, fun b j => if b = h.1.1 then 0 else h.2.2 b j)) (by simp [mStep, c])]; simp only [c, true_and]
  · rw [Ev_er (by simp [mStep, c])]; simp [c]
theorem e_oinit {k : Nat} : Ev y ((.invokespecial k, a, b, 0) :: is) L (.ref o :: st) h Q ↔ (st.length ≤ 4 ∧ o < 1000000) ∧ Ev y is L st h Q := by
  by_cases c : st.length ≤ 4 ∧ o < 1000000
  · rw [Ev_nx (L' := L) (st' := st) (h' := h) (by simp only [mStep]; rw [if_pos trivial, if_pos c])]; simp only [c, true_and, and_self]
  · rw [Ev_er (by simp only [mStep]; rw [if_pos trivial, if_neg c])]; simp only [c, false_and]
theorem e_ctor {k : Nat} : Ev y ((.invokespecial k, a, b, 1) :: is) L st h Q ↔ ∃ o as, (st.take b).reverse = .ref o :: as ∧ ((b ≤ st.length ∧ st.length ≤ b + 4 ∧ (st.take b).all m1 = true) ∧ o < 1000000) ∧ EvM a (.ref o :: as) h (fun v h' => Ev y is L (v.toList ++ st.drop b) h' Q) := by
  constructor
  · intro z
    by_cases c : b ≤ st.length ∧ st.length ≤ b + 4 ∧ (st.take b).all m1 = true
    · by_cases hs : ∃ o as, (st.take b).reverse = .ref o :: as
      · obtain ⟨o, as, hs⟩ := hs
        by_cases d : o < 1000000
        · rw [Ev_cl (z := a) (as := .ref o :: as) (st' := st.drop b) (by simp only [mStep]; rw [if_neg (by decide), if_pos ⟨trivial, c⟩, hs]; dsimp only; rw [if_pos d])] at z
          exact ⟨o, as, hs, ⟨c, d⟩, z⟩
        · rw [Ev_er (by simp only [mStep]; rw [if_neg (by decide), if_pos ⟨trivial, c⟩, hs]; dsimp only; rw [if_neg d])] at z
          exact z.elim
      · rw [Ev_er] at z
        · exact z.elim
        · simp only [mStep]
          rw [if_neg (by decide), if_pos ⟨trivial, c⟩]
          split
          · rename_i o as e; exact absurd ⟨o, as, e⟩ hs
          · rfl
    · rw [Ev_er (by simp only [mStep]; rw [if_neg (by decide), if_neg (fun z => c z.2)])] at z
      exact z.elim
  · rintro ⟨o, as, hs, ⟨c, d⟩, z⟩
    rw [Ev_cl (z := a) (as := .ref o :: as) (st' := st.drop b) (by simp only [mStep]; rw [if_neg (by decide), if_pos ⟨trivial, c⟩, hs]; dsimp only; rw [if_pos d])]
    exact z
theorem e_virt {k : Nat} : Ev y ((.invokevirtual k, a, b, 0) :: is) L st h Q ↔ ∃ o as, (st.take b).reverse = .ref o :: as ∧ ((b ≤ st.length ∧ st.length ≤ b + 4 ∧ (st.take b).all m1 = true) ∧ ((mRc a = 10 ∧ mStr o = true) ∨ (h.1.2.2.1 o = (1, mRc a) ∧ mRc a < 8))) ∧ EvM a (.ref o :: as) h (fun v h' => Ev y is L (v.toList ++ st.drop b) h' Q) := by
  constructor
  · intro z
    by_cases c : b ≤ st.length ∧ st.length ≤ b + 4 ∧ (st.take b).all m1 = true
    · by_cases hs : ∃ o as, (st.take b).reverse = .ref o :: as
      · obtain ⟨o, as, hs⟩ := hs
        by_cases d : (mRc a = 10 ∧ mStr o = true) ∨ (h.1.2.2.1 o = (1, mRc a) ∧ mRc a < 8)
        · rw [Ev_cl (z := a) (as := .ref o :: as) (st' := st.drop b) (by simp only [mStep]; rw [if_pos ⟨trivial, c⟩, hs]; dsimp only; rw [if_pos d])] at z
          exact ⟨o, as, hs, ⟨c, d⟩, z⟩
        · rw [Ev_er (by simp only [mStep]; rw [if_pos ⟨trivial, c⟩, hs]; dsimp only; rw [if_neg d])] at z
          exact z.elim
      · rw [Ev_er] at z
        · exact z.elim
        · simp only [mStep]
          rw [if_pos ⟨trivial, c⟩]
          split
          · rename_i o as e; exact absurd ⟨o, as, e⟩ hs
          · rfl
    · rw [Ev_er (by simp only [mStep]; rw [if_neg (fun z => c z.2)])] at z
      exact z.elim
  · rintro ⟨o, as, hs, ⟨c, d⟩, z⟩
    rw [Ev_cl (z := a) (as := .ref o :: as) (st' := st.drop b) (by simp only [mStep]; rw [if_pos ⟨trivial, c⟩, hs]; dsimp only; rw [if_pos d])]
    exact z
theorem e_stat {k : Nat} : Ev y ((.invokestatic k, a, b, 0) :: is) L st h Q ↔ (b ≤ st.length ∧ st.length ≤ b + 4 ∧ (st.take b).all m1 = true) ∧ EvM a (st.take b).reverse h (fun v h' => Ev y is L (v.toList ++ st.drop b) h' Q) := by
  by_cases c : b ≤ st.length ∧ st.length ≤ b + 4 ∧ (st.take b).all m1 = true
  · rw [Ev_cl (z := a) (as := (st.take b).reverse) (st' := st.drop b) (by simp only [mStep, if_true]; rw [if_pos c])]; simp only [c, true_and, and_self]
  · rw [Ev_er (by simp only [mStep, if_true]; rw [if_neg c])]; simp only [c, false_and]
theorem e_min {k : Nat} : Ev y ((.invokestatic k, a, b, 1) :: is) L (.int q :: .int p :: st) h Q ↔ st.length ≤ 4 ∧ Ev y is L (.int (if q < p then q else p) :: st) h Q := by
  by_cases c : st.length ≤ 4
  · rw [Ev_nx (L' := L) (st' := .int (if q < p then q else p) :: st) (h' := h) (by simp [mStep, c])]; simp only [c, true_and]
  · rw [Ev_er (by simp [mStep, c])]; simp only [c, false_and]
theorem e_copy {k : Nat} {n dp sp : Int32} : Ev y ((.invokestatic k, a, b, 2) :: is) L (.int n :: .int dp :: .ref r :: .int sp :: .ref o :: st) h Q ↔
    (0 ≤ sp ∧ 0 ≤ dp ∧ 0 ≤ n ∧ (h.1.2.2.1 o).1 = 2 ∧ (h.1.2.2.1 r).1 = 2 ∧ sp.toNatClampNeg + n.toNatClampNeg ≤ (h.1.2.2.1 o).2 ∧ dp.toNatClampNeg + n.toNatClampNeg ≤ (h.1.2.2.1 r).2 ∧ st.length ≤ 4) ∧
    Ev y is L st (h.1, h.2.1, mCpy h.2.2 o sp.toNatClampNeg r dp.toNatClampNeg n.toNatClampNeg) Q := by
  by_cases c : 0 ≤ sp ∧ 0 ≤ dp ∧ 0 ≤ n ∧ (h.1.2.2.1 o).1 = 2 ∧ (h.1.2.2.1 r).1 = 2 ∧ sp.toNatClampNeg + n.toNatClampNeg ≤ (h.1.2.2.1 o).2 ∧ dp.toNatClampNeg + n.toNatClampNeg ≤ (h.1.2.2.1 r).2 ∧ st.length ≤ 4
  · rw [Ev_nx (L' := L) (st' := st) (h' := (h.1, h.2.1, mCpy h.2.2 o sp.toNatClampNeg r dp.toNatClampNeg n.toNatClampNeg)) (by simp only [mStep]; rw [if_neg (by decide), if_neg (by decide), if_pos (by decide), if_pos c])]; simp only [c, true_and, and_self]
  · rw [Ev_er (by simp only [mStep]; rw [if_neg (by decide), if_neg (by decide), if_pos (by decide), if_neg c])]; simp only [c, false_and]
theorem e_ldc {k : Nat} : Ev y ((.ldc k, a, 0, v) :: is) L st h Q ↔ Ev y is L (.ref (1000000 + a) :: st) h Q := Ev_nx rfl
theorem m1_i {x : Int32} : m1 (.int x) = true := rfl
theorem m1_r {o : Nat} : m1 (.ref o) = true := rfl
end EVROWS
end
section
/-! NUMBERS: what counts is nI of a natural number -/
theorem n_add (a b : Nat) : nI a + nI b = nI (a + b) := by
  unfold nI
  exact (Int32.ofNat_add a b).symm
theorem n_mul (a b : Nat) : nI a * nI b = nI (a * b) := by
  unfold nI
  exact (Int32.ofNat_mul a b).symm
theorem n_sub {a b : Nat} (h : b ≤ a) : nI a - nI b = nI (a - b) := by
  have h1 := n_add (a - b) b
  rw [Nat.sub_add_cancel h] at h1
  rw [← h1, Int32.add_sub_cancel]
theorem n_cl {n : Nat} (h : n < 2147483648) : (nI n).toNatClampNeg = n := nI_clamp h
theorem n_in {n N : Nat} (h : n < N) (h2 : N ≤ 1000000) : mIn (nI n) N = true := by
  simp only [mIn, Bool.and_eq_true, decide_eq_true_eq]
  exact ⟨nI_pos' (by omega), by rw [n_cl (by omega)]; exact h⟩
theorem n_eq {a b : Nat} (ha : a < 2147483648) (hb : b < 2147483648) : nI a = nI b ↔ a = b := by
  constructor
  · intro h
    have := congrArg Int32.toInt h
    rw [nI_toInt ha, nI_toInt hb] at this
    omega
  · intro h; rw [h]
theorem n_lt {a b : Nat} (ha : a < 2147483648) (hb : b < 2147483648) : nI a < nI b ↔ a < b := by
  rw [Int32.lt_iff_toInt_lt, nI_toInt ha, nI_toInt hb]; omega
theorem n_le {a b : Nat} (ha : a < 2147483648) (hb : b < 2147483648) : nI a ≤ nI b ↔ a ≤ b := by
  rw [Int32.le_iff_toInt_le, nI_toInt ha, nI_toInt hb]; omega
theorem n_div {a b : Nat} (ha : a < 2147483648) (hb : b < 2147483648) : nI a / nI b = nI (a / b) := by
  apply Int32.toInt_inj.mp
  have h1 : a / b < 2147483648 := Nat.lt_of_le_of_lt (Nat.div_le_self a b) ha
  have h2 : ((a : Int).tdiv (b : Int)) = ((a / b : Nat) : Int) := by
    rw [Int.tdiv_eq_ediv_of_nonneg (by omega)]; rfl
  rw [nI_toInt h1, Int32.toInt_div, nI_toInt ha, nI_toInt hb, h2]
  generalize a / b = q at h1
  apply Int.bmod_eq_of_le
  · show -((2 ^ 32 : Nat) : Int) / 2 ≤ _
    omega
  · show _ < (((2 ^ 32 : Nat) : Int) + 1) / 2
    omega
theorem o_n (b : Nat) : (OfNat.ofNat b : Int32) = nI (OfNat.ofNat b) := rfl
theorem o_add_l {a b : Nat} : nI a + (no_index (OfNat.ofNat b) : Int32) = nI (a + OfNat.ofNat b) := n_add a b
theorem o_add_r {a b : Nat} : (no_index (OfNat.ofNat b) : Int32) + nI a = nI (OfNat.ofNat b + a) := n_add b a
theorem o_mul_l {a b : Nat} : nI a * (no_index (OfNat.ofNat b) : Int32) = nI (a * OfNat.ofNat b) := n_mul a b
theorem o_mul_r {a b : Nat} : (no_index (OfNat.ofNat b) : Int32) * nI a = nI (OfNat.ofNat b * a) := n_mul b a
theorem o_sub_l {a b : Nat} (h : OfNat.ofNat b ≤ a) : nI a - (no_index (OfNat.ofNat b) : Int32) = nI (a - OfNat.ofNat b) := n_sub h
theorem o_sub_r {a b : Nat} (h : a ≤ OfNat.ofNat b) : (no_index (OfNat.ofNat b) : Int32) - nI a = nI (OfNat.ofNat b - a) := n_sub h
theorem o_lt_l {a b : Nat} (ha : a < 2147483648) (hb : OfNat.ofNat b < 2147483648) : nI a < (no_index (OfNat.ofNat b) : Int32) ↔ a < OfNat.ofNat b := n_lt ha hb
theorem o_lt_r {a b : Nat} (ha : a < 2147483648) (hb : OfNat.ofNat b < 2147483648) : (no_index (OfNat.ofNat b) : Int32) < nI a ↔ OfNat.ofNat b < a := n_lt hb ha
theorem o_le_l {a b : Nat} (ha : a < 2147483648) (hb : OfNat.ofNat b < 2147483648) : nI a ≤ (no_index (OfNat.ofNat b) : Int32) ↔ a ≤ OfNat.ofNat b := n_le ha hb
theorem o_le_r {a b : Nat} (ha : a < 2147483648) (hb : OfNat.ofNat b < 2147483648) : (no_index (OfNat.ofNat b) : Int32) ≤ nI a ↔ OfNat.ofNat b ≤ a := n_le hb ha
theorem o_eq_l {a b : Nat} (ha : a < 2147483648) (hb : OfNat.ofNat b < 2147483648) : nI a = (no_index (OfNat.ofNat b) : Int32) ↔ a = OfNat.ofNat b := n_eq ha hb
theorem o_eq_r {a b : Nat} (ha : a < 2147483648) (hb : OfNat.ofNat b < 2147483648) : (no_index (OfNat.ofNat b) : Int32) = nI a ↔ OfNat.ofNat b = a := n_eq hb ha
theorem o_div_l {a b : Nat} (ha : a < 2147483648) (hb : OfNat.ofNat b < 2147483648) : nI a / (no_index (OfNat.ofNat b) : Int32) = nI (a / OfNat.ofNat b) := n_div ha hb
theorem o_cl {b : Nat} (h : OfNat.ofNat b < 2147483648) : (no_index (OfNat.ofNat b) : Int32).toNatClampNeg = OfNat.ofNat b := n_cl h
theorem o_in {b N : Nat} (h : OfNat.ofNat b < N) (h2 : N ≤ 1000000) : mIn (no_index (OfNat.ofNat b) : Int32) N = true := n_in h h2
theorem o_eq {a b : Nat} (ha : OfNat.ofNat a < 2147483648) (hb : OfNat.ofNat b < 2147483648) : (no_index (OfNat.ofNat a) : Int32) = (no_index (OfNat.ofNat b) : Int32) ↔ (OfNat.ofNat a : Nat) = OfNat.ofNat b := n_eq ha hb
theorem o_lt {a b : Nat} (ha : OfNat.ofNat a < 2147483648) (hb : OfNat.ofNat b < 2147483648) : (no_index (OfNat.ofNat a) : Int32) < (no_index (OfNat.ofNat b) : Int32) ↔ (OfNat.ofNat a : Nat) < OfNat.ofNat b := n_lt ha hb
theorem o_le {a b : Nat} (ha : OfNat.ofNat a < 2147483648) (hb : OfNat.ofNat b < 2147483648) : (no_index (OfNat.ofNat a) : Int32) ≤ (no_index (OfNat.ofNat b) : Int32) ↔ (OfNat.ofNat a : Nat) ≤ OfNat.ofNat b := n_le ha hb
theorem n_m1 {a : Nat} (ha : a < 2147483648) : ¬ nI a = -1 := by
  intro h
  have := congrArg Int32.toInt h
  rw [nI_toInt ha, show (-1 : Int32).toInt = -1 from by decide] at this
  omega
theorem n_m1' {a : Nat} (ha : a < 2147483648) : ¬ -1 = nI a := fun h => n_m1 ha h.symm
theorem n_ne0 {a : Nat} (ha : a < 2147483648) : ¬ nI a < 0 := nI_pos ha
/-- a spool's number, or none -/
theorem sp_cases {n : Nat} (x : Int32) (hn : n < 1000000) : (∃ k, k < n ∧ x = nI k) ∨ (x < 0 ∨ nI n ≤ x) := by
  by_cases h : 0 ≤ x
  · by_cases h2 : x < nI n
    · refine Or.inl ⟨x.toNatClampNeg, ?_, ?_⟩
      · rw [Int32.lt_iff_toInt_lt, nI_toInt (by omega)] at h2
        rw [Int32.le_iff_toInt_le, Int32.toInt_zero] at h
        show x.toInt.toNat < n
        omega
      · apply Int32.toInt_inj.mp
        rw [Int32.le_iff_toInt_le, Int32.toInt_zero] at h
        have h3 := x.toInt_lt
        rw [nI_toInt (by show x.toInt.toNat < _; omega)]
        show _ = ((x.toInt.toNat : Nat) : Int)
        omega
    · exact Or.inr (Or.inr (Int32.not_lt.mp h2))
  · exact Or.inr (Or.inl (Int32.not_le.mp h))
end
section
/-! ONE RUN has one end; loops -/
theorem EvM_iff {z : Nat} {as : List Value} {h h0 : mH} {v0 : Option Value} {Q : Option Value → mH → Prop} (hE : EvM z as h (fun v k => v = v0 ∧ k = h0)) : EvM z as h Q ↔ Q v0 h0 := by
  obtain ⟨f, r, h1, h2, h3⟩ := hE
  constructor
  · rintro ⟨g, r', g1, g2⟩
    have e1 := mR_le (Nat.le_max_left f g) h1
    have e2 := mR_le (Nat.le_max_right f g) g1
    rw [e1] at e2
    cases e2
    rw [← h2, ← h3]
    exact g2
  · intro hq
    exact ⟨f, r, h1, by rw [h2, h3]; exact hq⟩
theorem loop_dn {P : Nat → Prop} {n : Nat} (h : ∀ k, k < n → P (k + 1) → P k) : P n → P 0 := by
  induction n with
  | zero => exact fun q => q
  | succ n ih => exact fun q => ih (fun k hk => h k (by omega)) (h n (by omega) q)
theorem loop_dn' {P : Nat → Prop} {a n : Nat} (hn : a ≤ n) (h : ∀ k, a ≤ k → k < n → P (k + 1) → P k) : P n → P a := by
  intro q
  have h2 := loop_dn (P := fun k => P (a + k)) (n := n - a) (fun k hk => h (a + k) (by omega) (by omega)) (by show P (a + (n - a)); rw [show a + (n - a) = n by omega]; exact q)
  exact h2
theorem Ev_cg {y : Nat} {is : List mIns} {L L' st : List Value} {K : mK} {R : Nat → Nat → Option Nat} {I I' : Nat → Nat → Int32} {Q : Option Value → mH → Prop} (hI : I' = I) (hL : L' = L) (h : Ev y is L st (K, R, I) Q) : Ev y is L' st (K, R, I') Q := by
  rw [hI, hL]; exact h
theorem s_ne {I : Nat → Nat → Int32} {a k b j : Nat} {x : Int32} (h : ¬ (b = a ∧ j = k)) : mSet I a k x b j = I b j := if_neg h
theorem s_eq {I : Nat → Nat → Int32} {a k : Nat} {x : Int32} : mSet I a k x a k = x := if_pos ⟨rfl, rfl⟩
theorem s_eqj {I : Nat → Nat → Int32} {a k b j : Nat} {x : Int32} (h : b = a ∧ j = k) : mSet I a k x b j = x := if_pos h
/-- the first k < n with P k, else n -/
def fB (P : Nat → Bool) (n : Nat) : Nat → Nat
  | 0 => n
  | k + 1 => if fB P n k = n then (if P k then k else n) else fB P n k
theorem fB_le (P : Nat → Bool) (n : Nat) : ∀ k, k ≤ n → fB P n k ≤ n ∧ (fB P n k < n → fB P n k < k ∧ P (fB P n k) = true) ∧ (∀ j, j < k → j < fB P n k → P j = false) := by
  intro k
  induction k with
  | zero => intro _; exact ⟨Nat.le_refl _, fun h => absurd h (Nat.lt_irrefl _), fun j h => absurd h (Nat.not_lt_zero _)⟩
  | succ k ih =>
    intro hk
    obtain ⟨h1, h2, h3⟩ := ih (by omega)
    unfold fB
    by_cases e : fB P n k = n
    · rw [if_pos e]
      by_cases p : P k = true
      · rw [if_pos p]
        exact ⟨by omega, fun _ => ⟨by omega, p⟩, fun j hj hj2 => h3 j (by omega) (by omega)⟩
      · rw [if_neg p]
        refine ⟨Nat.le_refl _, fun h => absurd h (Nat.lt_irrefl _), fun j hj hj2 => ?_⟩
        rcases Nat.lt_or_ge j k with q | q
        · exact h3 j q (by omega)
        · have : j = k := by omega
          rw [this]; simpa using p
    · rw [if_neg e]
      have h4 := h2 (by omega)
      exact ⟨h1, fun _ => ⟨by omega, h4.2⟩, fun j hj hj2 => h3 j (by omega) hj2⟩
end
section
/-! THE CLASS's LEAVES: tests of arguments, lengths, the wire -/
theorem m_isSpool {x : Int32} {h : mH} {Q : Option Value → mH → Prop} : EvM 81 [.int x] h Q ↔ Q (some (.int (if x < 0 then 0 else if 6 ≤ x then 0 else 1))) h := by
  simp only [e_iconst, e_bipush, e_sipush, e_iload_n, e_iload, e_aload_n, e_aload, e_istore_n, e_istore, e_astore_n, e_astore, e_iinc, e_iadd, e_isub, e_imul, e_iand, e_ishr, e_idiv, e_i2c, e_dup_i, e_dup_r, e_dup2, e_pop, e_goto, e_nop, e_if_eq, e_if_ne, e_if_lt, e_if_ge, e_if_gt, e_if_le, e_icmp_eq, e_icmp_ne, e_icmp_lt, e_icmp_ge, e_icmp_gt, e_icmp_le, e_tsw, e_ret0, e_ret1, e_retn, e_getI, e_getZ, e_getR, e_getV, e_getC, e_putI, e_putZ, e_putF, e_gst0, e_gst1, e_sld, e_iald, e_cald, e_bald, e_iast, e_cast, e_aald, e_aast, e_alen, e_slen, e_blen, e_newa, e_newq, e_new, e_oinit, e_ctor, e_virt, e_stat, e_min, e_copy, e_ldc, List.cons_append, List.nil_append, List.append_nil, List.length_cons, List.length_nil, List.replicate_succ, List.replicate_zero, List.getElem?_cons_zero, List.getElem?_cons_succ, List.set_cons_zero, List.set_cons_succ, List.take_succ_cons, List.take_zero, List.drop_succ_cons, List.drop_zero, List.reverse_cons, List.reverse_nil, Option.toList_some, Option.toList_none, Nat.reduceSub, Nat.reduceAdd, Nat.reduceLeDiff, true_and, and_true, and_self, Option.some.injEq, exists_eq_left', Nat.zero_add, Value.int.injEq, Value.ref.injEq, List.cons.injEq, exists_and_left, and_assoc, exists_eq_left, List.all_cons, List.all_nil, m1_i, m1_r, Bool.and_self, Bool.and_true, EvM, N_81, C_81, B_81_0, bk_81_0, B_81_14, bk_81_14, B_81_15, bk_81_15, if_pos, if_neg, not_true_eq_false, not_false_eq_true, or_true, true_or, or_false, false_or, false_and, and_false, Nat.reduceEqDiff, Nat.reduceLT, Nat.reduceMul, Nat.not_lt_zero, Nat.zero_le, Nat.le_refl, ne_eq, reduceIte, reduceCtorEq]
  (repeat' split) <;> rfl
theorem m_isPull {x : Int32} {h : mH} {Q : Option Value → mH → Prop} : EvM 82 [.int x] h Q ↔ Q (some (.int (if x < 0 then 0 else if 9 < x then 0 else 1))) h := by
  simp only [e_iconst, e_bipush, e_sipush, e_iload_n, e_iload, e_aload_n, e_aload, e_istore_n, e_istore, e_astore_n, e_astore, e_iinc, e_iadd, e_isub, e_imul, e_iand, e_ishr, e_idiv, e_i2c, e_dup_i, e_dup_r, e_dup2, e_pop, e_goto, e_nop, e_if_eq, e_if_ne, e_if_lt, e_if_ge, e_if_gt, e_if_le, e_icmp_eq, e_icmp_ne, e_icmp_lt, e_icmp_ge, e_icmp_gt, e_icmp_le, e_tsw, e_ret0, e_ret1, e_retn, e_getI, e_getZ, e_getR, e_getV, e_getC, e_putI, e_putZ, e_putF, e_gst0, e_gst1, e_sld, e_iald, e_cald, e_bald, e_iast, e_cast, e_aald, e_aast, e_alen, e_slen, e_blen, e_newa, e_newq, e_new, e_oinit, e_ctor, e_virt, e_stat, e_min, e_copy, e_ldc, List.cons_append, List.nil_append, List.append_nil, List.length_cons, List.length_nil, List.replicate_succ, List.replicate_zero, List.getElem?_cons_zero, List.getElem?_cons_succ, List.set_cons_zero, List.set_cons_succ, List.take_succ_cons, List.take_zero, List.drop_succ_cons, List.drop_zero, List.reverse_cons, List.reverse_nil, Option.toList_some, Option.toList_none, Nat.reduceSub, Nat.reduceAdd, Nat.reduceLeDiff, true_and, and_true, and_self, Option.some.injEq, exists_eq_left', Nat.zero_add, Value.int.injEq, Value.ref.injEq, List.cons.injEq, exists_and_left, and_assoc, exists_eq_left, List.all_cons, List.all_nil, m1_i, m1_r, Bool.and_self, Bool.and_true, EvM, N_82, C_82, B_82_0, bk_82_0, B_82_14, bk_82_14, B_82_15, bk_82_15, if_pos, if_neg, not_true_eq_false, not_false_eq_true, or_true, true_or, or_false, false_or, false_and, and_false, Nat.reduceEqDiff, Nat.reduceLT, Nat.reduceMul, Nat.not_lt_zero, Nat.zero_le, Nat.le_refl, ne_eq, reduceIte, reduceCtorEq]
  (repeat' split) <;> rfl
theorem m_isWay {x : Int32} {h : mH} {Q : Option Value → mH → Prop} : EvM 83 [.int x] h Q ↔ Q (some (.int (if x < 0 then 0 else if 2 < x then 0 else 1))) h := by
  simp only [e_iconst, e_bipush, e_sipush, e_iload_n, e_iload, e_aload_n, e_aload, e_istore_n, e_istore, e_astore_n, e_astore, e_iinc, e_iadd, e_isub, e_imul, e_iand, e_ishr, e_idiv, e_i2c, e_dup_i, e_dup_r, e_dup2, e_pop, e_goto, e_nop, e_if_eq, e_if_ne, e_if_lt, e_if_ge, e_if_gt, e_if_le, e_icmp_eq, e_icmp_ne, e_icmp_lt, e_icmp_ge, e_icmp_gt, e_icmp_le, e_tsw, e_ret0, e_ret1, e_retn, e_getI, e_getZ, e_getR, e_getV, e_getC, e_putI, e_putZ, e_putF, e_gst0, e_gst1, e_sld, e_iald, e_cald, e_bald, e_iast, e_cast, e_aald, e_aast, e_alen, e_slen, e_blen, e_newa, e_newq, e_new, e_oinit, e_ctor, e_virt, e_stat, e_min, e_copy, e_ldc, List.cons_append, List.nil_append, List.append_nil, List.length_cons, List.length_nil, List.replicate_succ, List.replicate_zero, List.getElem?_cons_zero, List.getElem?_cons_succ, List.set_cons_zero, List.set_cons_succ, List.take_succ_cons, List.take_zero, List.drop_succ_cons, List.drop_zero, List.reverse_cons, List.reverse_nil, Option.toList_some, Option.toList_none, Nat.reduceSub, Nat.reduceAdd, Nat.reduceLeDiff, true_and, and_true, and_self, Option.some.injEq, exists_eq_left', Nat.zero_add, Value.int.injEq, Value.ref.injEq, List.cons.injEq, exists_and_left, and_assoc, exists_eq_left, List.all_cons, List.all_nil, m1_i, m1_r, Bool.and_self, Bool.and_true, EvM, N_83, C_83, B_83_0, bk_83_0, B_83_13, bk_83_13, B_83_14, bk_83_14, if_pos, if_neg, not_true_eq_false, not_false_eq_true, or_true, true_or, or_false, false_or, false_and, and_false, Nat.reduceEqDiff, Nat.reduceLT, Nat.reduceMul, Nat.not_lt_zero, Nat.zero_le, Nat.le_refl, ne_eq, reduceIte, reduceCtorEq]
  (repeat' split) <;> rfl
theorem m_isWayOfOneEnd {x : Int32} {h : mH} {Q : Option Value → mH → Prop} : EvM 84 [.int x] h Q ↔ Q (some (.int (if x = 0 then 1 else if x = 1 then 1 else 0))) h := by
  simp only [e_iconst, e_bipush, e_sipush, e_iload_n, e_iload, e_aload_n, e_aload, e_istore_n, e_istore, e_astore_n, e_astore, e_iinc, e_iadd, e_isub, e_imul, e_iand, e_ishr, e_idiv, e_i2c, e_dup_i, e_dup_r, e_dup2, e_pop, e_goto, e_nop, e_if_eq, e_if_ne, e_if_lt, e_if_ge, e_if_gt, e_if_le, e_icmp_eq, e_icmp_ne, e_icmp_lt, e_icmp_ge, e_icmp_gt, e_icmp_le, e_tsw, e_ret0, e_ret1, e_retn, e_getI, e_getZ, e_getR, e_getV, e_getC, e_putI, e_putZ, e_putF, e_gst0, e_gst1, e_sld, e_iald, e_cald, e_bald, e_iast, e_cast, e_aald, e_aast, e_alen, e_slen, e_blen, e_newa, e_newq, e_new, e_oinit, e_ctor, e_virt, e_stat, e_min, e_copy, e_ldc, List.cons_append, List.nil_append, List.append_nil, List.length_cons, List.length_nil, List.replicate_succ, List.replicate_zero, List.getElem?_cons_zero, List.getElem?_cons_succ, List.set_cons_zero, List.set_cons_succ, List.take_succ_cons, List.take_zero, List.drop_succ_cons, List.drop_zero, List.reverse_cons, List.reverse_nil, Option.toList_some, Option.toList_none, Nat.reduceSub, Nat.reduceAdd, Nat.reduceLeDiff, true_and, and_true, and_self, Option.some.injEq, exists_eq_left', Nat.zero_add, Value.int.injEq, Value.ref.injEq, List.cons.injEq, exists_and_left, and_assoc, exists_eq_left, List.all_cons, List.all_nil, m1_i, m1_r, Bool.and_self, Bool.and_true, EvM, N_84, C_84, B_84_0, bk_84_0, B_84_9, bk_84_9, B_84_13, bk_84_13, B_84_14, bk_84_14, if_pos, if_neg, not_true_eq_false, not_false_eq_true, or_true, true_or, or_false, false_or, false_and, and_false, Nat.reduceEqDiff, Nat.reduceLT, Nat.reduceMul, Nat.not_lt_zero, Nat.zero_le, Nat.le_refl, ne_eq, reduceIte, reduceCtorEq]
  (repeat' split) <;> simp_all
theorem m_nominalOf {x : Int32} {h : mH} {Q : Option Value → mH → Prop} : EvM 85 [.int x] h Q ↔ Q (some (.int (2000 + 1000 * x))) h := by
  simp only [e_iconst, e_bipush, e_sipush, e_iload_n, e_iload, e_aload_n, e_aload, e_istore_n, e_istore, e_astore_n, e_astore, e_iinc, e_iadd, e_isub, e_imul, e_iand, e_ishr, e_idiv, e_i2c, e_dup_i, e_dup_r, e_dup2, e_pop, e_goto, e_nop, e_if_eq, e_if_ne, e_if_lt, e_if_ge, e_if_gt, e_if_le, e_icmp_eq, e_icmp_ne, e_icmp_lt, e_icmp_ge, e_icmp_gt, e_icmp_le, e_tsw, e_ret0, e_ret1, e_retn, e_getI, e_getZ, e_getR, e_getV, e_getC, e_putI, e_putZ, e_putF, e_gst0, e_gst1, e_sld, e_iald, e_cald, e_bald, e_iast, e_cast, e_aald, e_aast, e_alen, e_slen, e_blen, e_newa, e_newq, e_new, e_oinit, e_ctor, e_virt, e_stat, e_min, e_copy, e_ldc, List.cons_append, List.nil_append, List.append_nil, List.length_cons, List.length_nil, List.replicate_succ, List.replicate_zero, List.getElem?_cons_zero, List.getElem?_cons_succ, List.set_cons_zero, List.set_cons_succ, List.take_succ_cons, List.take_zero, List.drop_succ_cons, List.drop_zero, List.reverse_cons, List.reverse_nil, Option.toList_some, Option.toList_none, Nat.reduceSub, Nat.reduceAdd, Nat.reduceLeDiff, true_and, and_true, and_self, Option.some.injEq, exists_eq_left', Nat.zero_add, Value.int.injEq, Value.ref.injEq, List.cons.injEq, exists_and_left, and_assoc, exists_eq_left, List.all_cons, List.all_nil, m1_i, m1_r, Bool.and_self, Bool.and_true, EvM, N_85, C_85, B_85_0, bk_85_0, if_pos, if_neg, not_true_eq_false, not_false_eq_true, or_true, true_or, or_false, false_or, false_and, and_false, Nat.reduceEqDiff, Nat.reduceLT, Nat.reduceMul, Nat.not_lt_zero, Nat.zero_le, Nat.le_refl, ne_eq, reduceIte, reduceCtorEq]
theorem m_stretchOf {r p g n : Int32} {h : mH} {Q : Option Value → mH → Prop} : EvM 86 [.int r, .int p, .int g, .int n] h Q ↔ Q (some (.int (if r = 1 then 2 * p * p + p * g else if r = 2 then 2 * p * p + p * (n - 1 - g) else 4 * p * p))) h := by
  simp only [e_iconst, e_bipush, e_sipush, e_iload_n, e_iload, e_aload_n, e_aload, e_istore_n, e_istore, e_astore_n, e_astore, e_iinc, e_iadd, e_isub, e_imul, e_iand, e_ishr, e_idiv, e_i2c, e_dup_i, e_dup_r, e_dup2, e_pop, e_goto, e_nop, e_if_eq, e_if_ne, e_if_lt, e_if_ge, e_if_gt, e_if_le, e_icmp_eq, e_icmp_ne, e_icmp_lt, e_icmp_ge, e_icmp_gt, e_icmp_le, e_tsw, e_ret0, e_ret1, e_retn, e_getI, e_getZ, e_getR, e_getV, e_getC, e_putI, e_putZ, e_putF, e_gst0, e_gst1, e_sld, e_iald, e_cald, e_bald, e_iast, e_cast, e_aald, e_aast, e_alen, e_slen, e_blen, e_newa, e_newq, e_new, e_oinit, e_ctor, e_virt, e_stat, e_min, e_copy, e_ldc, List.cons_append, List.nil_append, List.append_nil, List.length_cons, List.length_nil, List.replicate_succ, List.replicate_zero, List.getElem?_cons_zero, List.getElem?_cons_succ, List.set_cons_zero, List.set_cons_succ, List.take_succ_cons, List.take_zero, List.drop_succ_cons, List.drop_zero, List.reverse_cons, List.reverse_nil, Option.toList_some, Option.toList_none, Nat.reduceSub, Nat.reduceAdd, Nat.reduceLeDiff, true_and, and_true, and_self, Option.some.injEq, exists_eq_left', Nat.zero_add, Value.int.injEq, Value.ref.injEq, List.cons.injEq, exists_and_left, and_assoc, exists_eq_left, List.all_cons, List.all_nil, m1_i, m1_r, Bool.and_self, Bool.and_true, EvM, N_86, C_86, B_86_0, bk_86_0, B_86_15, bk_86_15, B_86_34, bk_86_34]
  (repeat' split) <;> simp_all
def zW (K : mK) (R : Nat → Nat → Option Nat) (a : Nat) : Prop := K.2.2.1 a = (1, 6) ∧ K.2.2.1 (a + 1) = (2, 32) ∧ K.2.2.1 (a + 2) = (2, 32) ∧ K.2.2.1 (a + 3) = (2, 32) ∧ R a 0 = some (a + 1) ∧ R a 1 = some (a + 2) ∧ R a 2 = some (a + 3) ∧ a < 1000
theorem m_putGap {K : mK} {R : Nat → Nat → Option Nat} {I : Nat → Nat → Int32} {a g : Nat} {n t : Int32} {Q : Option Value → mH → Prop} (h : zW K R a) (hg : g < 32) : EvM 45 [.ref a, .int (nI g), .int n, .int t] (K, R, I) Q ↔ Q none (K, R, mSet (mSet (mSet I (a + 1) g n) (a + 2) g n) (a + 3) g t) := by
  obtain ⟨h0, h1, h2, h3, r0, r1, r2, -⟩ := h
  simp (disch := omega) only [e_iconst, e_bipush, e_sipush, e_iload_n, e_iload, e_aload_n, e_aload, e_istore_n, e_istore, e_astore_n, e_astore, e_iinc, e_iadd, e_isub, e_imul, e_iand, e_ishr, e_idiv, e_i2c, e_dup_i, e_dup_r, e_dup2, e_pop, e_goto, e_nop, e_if_eq, e_if_ne, e_if_lt, e_if_ge, e_if_gt, e_if_le, e_icmp_eq, e_icmp_ne, e_icmp_lt, e_icmp_ge, e_icmp_gt, e_icmp_le, e_tsw, e_ret0, e_ret1, e_retn, e_getI, e_getZ, e_getR, e_getV, e_getC, e_putI, e_putZ, e_putF, e_gst0, e_gst1, e_sld, e_iald, e_cald, e_bald, e_iast, e_cast, e_aald, e_aast, e_alen, e_slen, e_blen, e_newa, e_newq, e_new, e_oinit, e_ctor, e_virt, e_stat, e_min, e_copy, e_ldc, List.cons_append, List.nil_append, List.append_nil, List.length_cons, List.length_nil, List.replicate_succ, List.replicate_zero, List.getElem?_cons_zero, List.getElem?_cons_succ, List.set_cons_zero, List.set_cons_succ, List.take_succ_cons, List.take_zero, List.drop_succ_cons, List.drop_zero, List.reverse_cons, List.reverse_nil, Option.toList_some, Option.toList_none, Nat.reduceSub, Nat.reduceAdd, Nat.reduceLeDiff, true_and, and_true, and_self, Option.some.injEq, exists_eq_left', Nat.zero_add, Value.int.injEq, Value.ref.injEq, List.cons.injEq, exists_and_left, and_assoc, exists_eq_left, List.all_cons, List.all_nil, m1_i, m1_r, Bool.and_self, Bool.and_true, EvM, N_45, C_45, B_45_0, bk_45_0, B_45_10, bk_45_10, B_45_11, bk_45_11, h0, h1, h2, h3, r0, r1, r2, n_add, n_mul, n_sub, n_cl, n_in, n_eq, n_lt, n_le, o_add_l, o_add_r, o_mul_l, o_mul_r, o_sub_l, o_sub_r, o_lt_l, o_lt_r, o_le_l, o_le_r, o_eq_l, o_eq_r, o_eq, o_lt, o_le, o_cl, o_in, n_m1, n_m1', n_ne0, if_pos, if_neg, not_true_eq_false, not_false_eq_true, or_true, true_or, or_false, false_or, false_and, and_false, Nat.reduceEqDiff, Nat.reduceLT, Nat.reduceMul, Nat.not_lt_zero, Nat.zero_le, Nat.le_refl, ne_eq, reduceIte, reduceCtorEq]
theorem m_putGap0 {K : mK} {R : Nat → Nat → Option Nat} {I : Nat → Nat → Int32} {a : Nat} {n t : Int32} {Q : Option Value → mH → Prop} (h : zW K R a) : EvM 45 [.ref a, .int 0, .int n, .int t] (K, R, I) Q ↔ Q none (K, R, mSet (mSet (mSet I (a + 1) 0 n) (a + 2) 0 n) (a + 3) 0 t) := m_putGap (g := 0) h (by decide)
theorem m_gaps {K : mK} {R : Nat → Nat → Option Nat} {I : Nat → Nat → Int32} {a : Nat} {Q : Option Value → mH → Prop} (h : zW K R a) : EvM 37 [.ref a] (K, R, I) Q ↔ Q (some (.int (if I a 3 = 0 then 0 else if I a 4 = 0 then (if 32 < I a 5 + 1 then 32 else I a 5 + 1) else if 32 < I a 5 + 2 then 32 else I a 5 + 2))) (K, R, I) := by
  obtain ⟨h0, h1, h2, h3, r0, r1, r2, -⟩ := h
  simp only [e_iconst, e_bipush, e_sipush, e_iload_n, e_iload, e_aload_n, e_aload, e_istore_n, e_istore, e_astore_n, e_astore, e_iinc, e_iadd, e_isub, e_imul, e_iand, e_ishr, e_idiv, e_i2c, e_dup_i, e_dup_r, e_dup2, e_pop, e_goto, e_nop, e_if_eq, e_if_ne, e_if_lt, e_if_ge, e_if_gt, e_if_le, e_icmp_eq, e_icmp_ne, e_icmp_lt, e_icmp_ge, e_icmp_gt, e_icmp_le, e_tsw, e_ret0, e_ret1, e_retn, e_getI, e_getZ, e_getR, e_getV, e_getC, e_putI, e_putZ, e_putF, e_gst0, e_gst1, e_sld, e_iald, e_cald, e_bald, e_iast, e_cast, e_aald, e_aast, e_alen, e_slen, e_blen, e_newa, e_newq, e_new, e_oinit, e_ctor, e_virt, e_stat, e_min, e_copy, e_ldc, List.cons_append, List.nil_append, List.append_nil, List.length_cons, List.length_nil, List.replicate_succ, List.replicate_zero, List.getElem?_cons_zero, List.getElem?_cons_succ, List.set_cons_zero, List.set_cons_succ, List.take_succ_cons, List.take_zero, List.drop_succ_cons, List.drop_zero, List.reverse_cons, List.reverse_nil, Option.toList_some, Option.toList_none, Nat.reduceSub, Nat.reduceAdd, Nat.reduceLeDiff, true_and, and_true, and_self, Option.some.injEq, exists_eq_left', Nat.zero_add, Value.int.injEq, Value.ref.injEq, List.cons.injEq, exists_and_left, and_assoc, exists_eq_left, List.all_cons, List.all_nil, m1_i, m1_r, Bool.and_self, Bool.and_true, EvM, N_37, C_37, B_37_0, bk_37_0, B_37_9, bk_37_9, B_37_25, bk_37_25, B_37_31, bk_37_31, h0]
  (repeat' split) <;> simp_all

def ngp (p cl c : Nat) : Nat := if p = 0 then 0 else c + 1 + cl
/-- a wire's flags: there, closed, its letters -/
def wF (I : Nat → Nat → Int32) (a p cl c : Nat) : Prop := I a 3 = nI p ∧ I a 4 = nI cl ∧ I a 5 = nI c ∧ p ≤ 1 ∧ cl ≤ 1 ∧ c ≤ 30
theorem m_gapsN {K : mK} {R : Nat → Nat → Option Nat} {I : Nat → Nat → Int32} {a p cl c : Nat} {Q : Option Value → mH → Prop} (h : zW K R a) (hf : wF I a p cl c) : EvM 37 [.ref a] (K, R, I) Q ↔ Q (some (.int (nI (ngp p cl c)))) (K, R, I) := by
  obtain ⟨f1, f2, f3, f4, f5, f6⟩ := hf
  rw [m_gaps h, f1, f2, f3]
  unfold ngp
  have q1 : ¬ (32 : Int32) < nI c + 1 := by rw [o_add_l, o_lt_r (by omega) (by omega)]; omega
  have q2 : ¬ (32 : Int32) < nI c + 2 := by rw [o_add_l, o_lt_r (by omega) (by omega)]; omega
  rw [if_neg q1, if_neg q2]
  simp (disch := omega) only [n_add, n_mul, n_sub, n_cl, n_in, n_eq, n_lt, n_le, o_add_l, o_add_r, o_mul_l, o_mul_r, o_sub_l, o_sub_r, o_lt_l, o_lt_r, o_le_l, o_le_r, o_eq_l, o_eq_r, o_eq, o_lt, o_le, o_cl, o_in, n_m1, n_m1', n_ne0, if_pos, if_neg, not_true_eq_false, not_false_eq_true, or_true, true_or, or_false, false_or, false_and, and_false, Nat.reduceEqDiff, Nat.reduceLT, Nat.reduceMul, Nat.not_lt_zero, Nat.zero_le, Nat.le_refl, ne_eq, reduceIte, reduceCtorEq]
  rcases (show p = 0 ∨ p = 1 by omega) with rfl | rfl <;> rcases (show cl = 0 ∨ cl = 1 by omega) with rfl | rfl <;> (first | exact Iff.rfl | simp)
theorem m_hasGap {K : mK} {R : Nat → Nat → Option Nat} {I : Nat → Nat → Int32} {a p cl c : Nat} {g : Int32} {Q : Option Value → mH → Prop} (h : zW K R a) (hf : wF I a p cl c) : EvM 38 [.ref a, .int g] (K, R, I) Q ↔ Q (some (.int (if g < 0 then 0 else if nI (ngp p cl c) ≤ g then 0 else 1))) (K, R, I) := by
  obtain ⟨h0, h1, h2, h3, r0, r1, r2, h4⟩ := id h
  unfold EvM
  simp (disch := omega) only [e_iconst, e_bipush, e_sipush, e_iload_n, e_iload, e_aload_n, e_aload, e_istore_n, e_istore, e_astore_n, e_astore, e_iinc, e_iadd, e_isub, e_imul, e_iand, e_ishr, e_idiv, e_i2c, e_dup_i, e_dup_r, e_dup2, e_pop, e_goto, e_nop, e_if_eq, e_if_ne, e_if_lt, e_if_ge, e_if_gt, e_if_le, e_icmp_eq, e_icmp_ne, e_icmp_lt, e_icmp_ge, e_icmp_gt, e_icmp_le, e_tsw, e_ret0, e_ret1, e_retn, e_getI, e_getZ, e_getR, e_getV, e_getC, e_putI, e_putZ, e_putF, e_gst0, e_gst1, e_sld, e_iald, e_cald, e_bald, e_iast, e_cast, e_aald, e_aast, e_alen, e_slen, e_blen, e_newa, e_newq, e_new, e_oinit, e_ctor, e_virt, e_stat, e_min, e_copy, e_ldc, List.cons_append, List.nil_append, List.append_nil, List.length_cons, List.length_nil, List.replicate_succ, List.replicate_zero, List.getElem?_cons_zero, List.getElem?_cons_succ, List.set_cons_zero, List.set_cons_succ, List.take_succ_cons, List.take_zero, List.drop_succ_cons, List.drop_zero, List.reverse_cons, List.reverse_nil, Option.toList_some, Option.toList_none, Nat.reduceSub, Nat.reduceAdd, Nat.reduceLeDiff, true_and, and_true, and_self, Option.some.injEq, exists_eq_left', Nat.zero_add, Value.int.injEq, Value.ref.injEq, List.cons.injEq, exists_and_left, and_assoc, exists_eq_left, List.all_cons, List.all_nil, m1_i, m1_r, Bool.and_self, Bool.and_true, N_38, C_38, B_38_0, bk_38_0, B_38_16, bk_38_16, B_38_17, bk_38_17, h0, C_37, m_gapsN h hf, if_pos, if_neg, not_true_eq_false, not_false_eq_true, or_true, true_or, or_false, false_or, false_and, and_false, Nat.reduceEqDiff, Nat.reduceLT, Nat.reduceMul, Nat.not_lt_zero, Nat.zero_le, Nat.le_refl, ne_eq, reduceIte, reduceCtorEq, o_eq]
  (repeat' split) <;> simp_all
theorem m_hasLetter {K : mK} {R : Nat → Nat → Option Nat} {I : Nat → Nat → Int32} {a : Nat} {g : Int32} {Q : Option Value → mH → Prop} (h : zW K R a) : EvM 39 [.ref a, .int g] (K, R, I) Q ↔ Q (some (.int (if g < 0 then 0 else if I a 5 ≤ g then 0 else 1))) (K, R, I) := by
  obtain ⟨h0, h1, h2, h3, r0, r1, r2, h4⟩ := id h
  unfold EvM
  simp (disch := omega) only [e_iconst, e_bipush, e_sipush, e_iload_n, e_iload, e_aload_n, e_aload, e_istore_n, e_istore, e_astore_n, e_astore, e_iinc, e_iadd, e_isub, e_imul, e_iand, e_ishr, e_idiv, e_i2c, e_dup_i, e_dup_r, e_dup2, e_pop, e_goto, e_nop, e_if_eq, e_if_ne, e_if_lt, e_if_ge, e_if_gt, e_if_le, e_icmp_eq, e_icmp_ne, e_icmp_lt, e_icmp_ge, e_icmp_gt, e_icmp_le, e_tsw, e_ret0, e_ret1, e_retn, e_getI, e_getZ, e_getR, e_getV, e_getC, e_putI, e_putZ, e_putF, e_gst0, e_gst1, e_sld, e_iald, e_cald, e_bald, e_iast, e_cast, e_aald, e_aast, e_alen, e_slen, e_blen, e_newa, e_newq, e_new, e_oinit, e_ctor, e_virt, e_stat, e_min, e_copy, e_ldc, List.cons_append, List.nil_append, List.append_nil, List.length_cons, List.length_nil, List.replicate_succ, List.replicate_zero, List.getElem?_cons_zero, List.getElem?_cons_succ, List.set_cons_zero, List.set_cons_succ, List.take_succ_cons, List.take_zero, List.drop_succ_cons, List.drop_zero, List.reverse_cons, List.reverse_nil, Option.toList_some, Option.toList_none, Nat.reduceSub, Nat.reduceAdd, Nat.reduceLeDiff, true_and, and_true, and_self, Option.some.injEq, exists_eq_left', Nat.zero_add, Value.int.injEq, Value.ref.injEq, List.cons.injEq, exists_and_left, and_assoc, exists_eq_left, List.all_cons, List.all_nil, m1_i, m1_r, Bool.and_self, Bool.and_true, N_39, C_39, B_39_0, bk_39_0, B_39_16, bk_39_16, B_39_17, bk_39_17, h0, if_pos, if_neg, not_true_eq_false, not_false_eq_true, or_true, true_or, or_false, false_or, false_and, and_false, Nat.reduceEqDiff, Nat.reduceLT, Nat.reduceMul, Nat.not_lt_zero, Nat.zero_le, Nat.le_refl, ne_eq, reduceIte, reduceCtorEq, o_eq]
  (repeat' split) <;> simp_all
theorem m_canBeReadBy {K : mK} {R : Nat → Nat → Option Nat} {I : Nat → Nat → Int32} {a p cl c : Nat} {w : Int32} {Q : Option Value → mH → Prop} (h : zW K R a) (hf : wF I a p cl c) : EvM 40 [.ref a, .int w] (K, R, I) Q ↔ Q (some (.int (if p = 0 then 0 else if w = 2 then nI cl else 1))) (K, R, I) := by
  obtain ⟨h0, h1, h2, h3, r0, r1, r2, h4⟩ := id h
  obtain ⟨f1, f2, f3, f4, f5, f6⟩ := hf
  unfold EvM
  simp (disch := omega) only [e_iconst, e_bipush, e_sipush, e_iload_n, e_iload, e_aload_n, e_aload, e_istore_n, e_istore, e_astore_n, e_astore, e_iinc, e_iadd, e_isub, e_imul, e_iand, e_ishr, e_idiv, e_i2c, e_dup_i, e_dup_r, e_dup2, e_pop, e_goto, e_nop, e_if_eq, e_if_ne, e_if_lt, e_if_ge, e_if_gt, e_if_le, e_icmp_eq, e_icmp_ne, e_icmp_lt, e_icmp_ge, e_icmp_gt, e_icmp_le, e_tsw, e_ret0, e_ret1, e_retn, e_getI, e_getZ, e_getR, e_getV, e_getC, e_putI, e_putZ, e_putF, e_gst0, e_gst1, e_sld, e_iald, e_cald, e_bald, e_iast, e_cast, e_aald, e_aast, e_alen, e_slen, e_blen, e_newa, e_newq, e_new, e_oinit, e_ctor, e_virt, e_stat, e_min, e_copy, e_ldc, List.cons_append, List.nil_append, List.append_nil, List.length_cons, List.length_nil, List.replicate_succ, List.replicate_zero, List.getElem?_cons_zero, List.getElem?_cons_succ, List.set_cons_zero, List.set_cons_succ, List.take_succ_cons, List.take_zero, List.drop_succ_cons, List.drop_zero, List.reverse_cons, List.reverse_nil, Option.toList_some, Option.toList_none, Nat.reduceSub, Nat.reduceAdd, Nat.reduceLeDiff, true_and, and_true, and_self, Option.some.injEq, exists_eq_left', Nat.zero_add, Value.int.injEq, Value.ref.injEq, List.cons.injEq, exists_and_left, and_assoc, exists_eq_left, List.all_cons, List.all_nil, m1_i, m1_r, Bool.and_self, Bool.and_true, N_40, C_40, B_40_0, bk_40_0, B_40_19, bk_40_19, B_40_23, bk_40_23, B_40_24, bk_40_24, h0, f1, f2, f3, n_add, n_mul, n_sub, n_cl, n_in, n_eq, n_lt, n_le, o_add_l, o_add_r, o_mul_l, o_mul_r, o_sub_l, o_sub_r, o_lt_l, o_lt_r, o_le_l, o_le_r, o_eq_l, o_eq_r, o_eq, o_lt, o_le, o_cl, o_in, n_m1, n_m1', n_ne0, if_pos, if_neg, not_true_eq_false, not_false_eq_true, or_true, true_or, or_false, false_or, false_and, and_false, Nat.reduceEqDiff, Nat.reduceLT, Nat.reduceMul, Nat.not_lt_zero, Nat.zero_le, Nat.le_refl, ne_eq, reduceIte, reduceCtorEq]
  rcases (show p = 0 ∨ p = 1 by omega) with rfl | rfl <;> rcases (show cl = 0 ∨ cl = 1 by omega) with rfl | rfl <;> (repeat' split) <;> simp_all [nI]
theorem m_empty {K : mK} {R : Nat → Nat → Option Nat} {I : Nat → Nat → Int32} {a : Nat} {Q : Option Value → mH → Prop} (h : zW K R a) : EvM 41 [.ref a] (K, R, I) Q ↔ Q none (K, R, mSet (mSet (mSet (mSet I a 3 0) a 4 0) a 5 0) a 6 0) := by
  obtain ⟨h0, h1, h2, h3, r0, r1, r2, h4⟩ := id h
  unfold EvM
  simp (disch := omega) only [e_iconst, e_bipush, e_sipush, e_iload_n, e_iload, e_aload_n, e_aload, e_istore_n, e_istore, e_astore_n, e_astore, e_iinc, e_iadd, e_isub, e_imul, e_iand, e_ishr, e_idiv, e_i2c, e_dup_i, e_dup_r, e_dup2, e_pop, e_goto, e_nop, e_if_eq, e_if_ne, e_if_lt, e_if_ge, e_if_gt, e_if_le, e_icmp_eq, e_icmp_ne, e_icmp_lt, e_icmp_ge, e_icmp_gt, e_icmp_le, e_tsw, e_ret0, e_ret1, e_retn, e_getI, e_getZ, e_getR, e_getV, e_getC, e_putI, e_putZ, e_putF, e_gst0, e_gst1, e_sld, e_iald, e_cald, e_bald, e_iast, e_cast, e_aald, e_aast, e_alen, e_slen, e_blen, e_newa, e_newq, e_new, e_oinit, e_ctor, e_virt, e_stat, e_min, e_copy, e_ldc, List.cons_append, List.nil_append, List.append_nil, List.length_cons, List.length_nil, List.replicate_succ, List.replicate_zero, List.getElem?_cons_zero, List.getElem?_cons_succ, List.set_cons_zero, List.set_cons_succ, List.take_succ_cons, List.take_zero, List.drop_succ_cons, List.drop_zero, List.reverse_cons, List.reverse_nil, Option.toList_some, Option.toList_none, Nat.reduceSub, Nat.reduceAdd, Nat.reduceLeDiff, true_and, and_true, and_self, Option.some.injEq, exists_eq_left', Nat.zero_add, Value.int.injEq, Value.ref.injEq, List.cons.injEq, exists_and_left, and_assoc, exists_eq_left, List.all_cons, List.all_nil, m1_i, m1_r, Bool.and_self, Bool.and_true, N_41, C_41, B_41_0, bk_41_0, h0, if_pos, if_neg, not_true_eq_false, not_false_eq_true, or_true, true_or, or_false, false_or, false_and, and_false, Nat.reduceEqDiff, Nat.reduceLT, Nat.reduceMul, Nat.not_lt_zero, Nat.zero_le, Nat.le_refl, ne_eq, reduceIte, reduceCtorEq]
theorem m_begin {K : mK} {R : Nat → Nat → Option Nat} {I : Nat → Nat → Int32} {a : Nat} {Q : Option Value → mH → Prop} (h : zW K R a) : EvM 42 [.ref a] (K, R, I) Q ↔ Q none (K, R, mSet (mSet (mSet (mSet (mSet (mSet (mSet (mSet I a 3 0) a 4 0) a 5 0) a 6 0) a 3 1) (a + 1) 0 5000) (a + 2) 0 5000) (a + 3) 0 (-1)) := by
  obtain ⟨h0, h1, h2, h3, r0, r1, r2, h4⟩ := id h
  unfold EvM
  simp (disch := omega) only [e_iconst, e_bipush, e_sipush, e_iload_n, e_iload, e_aload_n, e_aload, e_istore_n, e_istore, e_astore_n, e_astore, e_iinc, e_iadd, e_isub, e_imul, e_iand, e_ishr, e_idiv, e_i2c, e_dup_i, e_dup_r, e_dup2, e_pop, e_goto, e_nop, e_if_eq, e_if_ne, e_if_lt, e_if_ge, e_if_gt, e_if_le, e_icmp_eq, e_icmp_ne, e_icmp_lt, e_icmp_ge, e_icmp_gt, e_icmp_le, e_tsw, e_ret0, e_ret1, e_retn, e_getI, e_getZ, e_getR, e_getV, e_getC, e_putI, e_putZ, e_putF, e_gst0, e_gst1, e_sld, e_iald, e_cald, e_bald, e_iast, e_cast, e_aald, e_aast, e_alen, e_slen, e_blen, e_newa, e_newq, e_new, e_oinit, e_ctor, e_virt, e_stat, e_min, e_copy, e_ldc, List.cons_append, List.nil_append, List.append_nil, List.length_cons, List.length_nil, List.replicate_succ, List.replicate_zero, List.getElem?_cons_zero, List.getElem?_cons_succ, List.set_cons_zero, List.set_cons_succ, List.take_succ_cons, List.take_zero, List.drop_succ_cons, List.drop_zero, List.reverse_cons, List.reverse_nil, Option.toList_some, Option.toList_none, Nat.reduceSub, Nat.reduceAdd, Nat.reduceLeDiff, true_and, and_true, and_self, Option.some.injEq, exists_eq_left', Nat.zero_add, Value.int.injEq, Value.ref.injEq, List.cons.injEq, exists_and_left, and_assoc, exists_eq_left, List.all_cons, List.all_nil, m1_i, m1_r, Bool.and_self, Bool.and_true, N_42, C_42, B_42_0, bk_42_0, h0, if_pos, if_neg, not_true_eq_false, not_false_eq_true, or_true, true_or, or_false, false_or, false_and, and_false, Nat.reduceEqDiff, Nat.reduceLT, Nat.reduceMul, Nat.not_lt_zero, Nat.zero_le, Nat.le_refl, ne_eq, reduceIte, reduceCtorEq, C_41, C_45, m_empty h, m_putGap0 h]
theorem m_write {K : mK} {R : Nat → Nat → Option Nat} {I : Nat → Nat → Int32} {a c : Nat} {x : Int32} {Q : Option Value → mH → Prop} (h : zW K R a) (hc : I a 5 = nI c) (hc2 : c < 30) : EvM 43 [.ref a, .int x] (K, R, I) Q ↔ Q none (K, R, mSet (mSet (mSet (mSet I a 5 (nI (c + 1))) (a + 1) (c + 1) (2000 + 1000 * x)) (a + 2) (c + 1) (2000 + 1000 * x)) (a + 3) (c + 1) x) := by
  obtain ⟨h0, h1, h2, h3, r0, r1, r2, h4⟩ := id h
  unfold EvM
  simp (disch := omega) only [e_iconst, e_bipush, e_sipush, e_iload_n, e_iload, e_aload_n, e_aload, e_istore_n, e_istore, e_astore_n, e_astore, e_iinc, e_iadd, e_isub, e_imul, e_iand, e_ishr, e_idiv, e_i2c, e_dup_i, e_dup_r, e_dup2, e_pop, e_goto, e_nop, e_if_eq, e_if_ne, e_if_lt, e_if_ge, e_if_gt, e_if_le, e_icmp_eq, e_icmp_ne, e_icmp_lt, e_icmp_ge, e_icmp_gt, e_icmp_le, e_tsw, e_ret0, e_ret1, e_retn, e_getI, e_getZ, e_getR, e_getV, e_getC, e_putI, e_putZ, e_putF, e_gst0, e_gst1, e_sld, e_iald, e_cald, e_bald, e_iast, e_cast, e_aald, e_aast, e_alen, e_slen, e_blen, e_newa, e_newq, e_new, e_oinit, e_ctor, e_virt, e_stat, e_min, e_copy, e_ldc, List.cons_append, List.nil_append, List.append_nil, List.length_cons, List.length_nil, List.replicate_succ, List.replicate_zero, List.getElem?_cons_zero, List.getElem?_cons_succ, List.set_cons_zero, List.set_cons_succ, List.take_succ_cons, List.take_zero, List.drop_succ_cons, List.drop_zero, List.reverse_cons, List.reverse_nil, Option.toList_some, Option.toList_none, Nat.reduceSub, Nat.reduceAdd, Nat.reduceLeDiff, true_and, and_true, and_self, Option.some.injEq, exists_eq_left', Nat.zero_add, Value.int.injEq, Value.ref.injEq, List.cons.injEq, exists_and_left, and_assoc, exists_eq_left, List.all_cons, List.all_nil, m1_i, m1_r, Bool.and_self, Bool.and_true, N_43, C_43, B_43_0, bk_43_0, B_43_32, bk_43_32, h0, hc, s_eq, n_add, n_mul, n_sub, n_cl, n_in, n_eq, n_lt, n_le, o_add_l, o_add_r, o_mul_l, o_mul_r, o_sub_l, o_sub_r, o_lt_l, o_lt_r, o_le_l, o_le_r, o_eq_l, o_eq_r, o_eq, o_lt, o_le, o_cl, o_in, n_m1, n_m1', n_ne0, if_pos, if_neg, not_true_eq_false, not_false_eq_true, or_true, true_or, or_false, false_or, false_and, and_false, Nat.reduceEqDiff, Nat.reduceLT, Nat.reduceMul, Nat.not_lt_zero, Nat.zero_le, Nat.le_refl, ne_eq, reduceIte, reduceCtorEq, C_45, m_nominalOf, m_putGap h]
theorem m_putEnd {K : mK} {R : Nat → Nat → Option Nat} {I : Nat → Nat → Int32} {a c : Nat} {Q : Option Value → mH → Prop} (h : zW K R a) (hc : I a 5 = nI c) (hc2 : c ≤ 30) : EvM 44 [.ref a] (K, R, I) Q ↔ Q none (K, R, mSet (mSet (mSet (mSet I a 4 1) (a + 1) (c + 1) 5000) (a + 2) (c + 1) 5000) (a + 3) (c + 1) (-1)) := by
  obtain ⟨h0, h1, h2, h3, r0, r1, r2, h4⟩ := id h
  unfold EvM
  simp (disch := omega) only [e_iconst, e_bipush, e_sipush, e_iload_n, e_iload, e_aload_n, e_aload, e_istore_n, e_istore, e_astore_n, e_astore, e_iinc, e_iadd, e_isub, e_imul, e_iand, e_ishr, e_idiv, e_i2c, e_dup_i, e_dup_r, e_dup2, e_pop, e_goto, e_nop, e_if_eq, e_if_ne, e_if_lt, e_if_ge, e_if_gt, e_if_le, e_icmp_eq, e_icmp_ne, e_icmp_lt, e_icmp_ge, e_icmp_gt, e_icmp_le, e_tsw, e_ret0, e_ret1, e_retn, e_getI, e_getZ, e_getR, e_getV, e_getC, e_putI, e_putZ, e_putF, e_gst0, e_gst1, e_sld, e_iald, e_cald, e_bald, e_iast, e_cast, e_aald, e_aast, e_alen, e_slen, e_blen, e_newa, e_newq, e_new, e_oinit, e_ctor, e_virt, e_stat, e_min, e_copy, e_ldc, List.cons_append, List.nil_append, List.append_nil, List.length_cons, List.length_nil, List.replicate_succ, List.replicate_zero, List.getElem?_cons_zero, List.getElem?_cons_succ, List.set_cons_zero, List.set_cons_succ, List.take_succ_cons, List.take_zero, List.drop_succ_cons, List.drop_zero, List.reverse_cons, List.reverse_nil, Option.toList_some, Option.toList_none, Nat.reduceSub, Nat.reduceAdd, Nat.reduceLeDiff, true_and, and_true, and_self, Option.some.injEq, exists_eq_left', Nat.zero_add, Value.int.injEq, Value.ref.injEq, List.cons.injEq, exists_and_left, and_assoc, exists_eq_left, List.all_cons, List.all_nil, m1_i, m1_r, Bool.and_self, Bool.and_true, N_44, C_44, B_44_0, bk_44_0, h0, hc, s_ne, n_add, n_mul, n_sub, n_cl, n_in, n_eq, n_lt, n_le, o_add_l, o_add_r, o_mul_l, o_mul_r, o_sub_l, o_sub_r, o_lt_l, o_lt_r, o_le_l, o_le_r, o_eq_l, o_eq_r, o_eq, o_lt, o_le, o_cl, o_in, n_m1, n_m1', n_ne0, if_pos, if_neg, not_true_eq_false, not_false_eq_true, or_true, true_or, or_false, false_or, false_and, and_false, Nat.reduceEqDiff, Nat.reduceLT, Nat.reduceMul, Nat.not_lt_zero, Nat.zero_le, Nat.le_refl, ne_eq, reduceIte, reduceCtorEq, C_45, m_putGap h]
theorem m_copyGap {K : mK} {R : Nat → Nat → Option Nat} {I : Nat → Nat → Int32} {a b g q : Nat} {Q : Option Value → mH → Prop} (h : zW K R a) (h' : zW K R b) (hg : g < 32) (hq : q < 32) (hab : a + 4 ≤ b ∨ b + 4 ≤ a) : EvM 46 [.ref a, .ref b, .int (nI g), .int (nI q)] (K, R, I) Q ↔ Q none (K, R, mSet (mSet (mSet I (a + 1) q (I (b + 1) g)) (a + 2) q (I (b + 2) g)) (a + 3) q (I (b + 3) g)) := by
  obtain ⟨h0, h1, h2, h3, r0, r1, r2, h4⟩ := id h
  obtain ⟨h0', h1', h2', h3', r0', r1', r2', h4'⟩ := id h'
  unfold EvM
  simp (disch := omega) only [e_iconst, e_bipush, e_sipush, e_iload_n, e_iload, e_aload_n, e_aload, e_istore_n, e_istore, e_astore_n, e_astore, e_iinc, e_iadd, e_isub, e_imul, e_iand, e_ishr, e_idiv, e_i2c, e_dup_i, e_dup_r, e_dup2, e_pop, e_goto, e_nop, e_if_eq, e_if_ne, e_if_lt, e_if_ge, e_if_gt, e_if_le, e_icmp_eq, e_icmp_ne, e_icmp_lt, e_icmp_ge, e_icmp_gt, e_icmp_le, e_tsw, e_ret0, e_ret1, e_retn, e_getI, e_getZ, e_getR, e_getV, e_getC, e_putI, e_putZ, e_putF, e_gst0, e_gst1, e_sld, e_iald, e_cald, e_bald, e_iast, e_cast, e_aald, e_aast, e_alen, e_slen, e_blen, e_newa, e_newq, e_new, e_oinit, e_ctor, e_virt, e_stat, e_min, e_copy, e_ldc, List.cons_append, List.nil_append, List.append_nil, List.length_cons, List.length_nil, List.replicate_succ, List.replicate_zero, List.getElem?_cons_zero, List.getElem?_cons_succ, List.set_cons_zero, List.set_cons_succ, List.take_succ_cons, List.take_zero, List.drop_succ_cons, List.drop_zero, List.reverse_cons, List.reverse_nil, Option.toList_some, Option.toList_none, Nat.reduceSub, Nat.reduceAdd, Nat.reduceLeDiff, true_and, and_true, and_self, Option.some.injEq, exists_eq_left', Nat.zero_add, Value.int.injEq, Value.ref.injEq, List.cons.injEq, exists_and_left, and_assoc, exists_eq_left, List.all_cons, List.all_nil, m1_i, m1_r, Bool.and_self, Bool.and_true, N_46, C_46, B_46_0, bk_46_0, h0, h1, h2, h3, r0, r1, r2, h0', h1', h2', h3', r0', r1', r2', s_ne, n_add, n_mul, n_sub, n_cl, n_in, n_eq, n_lt, n_le, o_add_l, o_add_r, o_mul_l, o_mul_r, o_sub_l, o_sub_r, o_lt_l, o_lt_r, o_le_l, o_le_r, o_eq_l, o_eq_r, o_eq, o_lt, o_le, o_cl, o_in, n_m1, n_m1', n_ne0, if_pos, if_neg, not_true_eq_false, not_false_eq_true, or_true, true_or, or_false, false_or, false_and, and_false, Nat.reduceEqDiff, Nat.reduceLT, Nat.reduceMul, Nat.not_lt_zero, Nat.zero_le, Nat.le_refl, ne_eq, reduceIte, reduceCtorEq]
theorem mCpy_o' {I : Nat → Nat → Int32} {p sp q dp n : Nat} {b : Nat} (h : b ≠ q) : mCpy I p sp q dp n b = I b := by
  funext j
  simp [mCpy, h]
/-- what copying a wire leaves -/
def wCp (I : Nat → Nat → Int32) (a b : Nat) : Nat → Nat → Int32 := fun x j => if x = a ∧ 3 ≤ j ∧ j ≤ 6 then I b j else if x = a + 1 ∧ j < 32 then I (b + 1) j else if x = a + 2 ∧ j < 32 then I (b + 2) j else if x = a + 3 ∧ j < 32 then I (b + 3) j else I x j
theorem m_wcopy {K : mK} {R : Nat → Nat → Option Nat} {I : Nat → Nat → Int32} {a b p cl : Nat} {Q : Option Value → mH → Prop} (h : zW K R a) (h' : zW K R b) (hab : a + 4 ≤ b ∨ b + 4 ≤ a) (hp : I b 3 = nI p) (hp1 : p ≤ 1) (hcl : I b 4 = nI cl) (hcl1 : cl ≤ 1) : EvM 36 [.ref a, .ref b] (K, R, I) Q ↔ Q none (K, R, wCp I a b) := by
  obtain ⟨h0, h1, h2, h3, r0, r1, r2, h4⟩ := id h
  obtain ⟨h0', h1', h2', h3', r0', r1', r2', h4'⟩ := id h'
  refine EvM_iff ?_
  unfold EvM
  have c1 : ∀ {J : Nat → Nat → Int32} {o q sp dp n x j : Nat}, x ≠ q → mCpy J o sp q dp n x j = J x j := fun e => by rw [mCpy_o' e]
  simp (disch := omega) only [e_iconst, e_bipush, e_sipush, e_iload_n, e_iload, e_aload_n, e_aload, e_istore_n, e_istore, e_astore_n, e_astore, e_iinc, e_iadd, e_isub, e_imul, e_iand, e_ishr, e_idiv, e_i2c, e_dup_i, e_dup_r, e_dup2, e_pop, e_goto, e_nop, e_if_eq, e_if_ne, e_if_lt, e_if_ge, e_if_gt, e_if_le, e_icmp_eq, e_icmp_ne, e_icmp_lt, e_icmp_ge, e_icmp_gt, e_icmp_le, e_tsw, e_ret0, e_ret1, e_retn, e_getI, e_getZ, e_getR, e_getV, e_getC, e_putI, e_putZ, e_putF, e_gst0, e_gst1, e_sld, e_iald, e_cald, e_bald, e_iast, e_cast, e_aald, e_aast, e_alen, e_slen, e_blen, e_newa, e_newq, e_new, e_oinit, e_ctor, e_virt, e_stat, e_min, e_copy, e_ldc, List.cons_append, List.nil_append, List.append_nil, List.length_cons, List.length_nil, List.replicate_succ, List.replicate_zero, List.getElem?_cons_zero, List.getElem?_cons_succ, List.set_cons_zero, List.set_cons_succ, List.take_succ_cons, List.take_zero, List.drop_succ_cons, List.drop_zero, List.reverse_cons, List.reverse_nil, Option.toList_some, Option.toList_none, Nat.reduceSub, Nat.reduceAdd, Nat.reduceLeDiff, true_and, and_true, and_self, Option.some.injEq, exists_eq_left', Nat.zero_add, Value.int.injEq, Value.ref.injEq, List.cons.injEq, exists_and_left, and_assoc, exists_eq_left, List.all_cons, List.all_nil, m1_i, m1_r, Bool.and_self, Bool.and_true, N_36, C_36, B_36_0, bk_36_0, h0, h1, h2, h3, r0, r1, r2, h0', h1', h2', h3', r0', r1', r2', s_ne, c1, hp, hcl, n_add, n_mul, n_sub, n_cl, n_in, n_eq, n_lt, n_le, o_add_l, o_add_r, o_mul_l, o_mul_r, o_sub_l, o_sub_r, o_lt_l, o_lt_r, o_le_l, o_le_r, o_eq_l, o_eq_r, o_eq, o_lt, o_le, o_cl, o_in, n_m1, n_m1', n_ne0, if_pos, if_neg, not_true_eq_false, not_false_eq_true, or_true, true_or, or_false, false_or, false_and, and_false, Nat.reduceEqDiff, Nat.reduceLT, Nat.reduceMul, Nat.not_lt_zero, Nat.zero_le, Nat.le_refl, ne_eq, reduceIte, reduceCtorEq]
  refine ⟨by omega, by omega, ?_⟩
  congr 2
  rw [← hp, ← hcl]
  (funext x_ j_; simp only [mSet, mCpy, mSetR, wCp]; (repeat' split); all_goals first | rfl | (exfalso; omega) | (congr 1; omega) | (congr 1 <;> omega) | (simp_all; done))
/-- the stretch by the rule -/
def vStr (ru pu k n : Int32) : Int32 := if ru = 1 then 2 * pu * pu + pu * k else if ru = 2 then 2 * pu * pu + pu * (n - 1 - k) else 4 * pu * pu
theorem m_stretchOf' {r p g n : Int32} {h : mH} {Q : Option Value → mH → Prop} : EvM 86 [.int r, .int p, .int g, .int n] h Q ↔ Q (some (.int (vStr r p g n))) h := m_stretchOf
def wLn (I : Nat → Nat → Int32) (a : Nat) (ru pu : Int32) (n k : Nat) : Int32 := I (a + 1) k + I (a + 1) k * vStr ru pu (nI k) (nI n) / 10000
def wBd (I : Nat → Nat → Int32) (a : Nat) (ru li pu : Int32) (n : Nat) (k : Nat) : Bool := !decide (wLn I a ru pu n k * 100 ≤ I (a + 2) k * li)
/-- the cells after the first m gaps are stretched -/
def wSt (I : Nat → Nat → Int32) (a : Nat) (ru pu : Int32) (n m : Nat) : Nat → Nat → Int32 := fun x j => if x = a + 1 ∧ j < m then wLn I a ru pu n j else I x j
theorem wSt_ge {I : Nat → Nat → Int32} {a n m j : Nat} {ru pu : Int32} (h : m ≤ j) : wSt I a ru pu n m (a + 1) j = I (a + 1) j := if_neg (by omega)
theorem wSt_o {I : Nat → Nat → Int32} {a n m x j : Nat} {ru pu : Int32} (h : x ≠ a + 1) : wSt I a ru pu n m x j = I x j := if_neg (by omega)
theorem m_stretch {K : mK} {R : Nat → Nat → Option Nat} {I : Nat → Nat → Int32} {a p cl c : Nat} {ru li pu : Int32} {Q : Option Value → mH → Prop} (h : zW K R a) (hf : wF I a p cl c) : EvM 51 [.ref a, .int ru, .int li, .int pu] (K, R, I) Q ↔ Q (some (.int (if fB (wBd I a ru li pu (ngp p cl c)) (ngp p cl c) (ngp p cl c) = ngp p cl c then -1 else nI (fB (wBd I a ru li pu (ngp p cl c)) (ngp p cl c) (ngp p cl c))))) (K, R, wSt I a ru pu (ngp p cl c) (ngp p cl c)) := by
  obtain ⟨h0, h1, h2, h3, r0, r1, r2, h4⟩ := id h
  have hn : ngp p cl c ≤ 32 := by obtain ⟨f1, f2, f3, f4, f5, f6⟩ := hf; unfold ngp; split <;> omega
  refine EvM_iff ?_
  unfold EvM
  simp (disch := omega) only [e_iconst, e_bipush, e_sipush, e_iload_n, e_iload, e_aload_n, e_aload, e_istore_n, e_istore, e_astore_n, e_astore, e_iinc, e_iadd, e_isub, e_imul, e_iand, e_ishr, e_idiv, e_i2c, e_dup_i, e_dup_r, e_dup2, e_pop, e_goto, e_nop, e_if_eq, e_if_ne, e_if_lt, e_if_ge, e_if_gt, e_if_le, e_icmp_eq, e_icmp_ne, e_icmp_lt, e_icmp_ge, e_icmp_gt, e_icmp_le, e_tsw, e_ret0, e_ret1, e_retn, e_getI, e_getZ, e_getR, e_getV, e_getC, e_putI, e_putZ, e_putF, e_gst0, e_gst1, e_sld, e_iald, e_cald, e_bald, e_iast, e_cast, e_aald, e_aast, e_alen, e_slen, e_blen, e_newa, e_newq, e_new, e_oinit, e_ctor, e_virt, e_stat, e_min, e_copy, e_ldc, List.cons_append, List.nil_append, List.append_nil, List.length_cons, List.length_nil, List.replicate_succ, List.replicate_zero, List.getElem?_cons_zero, List.getElem?_cons_succ, List.set_cons_zero, List.set_cons_succ, List.take_succ_cons, List.take_zero, List.drop_succ_cons, List.drop_zero, List.reverse_cons, List.reverse_nil, Option.toList_some, Option.toList_none, Nat.reduceSub, Nat.reduceAdd, Nat.reduceLeDiff, true_and, and_true, and_self, Option.some.injEq, exists_eq_left', Nat.zero_add, Value.int.injEq, Value.ref.injEq, List.cons.injEq, exists_and_left, and_assoc, exists_eq_left, List.all_cons, List.all_nil, m1_i, m1_r, Bool.and_self, Bool.and_true, N_51, B_51_0, bk_51_0, h0, C_37, m_gapsN h hf, n_add, n_mul, n_sub, n_cl, n_in, n_eq, n_lt, n_le, o_add_l, o_add_r, o_mul_l, o_mul_r, o_sub_l, o_sub_r, o_lt_l, o_lt_r, o_le_l, o_le_r, o_eq_l, o_eq_r, o_eq, o_lt, o_le, o_cl, o_in, n_m1, n_m1', n_ne0, if_pos, if_neg, not_true_eq_false, not_false_eq_true, or_true, true_or, or_false, false_or, false_and, and_false, Nat.reduceEqDiff, Nat.reduceLT, Nat.reduceMul, Nat.not_lt_zero, Nat.zero_le, Nat.le_refl, ne_eq, reduceIte, reduceCtorEq]
  generalize ngp p cl c = n at hn ⊢
  have key := loop_dn (n := n) (P := fun k => Ev 51 (mB 51 12) [.ref a, .int ru, .int li, .int pu, .int (nI n), .int (if fB (wBd I a ru li pu n) n k = n then -1 else nI (fB (wBd I a ru li pu n) n k)), .int (nI k)] [] (K, R, wSt I a ru pu n k) (fun v k => v = some (.int (if fB (wBd I a ru li pu n) n n = n then -1 else nI (fB (wBd I a ru li pu n) n n))) ∧ k = (K, R, wSt I a ru pu n n))) ?_ ?_
  · refine Ev_cg ?_ ?_ key
    · funext x j; simp [wSt]
    · simp [fB]; rfl
  · intro k hk hnext
    have hb := (fB_le (wBd I a ru li pu n) n k (by omega)).1
    have hI : wSt I a ru pu n (k + 1) = mSet (wSt I a ru pu n k) (a + 1) k (I (a + 1) k + I (a + 1) k * vStr ru pu (nI k) (nI n) / 10000) := by
      funext x j
      simp only [mSet, wSt]
      by_cases c1 : x = a + 1 ∧ j = k
      · obtain ⟨rfl, rfl⟩ := c1
        rw [if_pos ⟨rfl, by omega⟩, if_pos ⟨rfl, rfl⟩]; rfl
      · rw [if_neg c1]
        by_cases c2 : x = a + 1 ∧ j < k
        · rw [if_pos c2, if_pos ⟨c2.1, by omega⟩]
        · rw [if_neg c2, if_neg (by omega)]
    rw [hI] at hnext
    obtain ⟨bb, hbb⟩ : ∃ bb : Int32, (if fB (wBd I a ru li pu n) n k = n then -1 else nI (fB (wBd I a ru li pu n) n k)) = bb := ⟨_, rfl⟩
    rw [hbb, B_51_12]
    simp (disch := omega) only [e_iconst, e_bipush, e_sipush, e_iload_n, e_iload, e_aload_n, e_aload, e_istore_n, e_istore, e_astore_n, e_astore, e_iinc, e_iadd, e_isub, e_imul, e_iand, e_ishr, e_idiv, e_i2c, e_dup_i, e_dup_r, e_dup2, e_pop, e_goto, e_nop, e_if_eq, e_if_ne, e_if_lt, e_if_ge, e_if_gt, e_if_le, e_icmp_eq, e_icmp_ne, e_icmp_lt, e_icmp_ge, e_icmp_gt, e_icmp_le, e_tsw, e_ret0, e_ret1, e_retn, e_getI, e_getZ, e_getR, e_getV, e_getC, e_putI, e_putZ, e_putF, e_gst0, e_gst1, e_sld, e_iald, e_cald, e_bald, e_iast, e_cast, e_aald, e_aast, e_alen, e_slen, e_blen, e_newa, e_newq, e_new, e_oinit, e_ctor, e_virt, e_stat, e_min, e_copy, e_ldc, List.cons_append, List.nil_append, List.append_nil, List.length_cons, List.length_nil, List.replicate_succ, List.replicate_zero, List.getElem?_cons_zero, List.getElem?_cons_succ, List.set_cons_zero, List.set_cons_succ, List.take_succ_cons, List.take_zero, List.drop_succ_cons, List.drop_zero, List.reverse_cons, List.reverse_nil, Option.toList_some, Option.toList_none, Nat.reduceSub, Nat.reduceAdd, Nat.reduceLeDiff, true_and, and_true, and_self, Option.some.injEq, exists_eq_left', Nat.zero_add, Value.int.injEq, Value.ref.injEq, List.cons.injEq, exists_and_left, and_assoc, exists_eq_left, List.all_cons, List.all_nil, m1_i, m1_r, Bool.and_self, Bool.and_true, bk_51_12, h0, h1, h2, h3, r0, r1, r2, n_le, n_in, n_cl, if_neg, m_stretchOf', s_eq, s_ne, wSt_ge, wSt_o, o_eq, if_pos, if_neg, not_true_eq_false, not_false_eq_true, or_true, true_or, or_false, false_or, false_and, and_false, Nat.reduceEqDiff, Nat.reduceLT, Nat.reduceMul, Nat.not_lt_zero, Nat.zero_le, Nat.le_refl, ne_eq, reduceIte, reduceCtorEq, B_51_82, bk_51_82, o_add_l]
    by_cases e : fB (wBd I a ru li pu n) n k = n
    · rw [if_pos e] at hbb
      subst hbb
      rw [if_neg (by simp)]
      by_cases e2 : wLn I a ru pu n k * 100 ≤ I (a + 2) k * li
      · rw [if_pos (show (I (a + 1) k + I (a + 1) k * vStr ru pu (nI k) (nI n) / 10000) * 100 ≤ _ from e2)]
        refine Ev_cg rfl ?_ hnext
        simp [fB, e, wBd, e2]
      · rw [if_neg (show ¬ (I (a + 1) k + I (a + 1) k * vStr ru pu (nI k) (nI n) / 10000) * 100 ≤ _ from e2)]
        refine Ev_cg rfl ?_ hnext
        have e3 : ¬ k = n := by omega
        simp [fB, e, wBd, e2, e3]
    · rw [if_neg e] at hbb
      subst hbb
      rw [if_pos (n_m1 (by omega))]
      refine Ev_cg rfl ?_ hnext
      simp [fB, e]
  · rw [B_51_12]
    simp (disch := omega) only [e_iconst, e_bipush, e_sipush, e_iload_n, e_iload, e_aload_n, e_aload, e_istore_n, e_istore, e_astore_n, e_astore, e_iinc, e_iadd, e_isub, e_imul, e_iand, e_ishr, e_idiv, e_i2c, e_dup_i, e_dup_r, e_dup2, e_pop, e_goto, e_nop, e_if_eq, e_if_ne, e_if_lt, e_if_ge, e_if_gt, e_if_le, e_icmp_eq, e_icmp_ne, e_icmp_lt, e_icmp_ge, e_icmp_gt, e_icmp_le, e_tsw, e_ret0, e_ret1, e_retn, e_getI, e_getZ, e_getR, e_getV, e_getC, e_putI, e_putZ, e_putF, e_gst0, e_gst1, e_sld, e_iald, e_cald, e_bald, e_iast, e_cast, e_aald, e_aast, e_alen, e_slen, e_blen, e_newa, e_newq, e_new, e_oinit, e_ctor, e_virt, e_stat, e_min, e_copy, e_ldc, List.cons_append, List.nil_append, List.append_nil, List.length_cons, List.length_nil, List.replicate_succ, List.replicate_zero, List.getElem?_cons_zero, List.getElem?_cons_succ, List.set_cons_zero, List.set_cons_succ, List.take_succ_cons, List.take_zero, List.drop_succ_cons, List.drop_zero, List.reverse_cons, List.reverse_nil, Option.toList_some, Option.toList_none, Nat.reduceSub, Nat.reduceAdd, Nat.reduceLeDiff, true_and, and_true, and_self, Option.some.injEq, exists_eq_left', Nat.zero_add, Value.int.injEq, Value.ref.injEq, List.cons.injEq, exists_and_left, and_assoc, exists_eq_left, List.all_cons, List.all_nil, m1_i, m1_r, Bool.and_self, Bool.and_true, bk_51_12, B_51_88, bk_51_88, h0, h1, h2, h3, r0, r1, r2, n_add, n_mul, n_sub, n_cl, n_in, n_eq, n_lt, n_le, o_add_l, o_add_r, o_mul_l, o_mul_r, o_sub_l, o_sub_r, o_lt_l, o_lt_r, o_le_l, o_le_r, o_eq_l, o_eq_r, o_eq, o_lt, o_le, o_cl, o_in, n_m1, n_m1', n_ne0, if_pos, if_neg, not_true_eq_false, not_false_eq_true, or_true, true_or, or_false, false_or, false_and, and_false, Nat.reduceEqDiff, Nat.reduceLT, Nat.reduceMul, Nat.not_lt_zero, Nat.zero_le, Nat.le_refl, ne_eq, reduceIte, reduceCtorEq]
end
section
/-! THE WIRE, further: tails, joining, breaking, sums, the nearest gap -/
/-- the cells after k gaps of b from l + 1 on went behind ca letters of a -/
def wAp (I : Nat → Nat → Int32) (a b ca l k : Nat) : Nat → Nat → Int32 := fun x j =>
  if (x = a + 1 ∨ x = a + 2 ∨ x = a + 3) ∧ ca + 1 ≤ j ∧ j < ca + 1 + k then I (b + (x - a)) (l + 1 + (j - (ca + 1))) else I x j
theorem wAp_o {I : Nat → Nat → Int32} {a b ca l k x j : Nat} (h : x < a + 1 ∨ a + 3 < x) : wAp I a b ca l k x j = I x j := if_neg (by omega)
theorem wAp_s {I : Nat → Nat → Int32} {a b ca l k : Nat} (hab : a + 4 ≤ b ∨ b + 4 ≤ a) : wAp I a b ca l (k + 1) = mSet (mSet (mSet (wAp I a b ca l k) (a + 1) (ca + 1 + k) (wAp I a b ca l k (b + 1) (l + 1 + k))) (a + 2) (ca + 1 + k) (wAp I a b ca l k (b + 2) (l + 1 + k))) (a + 3) (ca + 1 + k) (wAp I a b ca l k (b + 3) (l + 1 + k)) := by
  rw [wAp_o (x := b + 1) (by omega), wAp_o (x := b + 2) (by omega), wAp_o (x := b + 3) (by omega)]
  funext x j
  simp only [mSet]
  by_cases c1 : (x = a + 1 ∨ x = a + 2 ∨ x = a + 3) ∧ j = ca + 1 + k
  · obtain ⟨c1, rfl⟩ := c1
    rw [wAp, if_pos ⟨c1, by omega, by omega⟩, show l + 1 + (ca + 1 + k - (ca + 1)) = l + 1 + k by omega]
    rcases c1 with rfl | rfl | rfl
    · rw [if_neg (by omega), if_neg (by omega), if_pos ⟨rfl, rfl⟩, show b + (a + 1 - a) = b + 1 by omega]
    · rw [if_neg (by omega), if_pos ⟨rfl, rfl⟩, show b + (a + 2 - a) = b + 2 by omega]
    · rw [if_pos ⟨rfl, rfl⟩, show b + (a + 3 - a) = b + 3 by omega]
  · rw [if_neg (by omega), if_neg (by omega), if_neg (by omega), wAp, wAp]
    by_cases c2 : (x = a + 1 ∨ x = a + 2 ∨ x = a + 3) ∧ ca + 1 ≤ j ∧ j < ca + 1 + k
    · rw [if_pos c2, if_pos (by omega)]
    · rw [if_neg c2, if_neg (by omega)]
theorem m_appendBehind {K : mK} {R : Nat → Nat → Option Nat} {I : Nat → Nat → Int32} {a b ca cl c l : Nat} {Q : Option Value → mH → Prop} (h : zW K R a) (h' : zW K R b) (hab : a + 4 ≤ b ∨ b + 4 ≤ a) (hca : I a 5 = nI ca) (hf : wF I b 1 cl c) (hl : l ≤ c) (hr : ca + (c - l) ≤ 30) :
    EvM 49 [.ref a, .ref b, .int (nI l)] (K, R, I) Q ↔ Q none (K, R, mSet (mSet (wAp I a b ca l (c + cl - l)) a 5 (nI (ca + (c - l)))) a 4 (nI cl)) := by
  obtain ⟨h0, h1, h2, h3, r0, r1, r2, h4⟩ := id h
  obtain ⟨h0', h1', h2', h3', r0', r1', r2', h4'⟩ := id h'
  obtain ⟨f1, f2, f3, f4, f5, f6⟩ := id hf
  refine EvM_iff ?_
  unfold EvM
  have hg : ngp 1 cl c = c + 1 + cl := rfl
  simp (disch := omega) only [e_iconst, e_bipush, e_sipush, e_iload_n, e_iload, e_aload_n, e_aload, e_istore_n, e_istore, e_astore_n, e_astore, e_iinc, e_iadd, e_isub, e_imul, e_iand, e_ishr, e_idiv, e_i2c, e_dup_i, e_dup_r, e_dup2, e_pop, e_goto, e_nop, e_if_eq, e_if_ne, e_if_lt, e_if_ge, e_if_gt, e_if_le, e_icmp_eq, e_icmp_ne, e_icmp_lt, e_icmp_ge, e_icmp_gt, e_icmp_le, e_tsw, e_ret0, e_ret1, e_retn, e_getI, e_getZ, e_getR, e_getV, e_getC, e_putI, e_putZ, e_putF, e_gst0, e_gst1, e_sld, e_iald, e_cald, e_bald, e_iast, e_cast, e_aald, e_aast, e_alen, e_slen, e_blen, e_newa, e_newq, e_new, e_oinit, e_ctor, e_virt, e_stat, e_min, e_copy, e_ldc, List.cons_append, List.nil_append, List.append_nil, List.length_cons, List.length_nil, List.replicate_succ, List.replicate_zero, List.getElem?_cons_zero, List.getElem?_cons_succ, List.set_cons_zero, List.set_cons_succ, List.take_succ_cons, List.take_zero, List.drop_succ_cons, List.drop_zero, List.reverse_cons, List.reverse_nil, Option.toList_some, Option.toList_none, Nat.reduceSub, Nat.reduceAdd, Nat.reduceLeDiff, true_and, and_true, and_self, Option.some.injEq, exists_eq_left', Nat.zero_add, Value.int.injEq, Value.ref.injEq, List.cons.injEq, exists_and_left, and_assoc, exists_eq_left, List.all_cons, List.all_nil, m1_i, m1_r, Bool.and_self, Bool.and_true, N_49, B_49_0, bk_49_0, h0, h0', C_37, m_gapsN h' hf, hg, hca, o_add_l, if_pos, if_neg, not_true_eq_false, not_false_eq_true, or_true, true_or, or_false, false_or, false_and, and_false, Nat.reduceEqDiff, Nat.reduceLT, Nat.reduceMul, Nat.not_lt_zero, Nat.zero_le, Nat.le_refl, ne_eq, reduceIte, reduceCtorEq]
  have key := loop_dn (n := c + cl - l) (P := fun k => Ev 49 (mB 49 18) [.ref a, .ref b, .int (nI l), .int (nI (c + 1 + cl)), .int (nI (ca + 1 + k)), .int (nI (l + 1 + k))] [] (K, R, wAp I a b ca l k) (fun v k => v = none ∧ k = (K, R, mSet (mSet (wAp I a b ca l (c + cl - l)) a 5 (nI (ca + (c - l)))) a 4 (nI cl)))) ?_ ?_
  · refine Ev_cg ?_ rfl key
    funext x j; rw [wAp, if_neg (by omega)]
  · intro k hk hnext
    rw [B_49_18]
    simp (disch := omega) only [e_iconst, e_bipush, e_sipush, e_iload_n, e_iload, e_aload_n, e_aload, e_istore_n, e_istore, e_astore_n, e_astore, e_iinc, e_iadd, e_isub, e_imul, e_iand, e_ishr, e_idiv, e_i2c, e_dup_i, e_dup_r, e_dup2, e_pop, e_goto, e_nop, e_if_eq, e_if_ne, e_if_lt, e_if_ge, e_if_gt, e_if_le, e_icmp_eq, e_icmp_ne, e_icmp_lt, e_icmp_ge, e_icmp_gt, e_icmp_le, e_tsw, e_ret0, e_ret1, e_retn, e_getI, e_getZ, e_getR, e_getV, e_getC, e_putI, e_putZ, e_putF, e_gst0, e_gst1, e_sld, e_iald, e_cald, e_bald, e_iast, e_cast, e_aald, e_aast, e_alen, e_slen, e_blen, e_newa, e_newq, e_new, e_oinit, e_ctor, e_virt, e_stat, e_min, e_copy, e_ldc, List.cons_append, List.nil_append, List.append_nil, List.length_cons, List.length_nil, List.replicate_succ, List.replicate_zero, List.getElem?_cons_zero, List.getElem?_cons_succ, List.set_cons_zero, List.set_cons_succ, List.take_succ_cons, List.take_zero, List.drop_succ_cons, List.drop_zero, List.reverse_cons, List.reverse_nil, Option.toList_some, Option.toList_none, Nat.reduceSub, Nat.reduceAdd, Nat.reduceLeDiff, true_and, and_true, and_self, Option.some.injEq, exists_eq_left', Nat.zero_add, Value.int.injEq, Value.ref.injEq, List.cons.injEq, exists_and_left, and_assoc, exists_eq_left, List.all_cons, List.all_nil, m1_i, m1_r, Bool.and_self, Bool.and_true, bk_49_18, h0, h0', C_46, m_copyGap h h' (show l + 1 + k < 32 by omega) (show ca + 1 + k < 32 by omega) hab, n_le, o_le_r, if_neg, o_add_l, if_pos, if_neg, not_true_eq_false, not_false_eq_true, or_true, true_or, or_false, false_or, false_and, and_false, Nat.reduceEqDiff, Nat.reduceLT, Nat.reduceMul, Nat.not_lt_zero, Nat.zero_le, Nat.le_refl, ne_eq, reduceIte, reduceCtorEq]
    rw [wAp_s hab] at hnext
    exact hnext
  · rw [B_49_18]
    simp (disch := omega) only [e_iconst, e_bipush, e_sipush, e_iload_n, e_iload, e_aload_n, e_aload, e_istore_n, e_istore, e_astore_n, e_astore, e_iinc, e_iadd, e_isub, e_imul, e_iand, e_ishr, e_idiv, e_i2c, e_dup_i, e_dup_r, e_dup2, e_pop, e_goto, e_nop, e_if_eq, e_if_ne, e_if_lt, e_if_ge, e_if_gt, e_if_le, e_icmp_eq, e_icmp_ne, e_icmp_lt, e_icmp_ge, e_icmp_gt, e_icmp_le, e_tsw, e_ret0, e_ret1, e_retn, e_getI, e_getZ, e_getR, e_getV, e_getC, e_putI, e_putZ, e_putF, e_gst0, e_gst1, e_sld, e_iald, e_cald, e_bald, e_iast, e_cast, e_aald, e_aast, e_alen, e_slen, e_blen, e_newa, e_newq, e_new, e_oinit, e_ctor, e_virt, e_stat, e_min, e_copy, e_ldc, List.cons_append, List.nil_append, List.append_nil, List.length_cons, List.length_nil, List.replicate_succ, List.replicate_zero, List.getElem?_cons_zero, List.getElem?_cons_succ, List.set_cons_zero, List.set_cons_succ, List.take_succ_cons, List.take_zero, List.drop_succ_cons, List.drop_zero, List.reverse_cons, List.reverse_nil, Option.toList_some, Option.toList_none, Nat.reduceSub, Nat.reduceAdd, Nat.reduceLeDiff, true_and, and_true, and_self, Option.some.injEq, exists_eq_left', Nat.zero_add, Value.int.injEq, Value.ref.injEq, List.cons.injEq, exists_and_left, and_assoc, exists_eq_left, List.all_cons, List.all_nil, m1_i, m1_r, Bool.and_self, Bool.and_true, bk_49_18, B_49_49, bk_49_49, h0, h0', n_le, if_pos, f3, f2, hca, wAp_o, n_sub, n_add, s_ne, if_pos, if_neg, not_true_eq_false, not_false_eq_true, or_true, true_or, or_false, false_or, false_and, and_false, Nat.reduceEqDiff, Nat.reduceLT, Nat.reduceMul, Nat.not_lt_zero, Nat.zero_le, Nat.le_refl, ne_eq, reduceIte, reduceCtorEq]
    rcases (show cl = 0 ∨ cl = 1 by omega) with rfl | rfl
    · exact Or.inl rfl
    · exact Or.inr rfl
theorem m_breakAt {K : mK} {R : Nat → Nat → Option Nat} {I : Nat → Nat → Int32} {a c g : Nat} {Q : Option Value → mH → Prop} (h : zW K R a) (hc : I a 5 = nI c) (hc2 : c ≤ 30) (hg : g < 32) :
    EvM 52 [.ref a, .int (nI g)] (K, R, I) Q ↔ Q none (K, R, if g = 0 then mSet (mSet (mSet (mSet I a 3 0) a 4 0) a 5 0) a 6 0 else mSet (mSet I a 5 (nI (if c < g - 1 then c else g - 1))) a 4 0) := by
  obtain ⟨h0, h1, h2, h3, r0, r1, r2, h4⟩ := id h
  refine EvM_iff ?_
  unfold EvM
  by_cases e : g = 0
  · subst e
    simp (disch := omega) only [e_iconst, e_bipush, e_sipush, e_iload_n, e_iload, e_aload_n, e_aload, e_istore_n, e_istore, e_astore_n, e_astore, e_iinc, e_iadd, e_isub, e_imul, e_iand, e_ishr, e_idiv, e_i2c, e_dup_i, e_dup_r, e_dup2, e_pop, e_goto, e_nop, e_if_eq, e_if_ne, e_if_lt, e_if_ge, e_if_gt, e_if_le, e_icmp_eq, e_icmp_ne, e_icmp_lt, e_icmp_ge, e_icmp_gt, e_icmp_le, e_tsw, e_ret0, e_ret1, e_retn, e_getI, e_getZ, e_getR, e_getV, e_getC, e_putI, e_putZ, e_putF, e_gst0, e_gst1, e_sld, e_iald, e_cald, e_bald, e_iast, e_cast, e_aald, e_aast, e_alen, e_slen, e_blen, e_newa, e_newq, e_new, e_oinit, e_ctor, e_virt, e_stat, e_min, e_copy, e_ldc, List.cons_append, List.nil_append, List.append_nil, List.length_cons, List.length_nil, List.replicate_succ, List.replicate_zero, List.getElem?_cons_zero, List.getElem?_cons_succ, List.set_cons_zero, List.set_cons_succ, List.take_succ_cons, List.take_zero, List.drop_succ_cons, List.drop_zero, List.reverse_cons, List.reverse_nil, Option.toList_some, Option.toList_none, Nat.reduceSub, Nat.reduceAdd, Nat.reduceLeDiff, true_and, and_true, and_self, Option.some.injEq, exists_eq_left', Nat.zero_add, Value.int.injEq, Value.ref.injEq, List.cons.injEq, exists_and_left, and_assoc, exists_eq_left, List.all_cons, List.all_nil, m1_i, m1_r, Bool.and_self, Bool.and_true, N_52, C_52, B_52_0, bk_52_0, B_52_9, bk_52_9, h0, C_41, m_empty h, o_lt_r, Nat.lt_irrefl, if_pos, if_neg, not_true_eq_false, not_false_eq_true, or_true, true_or, or_false, false_or, false_and, and_false, Nat.reduceEqDiff, Nat.reduceLT, Nat.reduceMul, Nat.not_lt_zero, Nat.zero_le, Nat.le_refl, ne_eq, reduceIte, reduceCtorEq]
  · simp (disch := omega) only [e_iconst, e_bipush, e_sipush, e_iload_n, e_iload, e_aload_n, e_aload, e_istore_n, e_istore, e_astore_n, e_astore, e_iinc, e_iadd, e_isub, e_imul, e_iand, e_ishr, e_idiv, e_i2c, e_dup_i, e_dup_r, e_dup2, e_pop, e_goto, e_nop, e_if_eq, e_if_ne, e_if_lt, e_if_ge, e_if_gt, e_if_le, e_icmp_eq, e_icmp_ne, e_icmp_lt, e_icmp_ge, e_icmp_gt, e_icmp_le, e_tsw, e_ret0, e_ret1, e_retn, e_getI, e_getZ, e_getR, e_getV, e_getC, e_putI, e_putZ, e_putF, e_gst0, e_gst1, e_sld, e_iald, e_cald, e_bald, e_iast, e_cast, e_aald, e_aast, e_alen, e_slen, e_blen, e_newa, e_newq, e_new, e_oinit, e_ctor, e_virt, e_stat, e_min, e_copy, e_ldc, List.cons_append, List.nil_append, List.append_nil, List.length_cons, List.length_nil, List.replicate_succ, List.replicate_zero, List.getElem?_cons_zero, List.getElem?_cons_succ, List.set_cons_zero, List.set_cons_succ, List.take_succ_cons, List.take_zero, List.drop_succ_cons, List.drop_zero, List.reverse_cons, List.reverse_nil, Option.toList_some, Option.toList_none, Nat.reduceSub, Nat.reduceAdd, Nat.reduceLeDiff, true_and, and_true, and_self, Option.some.injEq, exists_eq_left', Nat.zero_add, Value.int.injEq, Value.ref.injEq, List.cons.injEq, exists_and_left, and_assoc, exists_eq_left, List.all_cons, List.all_nil, m1_i, m1_r, Bool.and_self, Bool.and_true, N_52, C_52, B_52_0, bk_52_0, B_52_9, bk_52_9, h0, hc, o_lt_r, o_sub_l, n_lt, n_sub, if_pos, if_pos, if_neg, not_true_eq_false, not_false_eq_true, or_true, true_or, or_false, false_or, false_and, and_false, Nat.reduceEqDiff, Nat.reduceLT, Nat.reduceMul, Nat.not_lt_zero, Nat.zero_le, Nat.le_refl, ne_eq, reduceIte, reduceCtorEq, e]
    by_cases e2 : g - 1 < c
    · rw [if_pos e2, if_neg (by omega)]
    · by_cases e3 : c < g - 1
      · rw [if_neg e2, if_pos e3]
      · rw [if_neg e2, if_neg e3, show c = g - 1 by omega]
theorem m_takeTail {K : mK} {R : Nat → Nat → Option Nat} {I : Nat → Nat → Int32} {a b cl c l : Nat} {Q : Option Value → mH → Prop} (h : zW K R a) (h' : zW K R b) (hab : a + 4 ≤ b ∨ b + 4 ≤ a) (hf : wF I b 1 cl c) (hl : l ≤ c) :
    EvM 47 [.ref a, .ref b, .int (nI l)] (K, R, I) Q ↔ Q none (K, R, mSet (mSet (mSet (mSet (wAp (mSet (mSet (mSet (mSet (mSet (mSet (mSet (mSet I a 3 0) a 4 0) a 5 0) a 6 0) a 3 1) (a + 1) 0 5000) (a + 2) 0 5000) (a + 3) 0 (-1)) a b 0 l (c + cl - l)) a 5 (nI (0 + (c - l)))) a 4 (nI cl)) b 5 (nI l)) b 4 0) := by
  obtain ⟨h0, h1, h2, h3, r0, r1, r2, h4⟩ := id h
  obtain ⟨h0', h1', h2', h3', r0', r1', r2', h4'⟩ := id h'
  obtain ⟨f1, f2, f3, f4, f5, f6⟩ := id hf
  have hf2 : wF (mSet (mSet (mSet (mSet (mSet (mSet (mSet (mSet I a 3 0) a 4 0) a 5 0) a 6 0) a 3 1) (a + 1) 0 5000) (a + 2) 0 5000) (a + 3) 0 (-1)) b 1 cl c := by
    refine ⟨?_, ?_, ?_, f4, f5, f6⟩ <;> simp (disch := omega) only [s_ne, f1, f2, f3]
  have hca : mSet (mSet (mSet (mSet (mSet (mSet (mSet (mSet I a 3 0) a 4 0) a 5 0) a 6 0) a 3 1) (a + 1) 0 5000) (a + 2) 0 5000) (a + 3) 0 (-1) a 5 = nI 0 := by
    simp (disch := omega) only [s_ne, s_eq]; rfl
  unfold EvM
  simp (disch := omega) only [e_iconst, e_bipush, e_sipush, e_iload_n, e_iload, e_aload_n, e_aload, e_istore_n, e_istore, e_astore_n, e_astore, e_iinc, e_iadd, e_isub, e_imul, e_iand, e_ishr, e_idiv, e_i2c, e_dup_i, e_dup_r, e_dup2, e_pop, e_goto, e_nop, e_if_eq, e_if_ne, e_if_lt, e_if_ge, e_if_gt, e_if_le, e_icmp_eq, e_icmp_ne, e_icmp_lt, e_icmp_ge, e_icmp_gt, e_icmp_le, e_tsw, e_ret0, e_ret1, e_retn, e_getI, e_getZ, e_getR, e_getV, e_getC, e_putI, e_putZ, e_putF, e_gst0, e_gst1, e_sld, e_iald, e_cald, e_bald, e_iast, e_cast, e_aald, e_aast, e_alen, e_slen, e_blen, e_newa, e_newq, e_new, e_oinit, e_ctor, e_virt, e_stat, e_min, e_copy, e_ldc, List.cons_append, List.nil_append, List.append_nil, List.length_cons, List.length_nil, List.replicate_succ, List.replicate_zero, List.getElem?_cons_zero, List.getElem?_cons_succ, List.set_cons_zero, List.set_cons_succ, List.take_succ_cons, List.take_zero, List.drop_succ_cons, List.drop_zero, List.reverse_cons, List.reverse_nil, Option.toList_some, Option.toList_none, Nat.reduceSub, Nat.reduceAdd, Nat.reduceLeDiff, true_and, and_true, and_self, Option.some.injEq, exists_eq_left', Nat.zero_add, Value.int.injEq, Value.ref.injEq, List.cons.injEq, exists_and_left, and_assoc, exists_eq_left, List.all_cons, List.all_nil, m1_i, m1_r, Bool.and_self, Bool.and_true, N_47, C_47, B_47_0, bk_47_0, h0, h0', C_42, C_49, m_begin h, m_appendBehind h h' hab hca hf2 hl (by omega), if_pos, if_neg, not_true_eq_false, not_false_eq_true, or_true, true_or, or_false, false_or, false_and, and_false, Nat.reduceEqDiff, Nat.reduceLT, Nat.reduceMul, Nat.not_lt_zero, Nat.zero_le, Nat.le_refl, ne_eq, reduceIte, reduceCtorEq]
theorem m_join {K : mK} {R : Nat → Nat → Option Nat} {I : Nat → Nat → Int32} {a b ca cl c : Nat} {Q : Option Value → mH → Prop} (h : zW K R a) (h' : zW K R b) (hab : a + 4 ≤ b ∨ b + 4 ≤ a) (hca : I a 5 = nI ca) (hf : wF I b 1 cl c) (hr : ca + c ≤ 30) :
    EvM 48 [.ref a, .ref b] (K, R, I) Q ↔ Q none (K, R, mSet (mSet (mSet (mSet (mSet (mSet (wAp I a b ca 0 (c + cl - 0)) a 5 (nI (ca + (c - 0)))) a 4 (nI cl)) b 3 0) b 4 0) b 5 0) b 6 0) := by
  obtain ⟨h0, h1, h2, h3, r0, r1, r2, h4⟩ := id h
  obtain ⟨h0', h1', h2', h3', r0', r1', r2', h4'⟩ := id h'
  have e0 : EvM 49 [.ref a, .ref b, .int 0] (K, R, I) (fun v k => v = none ∧ k = (K, R, mSet (mSet (wAp I a b ca 0 (c + cl - 0)) a 5 (nI (ca + (c - 0)))) a 4 (nI cl))) := (m_appendBehind (l := 0) h h' hab hca hf (Nat.zero_le _) (by omega)).mpr ⟨rfl, rfl⟩
  unfold EvM
  simp (disch := omega) only [e_iconst, e_bipush, e_sipush, e_iload_n, e_iload, e_aload_n, e_aload, e_istore_n, e_istore, e_astore_n, e_astore, e_iinc, e_iadd, e_isub, e_imul, e_iand, e_ishr, e_idiv, e_i2c, e_dup_i, e_dup_r, e_dup2, e_pop, e_goto, e_nop, e_if_eq, e_if_ne, e_if_lt, e_if_ge, e_if_gt, e_if_le, e_icmp_eq, e_icmp_ne, e_icmp_lt, e_icmp_ge, e_icmp_gt, e_icmp_le, e_tsw, e_ret0, e_ret1, e_retn, e_getI, e_getZ, e_getR, e_getV, e_getC, e_putI, e_putZ, e_putF, e_gst0, e_gst1, e_sld, e_iald, e_cald, e_bald, e_iast, e_cast, e_aald, e_aast, e_alen, e_slen, e_blen, e_newa, e_newq, e_new, e_oinit, e_ctor, e_virt, e_stat, e_min, e_copy, e_ldc, List.cons_append, List.nil_append, List.append_nil, List.length_cons, List.length_nil, List.replicate_succ, List.replicate_zero, List.getElem?_cons_zero, List.getElem?_cons_succ, List.set_cons_zero, List.set_cons_succ, List.take_succ_cons, List.take_zero, List.drop_succ_cons, List.drop_zero, List.reverse_cons, List.reverse_nil, Option.toList_some, Option.toList_none, Nat.reduceSub, Nat.reduceAdd, Nat.reduceLeDiff, true_and, and_true, and_self, Option.some.injEq, exists_eq_left', Nat.zero_add, Value.int.injEq, Value.ref.injEq, List.cons.injEq, exists_and_left, and_assoc, exists_eq_left, List.all_cons, List.all_nil, m1_i, m1_r, Bool.and_self, Bool.and_true, N_48, C_48, B_48_0, bk_48_0, h0, h0', C_41, C_49, EvM_iff e0, m_empty h', if_pos, if_neg, not_true_eq_false, not_false_eq_true, or_true, true_or, or_false, false_or, false_and, and_false, Nat.reduceEqDiff, Nat.reduceLT, Nat.reduceMul, Nat.not_lt_zero, Nat.zero_le, Nat.le_refl, ne_eq, reduceIte, reduceCtorEq]
end
section
/-! THE WIRE, at last: sums, strain, the nearest gap, punching anew -/
def sm (f : Nat → Int32) : Nat → Int32
  | 0 => 0
  | k + 1 => sm f k + f k
theorem ngp_le {p cl c : Nat} (h : cl ≤ 1) (h2 : c ≤ 30) : ngp p cl c ≤ 32 := by unfold ngp; split <;> omega
theorem m_sum {K : mK} {R : Nat → Nat → Option Nat} {I : Nat → Nat → Int32} {a p cl c r : Nat} {Q : Option Value → mH → Prop} (h : zW K R a) (hf : wF I a p cl c) (hr : K.2.2.1 r = (2, 32)) :
    EvM 55 [.ref a, .ref r] (K, R, I) Q ↔ Q (some (.int (sm (I r) (ngp p cl c)))) (K, R, I) := by
  obtain ⟨h0, h1, h2, h3, r0, r1, r2, h4⟩ := id h
  have hn := ngp_le (p := p) hf.2.2.2.2.1 hf.2.2.2.2.2
  refine EvM_iff ?_
  unfold EvM
  simp (disch := omega) only [e_iconst, e_bipush, e_sipush, e_iload_n, e_iload, e_aload_n, e_aload, e_istore_n, e_istore, e_astore_n, e_astore, e_iinc, e_iadd, e_isub, e_imul, e_iand, e_ishr, e_idiv, e_i2c, e_dup_i, e_dup_r, e_dup2, e_pop, e_goto, e_nop, e_if_eq, e_if_ne, e_if_lt, e_if_ge, e_if_gt, e_if_le, e_icmp_eq, e_icmp_ne, e_icmp_lt, e_icmp_ge, e_icmp_gt, e_icmp_le, e_tsw, e_ret0, e_ret1, e_retn, e_getI, e_getZ, e_getR, e_getV, e_getC, e_putI, e_putZ, e_putF, e_gst0, e_gst1, e_sld, e_iald, e_cald, e_bald, e_iast, e_cast, e_aald, e_aast, e_alen, e_slen, e_blen, e_newa, e_newq, e_new, e_oinit, e_ctor, e_virt, e_stat, e_min, e_copy, e_ldc, List.cons_append, List.nil_append, List.append_nil, List.length_cons, List.length_nil, List.replicate_succ, List.replicate_zero, List.getElem?_cons_zero, List.getElem?_cons_succ, List.set_cons_zero, List.set_cons_succ, List.take_succ_cons, List.take_zero, List.drop_succ_cons, List.drop_zero, List.reverse_cons, List.reverse_nil, Option.toList_some, Option.toList_none, Nat.reduceSub, Nat.reduceAdd, Nat.reduceLeDiff, true_and, and_true, and_self, Option.some.injEq, exists_eq_left', Nat.zero_add, Value.int.injEq, Value.ref.injEq, List.cons.injEq, exists_and_left, and_assoc, exists_eq_left, List.all_cons, List.all_nil, m1_i, m1_r, Bool.and_self, Bool.and_true, N_55, B_55_0, bk_55_0, h0, C_37, m_gapsN h hf, if_pos, if_neg, not_true_eq_false, not_false_eq_true, or_true, true_or, or_false, false_or, false_and, and_false, Nat.reduceEqDiff, Nat.reduceLT, Nat.reduceMul, Nat.not_lt_zero, Nat.zero_le, Nat.le_refl, ne_eq, reduceIte, reduceCtorEq]
  generalize ngp p cl c = n at hn ⊢
  have key := loop_dn (n := n) (P := fun k => Ev 55 (mB 55 10) [.ref a, .ref r, .int (sm (I r) k), .int (nI n), .int (nI k)] [] (K, R, I) (fun v k => v = some (.int (sm (I r) n)) ∧ k = (K, R, I))) ?_ ?_
  · exact key
  · intro k hk hnext
    rw [B_55_10]
    simp (disch := omega) only [e_iconst, e_bipush, e_sipush, e_iload_n, e_iload, e_aload_n, e_aload, e_istore_n, e_istore, e_astore_n, e_astore, e_iinc, e_iadd, e_isub, e_imul, e_iand, e_ishr, e_idiv, e_i2c, e_dup_i, e_dup_r, e_dup2, e_pop, e_goto, e_nop, e_if_eq, e_if_ne, e_if_lt, e_if_ge, e_if_gt, e_if_le, e_icmp_eq, e_icmp_ne, e_icmp_lt, e_icmp_ge, e_icmp_gt, e_icmp_le, e_tsw, e_ret0, e_ret1, e_retn, e_getI, e_getZ, e_getR, e_getV, e_getC, e_putI, e_putZ, e_putF, e_gst0, e_gst1, e_sld, e_iald, e_cald, e_bald, e_iast, e_cast, e_aald, e_aast, e_alen, e_slen, e_blen, e_newa, e_newq, e_new, e_oinit, e_ctor, e_virt, e_stat, e_min, e_copy, e_ldc, List.cons_append, List.nil_append, List.append_nil, List.length_cons, List.length_nil, List.replicate_succ, List.replicate_zero, List.getElem?_cons_zero, List.getElem?_cons_succ, List.set_cons_zero, List.set_cons_succ, List.take_succ_cons, List.take_zero, List.drop_succ_cons, List.drop_zero, List.reverse_cons, List.reverse_nil, Option.toList_some, Option.toList_none, Nat.reduceSub, Nat.reduceAdd, Nat.reduceLeDiff, true_and, and_true, and_self, Option.some.injEq, exists_eq_left', Nat.zero_add, Value.int.injEq, Value.ref.injEq, List.cons.injEq, exists_and_left, and_assoc, exists_eq_left, List.all_cons, List.all_nil, m1_i, m1_r, Bool.and_self, Bool.and_true, bk_55_10, hr, n_le, n_in, n_cl, if_neg, o_add_l, if_pos, if_neg, not_true_eq_false, not_false_eq_true, or_true, true_or, or_false, false_or, false_and, and_false, Nat.reduceEqDiff, Nat.reduceLT, Nat.reduceMul, Nat.not_lt_zero, Nat.zero_le, Nat.le_refl, ne_eq, reduceIte, reduceCtorEq]
    exact hnext
  · rw [B_55_10]
    simp (disch := omega) only [e_iconst, e_bipush, e_sipush, e_iload_n, e_iload, e_aload_n, e_aload, e_istore_n, e_istore, e_astore_n, e_astore, e_iinc, e_iadd, e_isub, e_imul, e_iand, e_ishr, e_idiv, e_i2c, e_dup_i, e_dup_r, e_dup2, e_pop, e_goto, e_nop, e_if_eq, e_if_ne, e_if_lt, e_if_ge, e_if_gt, e_if_le, e_icmp_eq, e_icmp_ne, e_icmp_lt, e_icmp_ge, e_icmp_gt, e_icmp_le, e_tsw, e_ret0, e_ret1, e_retn, e_getI, e_getZ, e_getR, e_getV, e_getC, e_putI, e_putZ, e_putF, e_gst0, e_gst1, e_sld, e_iald, e_cald, e_bald, e_iast, e_cast, e_aald, e_aast, e_alen, e_slen, e_blen, e_newa, e_newq, e_new, e_oinit, e_ctor, e_virt, e_stat, e_min, e_copy, e_ldc, List.cons_append, List.nil_append, List.append_nil, List.length_cons, List.length_nil, List.replicate_succ, List.replicate_zero, List.getElem?_cons_zero, List.getElem?_cons_succ, List.set_cons_zero, List.set_cons_succ, List.take_succ_cons, List.take_zero, List.drop_succ_cons, List.drop_zero, List.reverse_cons, List.reverse_nil, Option.toList_some, Option.toList_none, Nat.reduceSub, Nat.reduceAdd, Nat.reduceLeDiff, true_and, and_true, and_self, Option.some.injEq, exists_eq_left', Nat.zero_add, Value.int.injEq, Value.ref.injEq, List.cons.injEq, exists_and_left, and_assoc, exists_eq_left, List.all_cons, List.all_nil, m1_i, m1_r, Bool.and_self, Bool.and_true, bk_55_10, B_55_36, bk_55_36, n_le, if_pos, if_pos, if_neg, not_true_eq_false, not_false_eq_true, or_true, true_or, or_false, false_or, false_and, and_false, Nat.reduceEqDiff, Nat.reduceLT, Nat.reduceMul, Nat.not_lt_zero, Nat.zero_le, Nat.le_refl, ne_eq, reduceIte, reduceCtorEq]
theorem m_sumOfLengths {K : mK} {R : Nat → Nat → Option Nat} {I : Nat → Nat → Int32} {a p cl c : Nat} {Q : Option Value → mH → Prop} (h : zW K R a) (hf : wF I a p cl c) : EvM 53 [.ref a] (K, R, I) Q ↔ Q (some (.int (sm (I (a + 1)) (ngp p cl c)))) (K, R, I) := by
  obtain ⟨h0, h1, h2, h3, r0, r1, r2, h4⟩ := id h
  unfold EvM
  simp (disch := omega) only [e_iconst, e_bipush, e_sipush, e_iload_n, e_iload, e_aload_n, e_aload, e_istore_n, e_istore, e_astore_n, e_astore, e_iinc, e_iadd, e_isub, e_imul, e_iand, e_ishr, e_idiv, e_i2c, e_dup_i, e_dup_r, e_dup2, e_pop, e_goto, e_nop, e_if_eq, e_if_ne, e_if_lt, e_if_ge, e_if_gt, e_if_le, e_icmp_eq, e_icmp_ne, e_icmp_lt, e_icmp_ge, e_icmp_gt, e_icmp_le, e_tsw, e_ret0, e_ret1, e_retn, e_getI, e_getZ, e_getR, e_getV, e_getC, e_putI, e_putZ, e_putF, e_gst0, e_gst1, e_sld, e_iald, e_cald, e_bald, e_iast, e_cast, e_aald, e_aast, e_alen, e_slen, e_blen, e_newa, e_newq, e_new, e_oinit, e_ctor, e_virt, e_stat, e_min, e_copy, e_ldc, List.cons_append, List.nil_append, List.append_nil, List.length_cons, List.length_nil, List.replicate_succ, List.replicate_zero, List.getElem?_cons_zero, List.getElem?_cons_succ, List.set_cons_zero, List.set_cons_succ, List.take_succ_cons, List.take_zero, List.drop_succ_cons, List.drop_zero, List.reverse_cons, List.reverse_nil, Option.toList_some, Option.toList_none, Nat.reduceSub, Nat.reduceAdd, Nat.reduceLeDiff, true_and, and_true, and_self, Option.some.injEq, exists_eq_left', Nat.zero_add, Value.int.injEq, Value.ref.injEq, List.cons.injEq, exists_and_left, and_assoc, exists_eq_left, List.all_cons, List.all_nil, m1_i, m1_r, Bool.and_self, Bool.and_true, N_53, C_53, B_53_0, bk_53_0, h0, r0, C_55, m_sum h hf h1, if_pos, if_neg, not_true_eq_false, not_false_eq_true, or_true, true_or, or_false, false_or, false_and, and_false, Nat.reduceEqDiff, Nat.reduceLT, Nat.reduceMul, Nat.not_lt_zero, Nat.zero_le, Nat.le_refl, ne_eq, reduceIte, reduceCtorEq]
theorem m_sumOfNominals {K : mK} {R : Nat → Nat → Option Nat} {I : Nat → Nat → Int32} {a p cl c : Nat} {Q : Option Value → mH → Prop} (h : zW K R a) (hf : wF I a p cl c) : EvM 54 [.ref a] (K, R, I) Q ↔ Q (some (.int (sm (I (a + 2)) (ngp p cl c)))) (K, R, I) := by
  obtain ⟨h0, h1, h2, h3, r0, r1, r2, h4⟩ := id h
  unfold EvM
  simp (disch := omega) only [e_iconst, e_bipush, e_sipush, e_iload_n, e_iload, e_aload_n, e_aload, e_istore_n, e_istore, e_astore_n, e_astore, e_iinc, e_iadd, e_isub, e_imul, e_iand, e_ishr, e_idiv, e_i2c, e_dup_i, e_dup_r, e_dup2, e_pop, e_goto, e_nop, e_if_eq, e_if_ne, e_if_lt, e_if_ge, e_if_gt, e_if_le, e_icmp_eq, e_icmp_ne, e_icmp_lt, e_icmp_ge, e_icmp_gt, e_icmp_le, e_tsw, e_ret0, e_ret1, e_retn, e_getI, e_getZ, e_getR, e_getV, e_getC, e_putI, e_putZ, e_putF, e_gst0, e_gst1, e_sld, e_iald, e_cald, e_bald, e_iast, e_cast, e_aald, e_aast, e_alen, e_slen, e_blen, e_newa, e_newq, e_new, e_oinit, e_ctor, e_virt, e_stat, e_min, e_copy, e_ldc, List.cons_append, List.nil_append, List.append_nil, List.length_cons, List.length_nil, List.replicate_succ, List.replicate_zero, List.getElem?_cons_zero, List.getElem?_cons_succ, List.set_cons_zero, List.set_cons_succ, List.take_succ_cons, List.take_zero, List.drop_succ_cons, List.drop_zero, List.reverse_cons, List.reverse_nil, Option.toList_some, Option.toList_none, Nat.reduceSub, Nat.reduceAdd, Nat.reduceLeDiff, true_and, and_true, and_self, Option.some.injEq, exists_eq_left', Nat.zero_add, Value.int.injEq, Value.ref.injEq, List.cons.injEq, exists_and_left, and_assoc, exists_eq_left, List.all_cons, List.all_nil, m1_i, m1_r, Bool.and_self, Bool.and_true, N_54, C_54, B_54_0, bk_54_0, h0, r1, C_55, m_sum h hf h2, if_pos, if_neg, not_true_eq_false, not_false_eq_true, or_true, true_or, or_false, false_or, false_and, and_false, Nat.reduceEqDiff, Nat.reduceLT, Nat.reduceMul, Nat.not_lt_zero, Nat.zero_le, Nat.le_refl, ne_eq, reduceIte, reduceCtorEq]
def wQu (I : Nat → Nat → Int32) (a g : Nat) : Int32 := I (a + 1) g * 1000 / I (a + 2) g
theorem m_strain {K : mK} {R : Nat → Nat → Option Nat} {I : Nat → Nat → Int32} {a p cl c g y : Nat} {Q : Option Value → mH → Prop} (h : zW K R a) (hf : wF I a p cl c) (hg : g < ngp p cl c) (hy : I (a + 2) g = nI y) (hy1 : 0 < y) (hy2 : y < 100000) :
    EvM 57 [.ref a, .int (nI g)] (K, R, I) Q ↔ Q (some (.int (wQu I a g))) (K, R, I) := by
  obtain ⟨h0, h1, h2, h3, r0, r1, r2, h4⟩ := id h
  have hn := ngp_le (p := p) hf.2.2.2.2.1 hf.2.2.2.2.2
  unfold EvM
  simp (disch := omega) only [e_iconst, e_bipush, e_sipush, e_iload_n, e_iload, e_aload_n, e_aload, e_istore_n, e_istore, e_astore_n, e_astore, e_iinc, e_iadd, e_isub, e_imul, e_iand, e_ishr, e_idiv, e_i2c, e_dup_i, e_dup_r, e_dup2, e_pop, e_goto, e_nop, e_if_eq, e_if_ne, e_if_lt, e_if_ge, e_if_gt, e_if_le, e_icmp_eq, e_icmp_ne, e_icmp_lt, e_icmp_ge, e_icmp_gt, e_icmp_le, e_tsw, e_ret0, e_ret1, e_retn, e_getI, e_getZ, e_getR, e_getV, e_getC, e_putI, e_putZ, e_putF, e_gst0, e_gst1, e_sld, e_iald, e_cald, e_bald, e_iast, e_cast, e_aald, e_aast, e_alen, e_slen, e_blen, e_newa, e_newq, e_new, e_oinit, e_ctor, e_virt, e_stat, e_min, e_copy, e_ldc, List.cons_append, List.nil_append, List.append_nil, List.length_cons, List.length_nil, List.replicate_succ, List.replicate_zero, List.getElem?_cons_zero, List.getElem?_cons_succ, List.set_cons_zero, List.set_cons_succ, List.take_succ_cons, List.take_zero, List.drop_succ_cons, List.drop_zero, List.reverse_cons, List.reverse_nil, Option.toList_some, Option.toList_none, Nat.reduceSub, Nat.reduceAdd, Nat.reduceLeDiff, true_and, and_true, and_self, Option.some.injEq, exists_eq_left', Nat.zero_add, Value.int.injEq, Value.ref.injEq, List.cons.injEq, exists_and_left, and_assoc, exists_eq_left, List.all_cons, List.all_nil, m1_i, m1_r, Bool.and_self, Bool.and_true, N_57, C_57, B_57_0, bk_57_0, B_57_17, bk_57_17, B_57_19, bk_57_19, h0, h1, h2, r0, r1, C_38, m_hasGap h hf, n_ne0, n_le, n_in, n_cl, if_neg, if_pos, o_eq, hy, o_lt_r, o_eq_l, if_pos, if_neg, not_true_eq_false, not_false_eq_true, or_true, true_or, or_false, false_or, false_and, and_false, Nat.reduceEqDiff, Nat.reduceLT, Nat.reduceMul, Nat.not_lt_zero, Nat.zero_le, Nat.le_refl, ne_eq, reduceIte, reduceCtorEq]
  rw [wQu, hy]
  exact ⟨fun z => z.2, fun z => ⟨by omega, z⟩⟩
/-- the place of the greatest of the first k, the first of several -/
def nrs (f : Nat → Int32) : Nat → Nat
  | 0 => 0
  | k + 1 => if f (nrs f k) < f k then k else nrs f k
theorem nrs_lt (f : Nat → Int32) : ∀ k, 0 < k → nrs f k < k := by
  intro k
  induction k with
  | zero => intro h; omega
  | succ k ih =>
    intro _
    unfold nrs
    split
    · omega
    · rcases Nat.eq_zero_or_pos k with rfl | q
      · exact Nat.zero_lt_one
      · have := ih q; omega
theorem nrs_1 (f : Nat → Int32) : nrs f 1 = 0 := by
  unfold nrs; split <;> rfl
theorem m_nearest {K : mK} {R : Nat → Nat → Option Nat} {I : Nat → Nat → Int32} {a cl c : Nat} {Q : Option Value → mH → Prop} (h : zW K R a) (hf : wF I a 1 cl c) (hy : ∀ g, g < c + 1 + cl → ∃ y, I (a + 2) g = nI y ∧ 0 < y ∧ y < 100000) :
    EvM 56 [.ref a] (K, R, I) Q ↔ Q (some (.int (nI (nrs (wQu I a) (c + 1 + cl))))) (K, R, I) := by
  obtain ⟨h0, h1, h2, h3, r0, r1, r2, h4⟩ := id h
  have hn := ngp_le (p := 1) hf.2.2.2.2.1 hf.2.2.2.2.2
  have hg : ngp 1 cl c = c + 1 + cl := rfl
  refine EvM_iff ?_
  unfold EvM
  simp (disch := omega) only [e_iconst, e_bipush, e_sipush, e_iload_n, e_iload, e_aload_n, e_aload, e_istore_n, e_istore, e_astore_n, e_astore, e_iinc, e_iadd, e_isub, e_imul, e_iand, e_ishr, e_idiv, e_i2c, e_dup_i, e_dup_r, e_dup2, e_pop, e_goto, e_nop, e_if_eq, e_if_ne, e_if_lt, e_if_ge, e_if_gt, e_if_le, e_icmp_eq, e_icmp_ne, e_icmp_lt, e_icmp_ge, e_icmp_gt, e_icmp_le, e_tsw, e_ret0, e_ret1, e_retn, e_getI, e_getZ, e_getR, e_getV, e_getC, e_putI, e_putZ, e_putF, e_gst0, e_gst1, e_sld, e_iald, e_cald, e_bald, e_iast, e_cast, e_aald, e_aast, e_alen, e_slen, e_blen, e_newa, e_newq, e_new, e_oinit, e_ctor, e_virt, e_stat, e_min, e_copy, e_ldc, List.cons_append, List.nil_append, List.append_nil, List.length_cons, List.length_nil, List.replicate_succ, List.replicate_zero, List.getElem?_cons_zero, List.getElem?_cons_succ, List.set_cons_zero, List.set_cons_succ, List.take_succ_cons, List.take_zero, List.drop_succ_cons, List.drop_zero, List.reverse_cons, List.reverse_nil, Option.toList_some, Option.toList_none, Nat.reduceSub, Nat.reduceAdd, Nat.reduceLeDiff, true_and, and_true, and_self, Option.some.injEq, exists_eq_left', Nat.zero_add, Value.int.injEq, Value.ref.injEq, List.cons.injEq, exists_and_left, and_assoc, exists_eq_left, List.all_cons, List.all_nil, m1_i, m1_r, Bool.and_self, Bool.and_true, N_56, B_56_0, bk_56_0, h0, C_37, m_gapsN h hf, hg, if_pos, if_neg, not_true_eq_false, not_false_eq_true, or_true, true_or, or_false, false_or, false_and, and_false, Nat.reduceEqDiff, Nat.reduceLT, Nat.reduceMul, Nat.not_lt_zero, Nat.zero_le, Nat.le_refl, ne_eq, reduceIte, reduceCtorEq]
  have st : ∀ g, g < c + 1 + cl → ∀ {Q : Option Value → mH → Prop}, EvM 57 [.ref a, .int (nI g)] (K, R, I) Q ↔ Q (some (.int (wQu I a g))) (K, R, I) := by
    intro g hg2 Q
    obtain ⟨y, y1, y2, y3⟩ := hy g hg2
    exact m_strain h hf hg2 y1 y2 y3
  have key := loop_dn' (a := 1) (n := c + 1 + cl) (by omega) (P := fun k => Ev 56 (mB 56 9) [.ref a, .int (nI (nrs (wQu I a) k)), .int (nI (c + 1 + cl)), .int (nI k)] [] (K, R, I) (fun v k => v = some (.int (nI (nrs (wQu I a) (c + 1 + cl)))) ∧ k = (K, R, I))) ?_ ?_
  · refine Ev_cg rfl ?_ key
    rw [nrs_1]; rfl
  · intro k hk1 hk hnext
    have hl := nrs_lt (wQu I a) k hk1
    rw [B_56_9]
    simp (disch := omega) only [e_iconst, e_bipush, e_sipush, e_iload_n, e_iload, e_aload_n, e_aload, e_istore_n, e_istore, e_astore_n, e_astore, e_iinc, e_iadd, e_isub, e_imul, e_iand, e_ishr, e_idiv, e_i2c, e_dup_i, e_dup_r, e_dup2, e_pop, e_goto, e_nop, e_if_eq, e_if_ne, e_if_lt, e_if_ge, e_if_gt, e_if_le, e_icmp_eq, e_icmp_ne, e_icmp_lt, e_icmp_ge, e_icmp_gt, e_icmp_le, e_tsw, e_ret0, e_ret1, e_retn, e_getI, e_getZ, e_getR, e_getV, e_getC, e_putI, e_putZ, e_putF, e_gst0, e_gst1, e_sld, e_iald, e_cald, e_bald, e_iast, e_cast, e_aald, e_aast, e_alen, e_slen, e_blen, e_newa, e_newq, e_new, e_oinit, e_ctor, e_virt, e_stat, e_min, e_copy, e_ldc, List.cons_append, List.nil_append, List.append_nil, List.length_cons, List.length_nil, List.replicate_succ, List.replicate_zero, List.getElem?_cons_zero, List.getElem?_cons_succ, List.set_cons_zero, List.set_cons_succ, List.take_succ_cons, List.take_zero, List.drop_succ_cons, List.drop_zero, List.reverse_cons, List.reverse_nil, Option.toList_some, Option.toList_none, Nat.reduceSub, Nat.reduceAdd, Nat.reduceLeDiff, true_and, and_true, and_self, Option.some.injEq, exists_eq_left', Nat.zero_add, Value.int.injEq, Value.ref.injEq, List.cons.injEq, exists_and_left, and_assoc, exists_eq_left, List.all_cons, List.all_nil, m1_i, m1_r, Bool.and_self, Bool.and_true, bk_56_9, h0, B_56_29, bk_56_29, C_57, st k hk, st (nrs (wQu I a) k) (by omega), n_le, if_neg, o_add_l, if_pos, if_neg, not_true_eq_false, not_false_eq_true, or_true, true_or, or_false, false_or, false_and, and_false, Nat.reduceEqDiff, Nat.reduceLT, Nat.reduceMul, Nat.not_lt_zero, Nat.zero_le, Nat.le_refl, ne_eq, reduceIte, reduceCtorEq]
    by_cases e : wQu I a (nrs (wQu I a) k) < wQu I a k
    · rw [if_neg (Int32.not_le.mpr e)]
      refine Ev_cg rfl ?_ hnext
      rw [nrs, if_pos e]
    · rw [if_pos (Int32.not_lt.mp e)]
      refine Ev_cg rfl ?_ hnext
      rw [nrs, if_neg e]
  · rw [B_56_9]
    simp (disch := omega) only [e_iconst, e_bipush, e_sipush, e_iload_n, e_iload, e_aload_n, e_aload, e_istore_n, e_istore, e_astore_n, e_astore, e_iinc, e_iadd, e_isub, e_imul, e_iand, e_ishr, e_idiv, e_i2c, e_dup_i, e_dup_r, e_dup2, e_pop, e_goto, e_nop, e_if_eq, e_if_ne, e_if_lt, e_if_ge, e_if_gt, e_if_le, e_icmp_eq, e_icmp_ne, e_icmp_lt, e_icmp_ge, e_icmp_gt, e_icmp_le, e_tsw, e_ret0, e_ret1, e_retn, e_getI, e_getZ, e_getR, e_getV, e_getC, e_putI, e_putZ, e_putF, e_gst0, e_gst1, e_sld, e_iald, e_cald, e_bald, e_iast, e_cast, e_aald, e_aast, e_alen, e_slen, e_blen, e_newa, e_newq, e_new, e_oinit, e_ctor, e_virt, e_stat, e_min, e_copy, e_ldc, List.cons_append, List.nil_append, List.append_nil, List.length_cons, List.length_nil, List.replicate_succ, List.replicate_zero, List.getElem?_cons_zero, List.getElem?_cons_succ, List.set_cons_zero, List.set_cons_succ, List.take_succ_cons, List.take_zero, List.drop_succ_cons, List.drop_zero, List.reverse_cons, List.reverse_nil, Option.toList_some, Option.toList_none, Nat.reduceSub, Nat.reduceAdd, Nat.reduceLeDiff, true_and, and_true, and_self, Option.some.injEq, exists_eq_left', Nat.zero_add, Value.int.injEq, Value.ref.injEq, List.cons.injEq, exists_and_left, and_assoc, exists_eq_left, List.all_cons, List.all_nil, m1_i, m1_r, Bool.and_self, Bool.and_true, bk_56_9, B_56_35, bk_56_35, n_le, if_pos, if_pos, if_neg, not_true_eq_false, not_false_eq_true, or_true, true_or, or_false, false_or, false_and, and_false, Nat.reduceEqDiff, Nat.reduceLT, Nat.reduceMul, Nat.not_lt_zero, Nat.zero_le, Nat.le_refl, ne_eq, reduceIte, reduceCtorEq]
/-- the cells after k letters are punched as row r says -/
def wPu (J : Nat → Nat → Int32) (a r k : Nat) : Nat → Nat → Int32 := fun x j => if (x = a + 1 ∨ x = a + 2) ∧ 1 ≤ j ∧ j < k + 1 then 2000 + 1000 * J r (j - 1) else J x j
theorem wPu_o {J : Nat → Nat → Int32} {a r k x j : Nat} (h : ¬ (x = a + 1 ∨ x = a + 2)) : wPu J a r k x j = J x j := if_neg (by omega)
theorem wPu_s {J : Nat → Nat → Int32} {a r k : Nat} : mSet (mSet (mSet (wPu J a r k) (a + 1) (k + 1) (2000 + 1000 * J r k)) (a + 2) (k + 1) (2000 + 1000 * J r k)) (a + 3) (k + 1) (J (a + 3) (k + 1)) = wPu J a r (k + 1) := by
  funext x j
  simp only [mSet, wPu]
  by_cases c1 : x = a + 3 ∧ j = k + 1
  · obtain ⟨rfl, rfl⟩ := c1
    rw [if_pos ⟨rfl, rfl⟩, if_neg (by omega)]
  · rw [if_neg c1]
    by_cases c2 : (x = a + 1 ∨ x = a + 2) ∧ j = k + 1
    · obtain ⟨c2, rfl⟩ := c2
      rw [if_pos (show (x = a + 1 ∨ x = a + 2) ∧ 1 ≤ k + 1 ∧ k + 1 < k + 1 + 1 by omega), show k + 1 - 1 = k by omega]
      rcases c2 with rfl | rfl
      · rw [if_neg (by omega), if_pos ⟨rfl, rfl⟩]
      · rw [if_pos ⟨rfl, rfl⟩]
    · rw [if_neg (by omega), if_neg (by omega)]
      by_cases c3 : (x = a + 1 ∨ x = a + 2) ∧ 1 ≤ j ∧ j < k + 1
      · rw [if_pos c3, if_pos (by omega)]
      · rw [if_neg c3, if_neg (by omega)]
theorem m_punchAll {K : mK} {R : Nat → Nat → Option Nat} {I : Nat → Nat → Int32} {a cl c r : Nat} {Q : Option Value → mH → Prop} (h : zW K R a) (hf : wF I a 1 cl c) (hr : K.2.2.1 r = (2, 30)) (hra : r < a ∨ a + 3 < r) :
    EvM 50 [.ref a, .ref r] (K, R, I) Q ↔ Q none (K, R, mSet (if cl = 1 then mSet (mSet (mSet (mSet (wPu (mSet (mSet (mSet I (a + 1) 0 5000) (a + 2) 0 5000) (a + 3) 0 (-1)) a r c) a 4 1) (a + 1) (c + 1) 5000) (a + 2) (c + 1) 5000) (a + 3) (c + 1) (-1) else wPu (mSet (mSet (mSet I (a + 1) 0 5000) (a + 2) 0 5000) (a + 3) 0 (-1)) a r c) a 6 0) := by
  obtain ⟨h0, h1, h2, h3, r0, r1, r2, h4⟩ := id h
  obtain ⟨f1, f2, f3, f4, f5, f6⟩ := id hf
  refine EvM_iff ?_
  unfold EvM
  simp (disch := omega) only [e_iconst, e_bipush, e_sipush, e_iload_n, e_iload, e_aload_n, e_aload, e_istore_n, e_istore, e_astore_n, e_astore, e_iinc, e_iadd, e_isub, e_imul, e_iand, e_ishr, e_idiv, e_i2c, e_dup_i, e_dup_r, e_dup2, e_pop, e_goto, e_nop, e_if_eq, e_if_ne, e_if_lt, e_if_ge, e_if_gt, e_if_le, e_icmp_eq, e_icmp_ne, e_icmp_lt, e_icmp_ge, e_icmp_gt, e_icmp_le, e_tsw, e_ret0, e_ret1, e_retn, e_getI, e_getZ, e_getR, e_getV, e_getC, e_putI, e_putZ, e_putF, e_gst0, e_gst1, e_sld, e_iald, e_cald, e_bald, e_iast, e_cast, e_aald, e_aast, e_alen, e_slen, e_blen, e_newa, e_newq, e_new, e_oinit, e_ctor, e_virt, e_stat, e_min, e_copy, e_ldc, List.cons_append, List.nil_append, List.append_nil, List.length_cons, List.length_nil, List.replicate_succ, List.replicate_zero, List.getElem?_cons_zero, List.getElem?_cons_succ, List.set_cons_zero, List.set_cons_succ, List.take_succ_cons, List.take_zero, List.drop_succ_cons, List.drop_zero, List.reverse_cons, List.reverse_nil, Option.toList_some, Option.toList_none, Nat.reduceSub, Nat.reduceAdd, Nat.reduceLeDiff, true_and, and_true, and_self, Option.some.injEq, exists_eq_left', Nat.zero_add, Value.int.injEq, Value.ref.injEq, List.cons.injEq, exists_and_left, and_assoc, exists_eq_left, List.all_cons, List.all_nil, m1_i, m1_r, Bool.and_self, Bool.and_true, N_50, B_50_0, bk_50_0, h0, C_45, m_putGap0 h, if_pos, if_neg, not_true_eq_false, not_false_eq_true, or_true, true_or, or_false, false_or, false_and, and_false, Nat.reduceEqDiff, Nat.reduceLT, Nat.reduceMul, Nat.not_lt_zero, Nat.zero_le, Nat.le_refl, ne_eq, reduceIte, reduceCtorEq]
  have e1 : mSet (mSet (mSet I (a + 1) 0 5000) (a + 2) 0 5000) (a + 3) 0 (-1) a 5 = nI c := by simp (disch := omega) only [s_ne, f3]
  have e2 : mSet (mSet (mSet I (a + 1) 0 5000) (a + 2) 0 5000) (a + 3) 0 (-1) a 4 = nI cl := by simp (disch := omega) only [s_ne, f2]
  generalize mSet (mSet (mSet I (a + 1) 0 5000) (a + 2) 0 5000) (a + 3) 0 (-1) = J at e1 e2 ⊢
  have key := loop_dn (n := c) (P := fun k => Ev 50 (mB 50 11) [.ref a, .ref r, .int (nI k)] [] (K, R, wPu J a r k) (fun v k => v = none ∧ k = (K, R, mSet (if cl = 1 then mSet (mSet (mSet (mSet (wPu J a r c) a 4 1) (a + 1) (c + 1) 5000) (a + 2) (c + 1) 5000) (a + 3) (c + 1) (-1) else wPu J a r c) a 6 0))) ?_ ?_
  · refine Ev_cg ?_ rfl key
    funext x j; rw [wPu, if_neg (by omega)]
  · intro k hk hnext
    rw [B_50_11]
    simp (disch := omega) only [e_iconst, e_bipush, e_sipush, e_iload_n, e_iload, e_aload_n, e_aload, e_istore_n, e_istore, e_astore_n, e_astore, e_iinc, e_iadd, e_isub, e_imul, e_iand, e_ishr, e_idiv, e_i2c, e_dup_i, e_dup_r, e_dup2, e_pop, e_goto, e_nop, e_if_eq, e_if_ne, e_if_lt, e_if_ge, e_if_gt, e_if_le, e_icmp_eq, e_icmp_ne, e_icmp_lt, e_icmp_ge, e_icmp_gt, e_icmp_le, e_tsw, e_ret0, e_ret1, e_retn, e_getI, e_getZ, e_getR, e_getV, e_getC, e_putI, e_putZ, e_putF, e_gst0, e_gst1, e_sld, e_iald, e_cald, e_bald, e_iast, e_cast, e_aald, e_aast, e_alen, e_slen, e_blen, e_newa, e_newq, e_new, e_oinit, e_ctor, e_virt, e_stat, e_min, e_copy, e_ldc, List.cons_append, List.nil_append, List.append_nil, List.length_cons, List.length_nil, List.replicate_succ, List.replicate_zero, List.getElem?_cons_zero, List.getElem?_cons_succ, List.set_cons_zero, List.set_cons_succ, List.take_succ_cons, List.take_zero, List.drop_succ_cons, List.drop_zero, List.reverse_cons, List.reverse_nil, Option.toList_some, Option.toList_none, Nat.reduceSub, Nat.reduceAdd, Nat.reduceLeDiff, true_and, and_true, and_self, Option.some.injEq, exists_eq_left', Nat.zero_add, Value.int.injEq, Value.ref.injEq, List.cons.injEq, exists_and_left, and_assoc, exists_eq_left, List.all_cons, List.all_nil, m1_i, m1_r, Bool.and_self, Bool.and_true, bk_50_11, h0, h3, r2, hr, wPu_o, e1, C_45, m_nominalOf, m_putGap h (show k + 1 < 32 by omega), n_le, n_in, n_cl, if_neg, o_add_l, wPu_s, if_pos, if_neg, not_true_eq_false, not_false_eq_true, or_true, true_or, or_false, false_or, false_and, and_false, Nat.reduceEqDiff, Nat.reduceLT, Nat.reduceMul, Nat.not_lt_zero, Nat.zero_le, Nat.le_refl, ne_eq, reduceIte, reduceCtorEq]
    exact hnext
  · rw [B_50_11]
    rcases (show cl = 0 ∨ cl = 1 by omega) with q | q
    · simp (disch := omega) only [e_iconst, e_bipush, e_sipush, e_iload_n, e_iload, e_aload_n, e_aload, e_istore_n, e_istore, e_astore_n, e_astore, e_iinc, e_iadd, e_isub, e_imul, e_iand, e_ishr, e_idiv, e_i2c, e_dup_i, e_dup_r, e_dup2, e_pop, e_goto, e_nop, e_if_eq, e_if_ne, e_if_lt, e_if_ge, e_if_gt, e_if_le, e_icmp_eq, e_icmp_ne, e_icmp_lt, e_icmp_ge, e_icmp_gt, e_icmp_le, e_tsw, e_ret0, e_ret1, e_retn, e_getI, e_getZ, e_getR, e_getV, e_getC, e_putI, e_putZ, e_putF, e_gst0, e_gst1, e_sld, e_iald, e_cald, e_bald, e_iast, e_cast, e_aald, e_aast, e_alen, e_slen, e_blen, e_newa, e_newq, e_new, e_oinit, e_ctor, e_virt, e_stat, e_min, e_copy, e_ldc, List.cons_append, List.nil_append, List.append_nil, List.length_cons, List.length_nil, List.replicate_succ, List.replicate_zero, List.getElem?_cons_zero, List.getElem?_cons_succ, List.set_cons_zero, List.set_cons_succ, List.take_succ_cons, List.take_zero, List.drop_succ_cons, List.drop_zero, List.reverse_cons, List.reverse_nil, Option.toList_some, Option.toList_none, Nat.reduceSub, Nat.reduceAdd, Nat.reduceLeDiff, true_and, and_true, and_self, Option.some.injEq, exists_eq_left', Nat.zero_add, Value.int.injEq, Value.ref.injEq, List.cons.injEq, exists_and_left, and_assoc, exists_eq_left, List.all_cons, List.all_nil, m1_i, m1_r, Bool.and_self, Bool.and_true, bk_50_11, B_50_52, bk_50_52, B_50_63, bk_50_63, h0, wPu_o, e1, e2, q, n_le, if_pos, if_neg, o_eq_l, if_pos, if_neg, not_true_eq_false, not_false_eq_true, or_true, true_or, or_false, false_or, false_and, and_false, Nat.reduceEqDiff, Nat.reduceLT, Nat.reduceMul, Nat.not_lt_zero, Nat.zero_le, Nat.le_refl, ne_eq, reduceIte, reduceCtorEq]
    · have e3 : wPu J a r c a 5 = nI c := by rw [wPu_o (by omega)]; exact e1
      simp (disch := omega) only [e_iconst, e_bipush, e_sipush, e_iload_n, e_iload, e_aload_n, e_aload, e_istore_n, e_istore, e_astore_n, e_astore, e_iinc, e_iadd, e_isub, e_imul, e_iand, e_ishr, e_idiv, e_i2c, e_dup_i, e_dup_r, e_dup2, e_pop, e_goto, e_nop, e_if_eq, e_if_ne, e_if_lt, e_if_ge, e_if_gt, e_if_le, e_icmp_eq, e_icmp_ne, e_icmp_lt, e_icmp_ge, e_icmp_gt, e_icmp_le, e_tsw, e_ret0, e_ret1, e_retn, e_getI, e_getZ, e_getR, e_getV, e_getC, e_putI, e_putZ, e_putF, e_gst0, e_gst1, e_sld, e_iald, e_cald, e_bald, e_iast, e_cast, e_aald, e_aast, e_alen, e_slen, e_blen, e_newa, e_newq, e_new, e_oinit, e_ctor, e_virt, e_stat, e_min, e_copy, e_ldc, List.cons_append, List.nil_append, List.append_nil, List.length_cons, List.length_nil, List.replicate_succ, List.replicate_zero, List.getElem?_cons_zero, List.getElem?_cons_succ, List.set_cons_zero, List.set_cons_succ, List.take_succ_cons, List.take_zero, List.drop_succ_cons, List.drop_zero, List.reverse_cons, List.reverse_nil, Option.toList_some, Option.toList_none, Nat.reduceSub, Nat.reduceAdd, Nat.reduceLeDiff, true_and, and_true, and_self, Option.some.injEq, exists_eq_left', Nat.zero_add, Value.int.injEq, Value.ref.injEq, List.cons.injEq, exists_and_left, and_assoc, exists_eq_left, List.all_cons, List.all_nil, m1_i, m1_r, Bool.and_self, Bool.and_true, bk_50_11, B_50_52, bk_50_52, B_50_63, bk_50_63, h0, wPu_o, e1, e2, q, n_le, if_pos, if_neg, o_eq_l, C_44, m_putEnd h e3 f6, if_pos, if_neg, not_true_eq_false, not_false_eq_true, or_true, true_or, or_false, false_or, false_and, and_false, Nat.reduceEqDiff, Nat.reduceLT, Nat.reduceMul, Nat.not_lt_zero, Nat.zero_le, Nat.le_refl, ne_eq, reduceIte, reduceCtorEq]
end
section
/-! THE READER -/
def zR (K : mK) (R : Nat → Nat → Option Nat) (a : Nat) : Prop := K.2.2.1 a = (1, 3) ∧ K.2.2.1 (a + 1) = (2, 30) ∧ R a 0 = some (a + 1) ∧ a < 1000
/-- the number that is read, -1 for none -/
def nmb (len m : Int32) : Int32 := if (10 * len + m) / (2 * m) - 2 < 0 then -1 else if 7 < (10 * len + m) / (2 * m) - 2 then -1 else (10 * len + m) / (2 * m) - 2
theorem nmb_c (len m : Int32) : nmb len m = -1 ∨ ∃ q, q < 8 ∧ nmb len m = nI q := by
  unfold nmb
  generalize (10 * len + m) / (2 * m) - 2 = z
  rcases sp_cases z (n := 8) (by omega) with ⟨k, hk, rfl⟩ | h
  · rw [if_neg (nI_pos (by omega)), if_neg (by rw [show (7 : Int32) = nI 7 from rfl, n_lt (by omega) (by omega)]; omega)]
    exact Or.inr ⟨k, hk, rfl⟩
  · rcases h with h | h
    · rw [if_pos h]; exact Or.inl rfl
    · by_cases h2 : z < 0
      · rw [if_pos h2]; exact Or.inl rfl
      · rw [if_neg h2, if_pos]
        · exact Or.inl rfl
        · rw [Int32.lt_iff_toInt_lt]
          rw [Int32.le_iff_toInt_le] at h
          have e1 : (nI 8).toInt = 8 := by decide
          have e2 : (7 : Int32).toInt = 7 := by decide
          omega
theorem m_numberOf {len : Int32} {x : Nat} {h : mH} {Q : Option Value → mH → Prop} (hx : 0 < x) (hx2 : x < 1000000) : EvM 20 [.int len, .int (nI x)] h Q ↔ Q (some (.int (nmb len (nI x)))) h := by
  unfold EvM
  simp (disch := omega) only [e_iconst, e_bipush, e_sipush, e_iload_n, e_iload, e_aload_n, e_aload, e_istore_n, e_istore, e_astore_n, e_astore, e_iinc, e_iadd, e_isub, e_imul, e_iand, e_ishr, e_idiv, e_i2c, e_dup_i, e_dup_r, e_dup2, e_pop, e_goto, e_nop, e_if_eq, e_if_ne, e_if_lt, e_if_ge, e_if_gt, e_if_le, e_icmp_eq, e_icmp_ne, e_icmp_lt, e_icmp_ge, e_icmp_gt, e_icmp_le, e_tsw, e_ret0, e_ret1, e_retn, e_getI, e_getZ, e_getR, e_getV, e_getC, e_putI, e_putZ, e_putF, e_gst0, e_gst1, e_sld, e_iald, e_cald, e_bald, e_iast, e_cast, e_aald, e_aast, e_alen, e_slen, e_blen, e_newa, e_newq, e_new, e_oinit, e_ctor, e_virt, e_stat, e_min, e_copy, e_ldc, List.cons_append, List.nil_append, List.append_nil, List.length_cons, List.length_nil, List.replicate_succ, List.replicate_zero, List.getElem?_cons_zero, List.getElem?_cons_succ, List.set_cons_zero, List.set_cons_succ, List.take_succ_cons, List.take_zero, List.drop_succ_cons, List.drop_zero, List.reverse_cons, List.reverse_nil, Option.toList_some, Option.toList_none, Nat.reduceSub, Nat.reduceAdd, Nat.reduceLeDiff, true_and, and_true, and_self, Option.some.injEq, exists_eq_left', Nat.zero_add, Value.int.injEq, Value.ref.injEq, List.cons.injEq, exists_and_left, and_assoc, exists_eq_left, List.all_cons, List.all_nil, m1_i, m1_r, Bool.and_self, Bool.and_true, N_20, C_20, B_20_0, bk_20_0, B_20_6, bk_20_6, B_20_33, bk_20_33, B_20_34, bk_20_34, o_lt_r, if_pos, o_mul_r, o_eq_l, if_neg, if_pos, if_neg, not_true_eq_false, not_false_eq_true, or_true, true_or, or_false, false_or, false_and, and_false, Nat.reduceEqDiff, Nat.reduceLT, Nat.reduceMul, Nat.not_lt_zero, Nat.zero_le, Nat.le_refl, ne_eq, reduceIte, reduceCtorEq]
  have e : nmb len (nI x) = if (10 * len + nI x) / nI (2 * x) - 2 < 0 then -1 else if 7 < (10 * len + nI x) / nI (2 * x) - 2 then -1 else (10 * len + nI x) / nI (2 * x) - 2 := by
    rw [nmb, show (2 : Int32) * nI x = nI (2 * x) from n_mul 2 x]
  rw [e]
  generalize (10 * len + nI x) / nI (2 * x) - 2 = z
  have hne : ¬ 2 * x = 0 := by omega
  by_cases c1 : z < 0
  · simp [c1, hne]
  · by_cases c2 : 7 < z
    · simp [c1, c2, hne]
    · simp [c1, c2, hne]
def mBt (I : Nat → Nat → Int32) (w c i : Nat) : Int32 := I (w + 1) 0 + (I (w + 1) (c + 1) - I (w + 1) 0) * nI (i + 1) / nI (c + 1)
theorem m_between {K : mK} {R : Nat → Nat → Option Nat} {I : Nat → Nat → Int32} {w c i : Nat} {Q : Option Value → mH → Prop} (h : zW K R w) (hf : wF I w 1 1 c) (hi : i < 30) : EvM 19 [.ref w, .int (nI i)] (K, R, I) Q ↔ Q (some (.int (mBt I w c i))) (K, R, I) := by
  obtain ⟨h0, h1, h2, h3, r0, r1, r2, h4⟩ := id h
  obtain ⟨f1, f2, f3, f4, f5, f6⟩ := id hf
  have hng : ngp 1 1 c = c + 1 + 1 := rfl
  unfold EvM
  simp (disch := omega) only [e_iconst, e_bipush, e_sipush, e_iload_n, e_iload, e_aload_n, e_aload, e_istore_n, e_istore, e_astore_n, e_astore, e_iinc, e_iadd, e_isub, e_imul, e_iand, e_ishr, e_idiv, e_i2c, e_dup_i, e_dup_r, e_dup2, e_pop, e_goto, e_nop, e_if_eq, e_if_ne, e_if_lt, e_if_ge, e_if_gt, e_if_le, e_icmp_eq, e_icmp_ne, e_icmp_lt, e_icmp_ge, e_icmp_gt, e_icmp_le, e_tsw, e_ret0, e_ret1, e_retn, e_getI, e_getZ, e_getR, e_getV, e_getC, e_putI, e_putZ, e_putF, e_gst0, e_gst1, e_sld, e_iald, e_cald, e_bald, e_iast, e_cast, e_aald, e_aast, e_alen, e_slen, e_blen, e_newa, e_newq, e_new, e_oinit, e_ctor, e_virt, e_stat, e_min, e_copy, e_ldc, List.cons_append, List.nil_append, List.append_nil, List.length_cons, List.length_nil, List.replicate_succ, List.replicate_zero, List.getElem?_cons_zero, List.getElem?_cons_succ, List.set_cons_zero, List.set_cons_succ, List.take_succ_cons, List.take_zero, List.drop_succ_cons, List.drop_zero, List.reverse_cons, List.reverse_nil, Option.toList_some, Option.toList_none, Nat.reduceSub, Nat.reduceAdd, Nat.reduceLeDiff, true_and, and_true, and_self, Option.some.injEq, exists_eq_left', Nat.zero_add, Value.int.injEq, Value.ref.injEq, List.cons.injEq, exists_and_left, and_assoc, exists_eq_left, List.all_cons, List.all_nil, m1_i, m1_r, Bool.and_self, Bool.and_true, N_19, C_19, B_19_0, bk_19_0, B_19_26, bk_19_26, B_19_28, bk_19_28, h0, h1, r0, f2, f3, o_in, o_cl, n_in, n_cl, o_add_l, o_eq_l, o_le_l, o_lt_l, n_le, n_lt, C_38, m_hasGap h hf, hng, o_eq, if_neg, if_pos, if_pos, if_neg, not_true_eq_false, not_false_eq_true, or_true, true_or, or_false, false_or, false_and, and_false, Nat.reduceEqDiff, Nat.reduceLT, Nat.reduceMul, Nat.not_lt_zero, Nat.zero_le, Nat.le_refl, ne_eq, reduceIte, reduceCtorEq]
  rw [mBt]
def rJg (I : Nat → Nat → Int32) (a : Nat) (i nb tr : Int32) : Nat → Nat → Int32 := if nb = tr then I else if I a 3 = -1 then mSet (if nb = -1 then mSet I a 2 (I a 2 + 1) else mSet I a 1 (I a 1 + 1)) a 3 i else (if nb = -1 then mSet I a 2 (I a 2 + 1) else mSet I a 1 (I a 1 + 1))
theorem m_judge {K : mK} {R : Nat → Nat → Option Nat} {I : Nat → Nat → Int32} {a : Nat} {i nb tr : Int32} {Q : Option Value → mH → Prop} (h : zR K R a) : EvM 21 [.ref a, .int i, .int nb, .int tr] (K, R, I) Q ↔ Q none (K, R, rJg I a i nb tr) := by
  obtain ⟨h0, h1, r0, h2⟩ := id h
  unfold EvM
  unfold rJg
  simp (disch := omega) only [e_iconst, e_bipush, e_sipush, e_iload_n, e_iload, e_aload_n, e_aload, e_istore_n, e_istore, e_astore_n, e_astore, e_iinc, e_iadd, e_isub, e_imul, e_iand, e_ishr, e_idiv, e_i2c, e_dup_i, e_dup_r, e_dup2, e_pop, e_goto, e_nop, e_if_eq, e_if_ne, e_if_lt, e_if_ge, e_if_gt, e_if_le, e_icmp_eq, e_icmp_ne, e_icmp_lt, e_icmp_ge, e_icmp_gt, e_icmp_le, e_tsw, e_ret0, e_ret1, e_retn, e_getI, e_getZ, e_getR, e_getV, e_getC, e_putI, e_putZ, e_putF, e_gst0, e_gst1, e_sld, e_iald, e_cald, e_bald, e_iast, e_cast, e_aald, e_aast, e_alen, e_slen, e_blen, e_newa, e_newq, e_new, e_oinit, e_ctor, e_virt, e_stat, e_min, e_copy, e_ldc, List.cons_append, List.nil_append, List.append_nil, List.length_cons, List.length_nil, List.replicate_succ, List.replicate_zero, List.getElem?_cons_zero, List.getElem?_cons_succ, List.set_cons_zero, List.set_cons_succ, List.take_succ_cons, List.take_zero, List.drop_succ_cons, List.drop_zero, List.reverse_cons, List.reverse_nil, Option.toList_some, Option.toList_none, Nat.reduceSub, Nat.reduceAdd, Nat.reduceLeDiff, true_and, and_true, and_self, Option.some.injEq, exists_eq_left', Nat.zero_add, Value.int.injEq, Value.ref.injEq, List.cons.injEq, exists_and_left, and_assoc, exists_eq_left, List.all_cons, List.all_nil, m1_i, m1_r, Bool.and_self, Bool.and_true, N_21, C_21, B_21_0, bk_21_0, B_21_6, bk_21_6, B_21_24, bk_21_24, B_21_34, bk_21_34, B_21_47, bk_21_47, h0, s_ne, if_pos, if_neg, not_true_eq_false, not_false_eq_true, or_true, true_or, or_false, false_or, false_and, and_false, Nat.reduceEqDiff, Nat.reduceLT, Nat.reduceMul, Nat.not_lt_zero, Nat.zero_le, Nat.le_refl, ne_eq, reduceIte, reduceCtorEq]
  by_cases c1 : nb = tr
  · simp [c1]
  · by_cases c2 : nb = -1
    · subst c2
      by_cases c3 : I a 3 = -1 <;> simp [c3, c1]
    · by_cases c3 : I a 3 = -1 <;> simp [c1, c2, c3]
/-- the measure behind i letters; the measure of the letter i; what is read there -/
def rdM (I : Nat → Nat → Int32) (w c : Nat) (way : Int32) : Nat → Int32
  | 0 => I (w + 1) 0
  | i + 1 =>
    if way = 2 then mBt I w c i
    else if way = 1 then (if nmb (I (w + 1) (i + 1)) (rdM I w c way i) = -1 then rdM I w c way i else (3 * rdM I w c way i + 5 * I (w + 1) (i + 1) / (nmb (I (w + 1) (i + 1)) (rdM I w c way i) + 2)) / 4)
    else rdM I w c way i
def rdA (I : Nat → Nat → Int32) (w c : Nat) (way : Int32) (i : Nat) : Int32 := if way = 2 then mBt I w c i else rdM I w c way i
def rdN (I : Nat → Nat → Int32) (w c : Nat) (way : Int32) (i : Nat) : Int32 := nmb (I (w + 1) (i + 1)) (rdA I w c way i)
def cnt (P : Nat → Bool) : Nat → Nat
  | 0 => 0
  | k + 1 => cnt P k + (if P k then 1 else 0)
theorem cnt_le (P : Nat → Bool) : ∀ k, cnt P k ≤ k := by
  intro k
  induction k with
  | zero => exact Nat.le_refl _
  | succ k ih => unfold cnt; split <;> omega
def pMi (nb tr : Nat → Int32) (i : Nat) : Bool := !(nb i == tr i) && !(nb i == -1)
def pUn (nb tr : Nat → Int32) (i : Nat) : Bool := !(nb i == tr i) && (nb i == -1)
def pWr (nb tr : Nat → Int32) (i : Nat) : Bool := !(nb i == tr i)
/-- the reader's cells when i letters are read -/
def rSt (I : Nat → Nat → Int32) (r : Nat) (nb tr : Nat → Int32) (c i : Nat) : Nat → Nat → Int32 := fun x j =>
  if x = r + 1 ∧ j < i then nb j else if x = r ∧ j = 1 then nI (cnt (pMi nb tr) i) else if x = r ∧ j = 2 then nI (cnt (pUn nb tr) i)
  else if x = r ∧ j = 3 then (if fB (pWr nb tr) c i = c then -1 else nI (fB (pWr nb tr) c i)) else I x j
theorem rSt_o {I : Nat → Nat → Int32} {r c i x j : Nat} {nb tr : Nat → Int32} (h : x ≠ r ∧ x ≠ r + 1) : rSt I r nb tr c i x j = I x j := by
  rw [rSt, if_neg (by omega), if_neg (by omega), if_neg (by omega), if_neg (by omega)]
theorem rSt_s {I : Nat → Nat → Int32} {r c i : Nat} {nb tr : Nat → Int32} (hi : i < c) (hc : c ≤ 30) :
    rSt I r nb tr c (i + 1) = rJg (mSet (rSt I r nb tr c i) (r + 1) i (nb i)) r (nI i) (nb i) (tr i) := by
  have e1 : rSt I r nb tr c i r 1 = nI (cnt (pMi nb tr) i) := by rw [rSt, if_neg (by omega), if_pos ⟨rfl, rfl⟩]
  have e2 : rSt I r nb tr c i r 2 = nI (cnt (pUn nb tr) i) := by rw [rSt, if_neg (by omega), if_neg (by omega), if_pos ⟨rfl, rfl⟩]
  have e3 : rSt I r nb tr c i r 3 = (if fB (pWr nb tr) c i = c then -1 else nI (fB (pWr nb tr) c i)) := by rw [rSt, if_neg (by omega), if_neg (by omega), if_neg (by omega), if_pos ⟨rfl, rfl⟩]
  unfold rJg
  simp (disch := omega) only [s_ne]
  rw [e1, e2, e3]
  have hfb := (fB_le (pWr nb tr) c i (by omega)).1
  have h3 : ((if fB (pWr nb tr) c i = c then -1 else nI (fB (pWr nb tr) c i)) = (-1 : Int32)) ↔ fB (pWr nb tr) c i = c := by
    by_cases q : fB (pWr nb tr) c i = c
    · simp [q]
    · simp only [q, if_false, iff_false]; exact n_m1 (by omega)
  have hne : ¬ i = c := by omega
  by_cases c1 : nb i = tr i
  · rw [if_pos c1]
    have a1 : cnt (pMi nb tr) (i + 1) = cnt (pMi nb tr) i := by simp [cnt, pMi, c1]
    have a2 : cnt (pUn nb tr) (i + 1) = cnt (pUn nb tr) i := by simp [cnt, pUn, c1]
    have a3 : fB (pWr nb tr) c (i + 1) = fB (pWr nb tr) c i := by simp only [fB, pWr, c1]; split <;> simp_all
    funext x j
    simp only [rSt, mSet, a1, a2, a3]
    (repeat' split) <;> first | rfl | (exfalso; omega) | (rw [show j = i by omega])
  · rw [if_neg c1]
    by_cases c2 : nb i = -1
    · have a1 : cnt (pMi nb tr) (i + 1) = cnt (pMi nb tr) i := by simp [cnt, pMi, c2]
      have a2 : cnt (pUn nb tr) (i + 1) = cnt (pUn nb tr) i + 1 := by simp [cnt, pUn, c1]; exact c2
      rw [if_pos c2, o_add_l]
      by_cases c3 : fB (pWr nb tr) c i = c
      · have a3 : fB (pWr nb tr) c (i + 1) = i := by simp [fB, c3, pWr, c1]
        rw [if_pos (h3.mpr c3)]
        funext x j
        simp only [rSt, mSet, a1, a2, a3]
        (repeat' split) <;> first | rfl | (exfalso; omega) | (rw [show j = i by omega])
      · have a3 : fB (pWr nb tr) c (i + 1) = fB (pWr nb tr) c i := by simp [fB, c3]
        rw [if_neg (fun q => c3 (h3.mp q))]
        funext x j
        simp only [rSt, mSet, a1, a2, a3]
        (repeat' split) <;> first | rfl | (exfalso; omega) | (rw [show j = i by omega])
    · have a1 : cnt (pMi nb tr) (i + 1) = cnt (pMi nb tr) i + 1 := by simp [cnt, pMi, c1, c2]
      have a2 : cnt (pUn nb tr) (i + 1) = cnt (pUn nb tr) i := by simp [cnt, pUn, c2]
      rw [if_neg c2, o_add_l]
      by_cases c3 : fB (pWr nb tr) c i = c
      · have a3 : fB (pWr nb tr) c (i + 1) = i := by simp [fB, c3, pWr, c1]
        rw [if_pos (h3.mpr c3)]
        funext x j
        simp only [rSt, mSet, a1, a2, a3]
        (repeat' split) <;> first | rfl | (exfalso; omega) | (rw [show j = i by omega])
      · have a3 : fB (pWr nb tr) c (i + 1) = fB (pWr nb tr) c i := by simp [fB, c3]
        rw [if_neg (fun q => c3 (h3.mp q))]
        funext x j
        simp only [rSt, mSet, a1, a2, a3]
        (repeat' split) <;> first | rfl | (exfalso; omega) | (rw [show j = i by omega])
end
section
/-! READING A WIRE; the log -/
theorem rdA_e (I : Nat → Nat → Int32) (w c : Nat) (way : Int32) (i : Nat) : rdM I w c way (i + 1) = if way = 2 then mBt I w c i else if way = 1 then (if rdN I w c way i = -1 then rdA I w c way i else (3 * rdA I w c way i + 5 * I (w + 1) (i + 1) / (rdN I w c way i + 2)) / 4) else rdA I w c way i := by
  unfold rdM rdN rdA
  by_cases c1 : way = 2
  · simp [c1]
  · simp [c1]
set_option maxHeartbeats 4000000 in
theorem m_readAll {K : mK} {R : Nat → Nat → Option Nat} {I : Nat → Nat → Int32} {r w cl c : Nat} {way : Int32} {Q : Option Value → mH → Prop} (h : zR K R r) (h' : zW K R w) (hab : r + 2 ≤ w ∨ w + 4 ≤ r) (hcl : I w 4 = nI cl) (hc : I w 5 = nI c) (hc2 : c ≤ 30) (hw2 : way = 2 → cl = 1)
    (hm : ∀ i, i < c → ∃ x, rdA I w c way i = nI x ∧ 0 < x ∧ x < 1000000) (h3 : I w 3 = nI 1 ∨ way ≠ 2) :
    EvM 18 [.ref r, .ref w, .int way] (K, R, I) Q ↔ Q none (K, R, rSt I r (rdN I w c way) (fun i => I (w + 3) (i + 1)) c c) := by
  obtain ⟨h0, h1, r0, h2⟩ := id h
  obtain ⟨h0', h1', h2', h3', r0', r1', r2', h4'⟩ := id h'
  refine EvM_iff ?_
  unfold EvM
  simp (disch := omega) only [e_iconst, e_bipush, e_sipush, e_iload_n, e_iload, e_aload_n, e_aload, e_istore_n, e_istore, e_astore_n, e_astore, e_iinc, e_iadd, e_isub, e_imul, e_iand, e_ishr, e_idiv, e_i2c, e_dup_i, e_dup_r, e_dup2, e_pop, e_goto, e_nop, e_if_eq, e_if_ne, e_if_lt, e_if_ge, e_if_gt, e_if_le, e_icmp_eq, e_icmp_ne, e_icmp_lt, e_icmp_ge, e_icmp_gt, e_icmp_le, e_tsw, e_ret0, e_ret1, e_retn, e_getI, e_getZ, e_getR, e_getV, e_getC, e_putI, e_putZ, e_putF, e_gst0, e_gst1, e_sld, e_iald, e_cald, e_bald, e_iast, e_cast, e_aald, e_aast, e_alen, e_slen, e_blen, e_newa, e_newq, e_new, e_oinit, e_ctor, e_virt, e_stat, e_min, e_copy, e_ldc, List.cons_append, List.nil_append, List.append_nil, List.length_cons, List.length_nil, List.replicate_succ, List.replicate_zero, List.getElem?_cons_zero, List.getElem?_cons_succ, List.set_cons_zero, List.set_cons_succ, List.take_succ_cons, List.take_zero, List.drop_succ_cons, List.drop_zero, List.reverse_cons, List.reverse_nil, Option.toList_some, Option.toList_none, Nat.reduceSub, Nat.reduceAdd, Nat.reduceLeDiff, true_and, and_true, and_self, Option.some.injEq, exists_eq_left', Nat.zero_add, Value.int.injEq, Value.ref.injEq, List.cons.injEq, exists_and_left, and_assoc, exists_eq_left, List.all_cons, List.all_nil, m1_i, m1_r, Bool.and_self, Bool.and_true, N_18, B_18_0, bk_18_0, h0, h0', h1', r0', s_ne, o_in, o_cl, if_pos, if_neg, not_true_eq_false, not_false_eq_true, or_true, true_or, or_false, false_or, false_and, and_false, Nat.reduceEqDiff, Nat.reduceLT, Nat.reduceMul, Nat.not_lt_zero, Nat.zero_le, Nat.le_refl, ne_eq, reduceIte, reduceCtorEq]
  generalize hQ : (fun (v : Option Value) (k : mH) => v = none ∧ k = (K, R, rSt I r (rdN I w c way) (fun i => I (w + 3) (i + 1)) c c)) = Q0
  have key : ∀ (l5 l6 : Value), Ev 18 (mB 18 25) [.ref r, .ref w, .int way, .int (rdM I w c way 0), .int (nI 0), l5, l6] [] (K, R, rSt I r (rdN I w c way) (fun i => I (w + 3) (i + 1)) c 0) Q0 := by
    refine loop_dn (n := c) (P := fun k => ∀ (l5 l6 : Value), Ev 18 (mB 18 25) [.ref r, .ref w, .int way, .int (rdM I w c way k), .int (nI k), l5, l6] [] (K, R, rSt I r (rdN I w c way) (fun i => I (w + 3) (i + 1)) c k) Q0) ?_ ?_
    · intro k hk hnext l5 l6
      obtain ⟨x, hx, hx0, hx1⟩ := hm k hk
      have hnb := nmb_c (I (w + 1) (k + 1)) (nI x)
      have e1 : rdN I w c way k = nmb (I (w + 1) (k + 1)) (nI x) := by rw [rdN, hx]
      have e2 := rdA_e I w c way k
      rw [hx, e1] at e2
      have hnext := hnext (.int (I (w + 1) (k + 1))) (.int (nmb (I (w + 1) (k + 1)) (nI x)))
      rw [rSt_s hk hc2, e1] at hnext
      generalize hJ : rSt I r (rdN I w c way) (fun i => I (w + 3) (i + 1)) c k = J at hnext ⊢
      have j5 : J w 5 = nI c := by rw [← hJ, rSt_o (by omega)]; exact hc
      have jl : J (w + 1) (k + 1) = I (w + 1) (k + 1) := by rw [← hJ, rSt_o (by omega)]
      have jt : J (w + 3) (k + 1) = I (w + 3) (k + 1) := by rw [← hJ, rSt_o (by omega)]
      by_cases c2 : way = 2
      · subst c2
        have hf : wF J w 1 1 c := by
          have q1 := hw2 rfl
          rcases h3 with h3 | h3
          · refine ⟨?_, ?_, j5, by omega, by omega, hc2⟩
            · rw [← hJ, rSt_o (by omega)]; exact h3
            · rw [← hJ, rSt_o (by omega), hcl, q1]
          · exact absurd rfl h3
        have jb : mBt J w c k = nI x := by
          rw [rdA, if_pos rfl] at hx
          rw [← hx, mBt, mBt, ← hJ, rSt_o (by omega), rSt_o (by omega)]
        rw [e2, if_pos rfl] at hnext
        have hx' : mBt I w c k = nI x := by rw [rdA, if_pos rfl] at hx; exact hx
        rw [hx'] at hnext
        rw [B_18_25]
        simp (disch := omega) only [e_iconst, e_bipush, e_sipush, e_iload_n, e_iload, e_aload_n, e_aload, e_istore_n, e_istore, e_astore_n, e_astore, e_iinc, e_iadd, e_isub, e_imul, e_iand, e_ishr, e_idiv, e_i2c, e_dup_i, e_dup_r, e_dup2, e_pop, e_goto, e_nop, e_if_eq, e_if_ne, e_if_lt, e_if_ge, e_if_gt, e_if_le, e_icmp_eq, e_icmp_ne, e_icmp_lt, e_icmp_ge, e_icmp_gt, e_icmp_le, e_tsw, e_ret0, e_ret1, e_retn, e_getI, e_getZ, e_getR, e_getV, e_getC, e_putI, e_putZ, e_putF, e_gst0, e_gst1, e_sld, e_iald, e_cald, e_bald, e_iast, e_cast, e_aald, e_aast, e_alen, e_slen, e_blen, e_newa, e_newq, e_new, e_oinit, e_ctor, e_virt, e_stat, e_min, e_copy, e_ldc, List.cons_append, List.nil_append, List.append_nil, List.length_cons, List.length_nil, List.replicate_succ, List.replicate_zero, List.getElem?_cons_zero, List.getElem?_cons_succ, List.set_cons_zero, List.set_cons_succ, List.take_succ_cons, List.take_zero, List.drop_succ_cons, List.drop_zero, List.reverse_cons, List.reverse_nil, Option.toList_some, Option.toList_none, Nat.reduceSub, Nat.reduceAdd, Nat.reduceLeDiff, true_and, and_true, and_self, Option.some.injEq, exists_eq_left', Nat.zero_add, Value.int.injEq, Value.ref.injEq, List.cons.injEq, exists_and_left, and_assoc, exists_eq_left, List.all_cons, List.all_nil, m1_i, m1_r, Bool.and_self, Bool.and_true, bk_18_25, h0, h1, r0, h0', h1', h3', r0', r2', j5, jl, jt, n_le, o_le_r, n_in, n_cl, o_add_l, if_neg, o_eq, s_ne, if_pos, if_neg, not_true_eq_false, not_false_eq_true, or_true, true_or, or_false, false_or, false_and, and_false, Nat.reduceEqDiff, Nat.reduceLT, Nat.reduceMul, Nat.not_lt_zero, Nat.zero_le, Nat.le_refl, ne_eq, reduceIte, reduceCtorEq, jb, m_between h' hf (show k < 30 by omega)]
        rw [B_18_64]
        simp (disch := omega) only [e_iconst, e_bipush, e_sipush, e_iload_n, e_iload, e_aload_n, e_aload, e_istore_n, e_istore, e_astore_n, e_astore, e_iinc, e_iadd, e_isub, e_imul, e_iand, e_ishr, e_idiv, e_i2c, e_dup_i, e_dup_r, e_dup2, e_pop, e_goto, e_nop, e_if_eq, e_if_ne, e_if_lt, e_if_ge, e_if_gt, e_if_le, e_icmp_eq, e_icmp_ne, e_icmp_lt, e_icmp_ge, e_icmp_gt, e_icmp_le, e_tsw, e_ret0, e_ret1, e_retn, e_getI, e_getZ, e_getR, e_getV, e_getC, e_putI, e_putZ, e_putF, e_gst0, e_gst1, e_sld, e_iald, e_cald, e_bald, e_iast, e_cast, e_aald, e_aast, e_alen, e_slen, e_blen, e_newa, e_newq, e_new, e_oinit, e_ctor, e_virt, e_stat, e_min, e_copy, e_ldc, List.cons_append, List.nil_append, List.append_nil, List.length_cons, List.length_nil, List.replicate_succ, List.replicate_zero, List.getElem?_cons_zero, List.getElem?_cons_succ, List.set_cons_zero, List.set_cons_succ, List.take_succ_cons, List.take_zero, List.drop_succ_cons, List.drop_zero, List.reverse_cons, List.reverse_nil, Option.toList_some, Option.toList_none, Nat.reduceSub, Nat.reduceAdd, Nat.reduceLeDiff, true_and, and_true, and_self, Option.some.injEq, exists_eq_left', Nat.zero_add, Value.int.injEq, Value.ref.injEq, List.cons.injEq, exists_and_left, and_assoc, exists_eq_left, List.all_cons, List.all_nil, m1_i, m1_r, Bool.and_self, Bool.and_true, bk_18_64, m_numberOf hx0 hx1, if_neg, if_pos, o_eq, o_add_l, o_eq_l, n_m1, if_pos, if_neg, not_true_eq_false, not_false_eq_true, or_true, true_or, or_false, false_or, false_and, and_false, Nat.reduceEqDiff, Nat.reduceLT, Nat.reduceMul, Nat.not_lt_zero, Nat.zero_le, Nat.le_refl, ne_eq, reduceIte, reduceCtorEq, jb, m_between h' hf (show k < 30 by omega)]
        rw [B_18_99]
        simp (disch := omega) only [e_iconst, e_bipush, e_sipush, e_iload_n, e_iload, e_aload_n, e_aload, e_istore_n, e_istore, e_astore_n, e_astore, e_iinc, e_iadd, e_isub, e_imul, e_iand, e_ishr, e_idiv, e_i2c, e_dup_i, e_dup_r, e_dup2, e_pop, e_goto, e_nop, e_if_eq, e_if_ne, e_if_lt, e_if_ge, e_if_gt, e_if_le, e_icmp_eq, e_icmp_ne, e_icmp_lt, e_icmp_ge, e_icmp_gt, e_icmp_le, e_tsw, e_ret0, e_ret1, e_retn, e_getI, e_getZ, e_getR, e_getV, e_getC, e_putI, e_putZ, e_putF, e_gst0, e_gst1, e_sld, e_iald, e_cald, e_bald, e_iast, e_cast, e_aald, e_aast, e_alen, e_slen, e_blen, e_newa, e_newq, e_new, e_oinit, e_ctor, e_virt, e_stat, e_min, e_copy, e_ldc, List.cons_append, List.nil_append, List.append_nil, List.length_cons, List.length_nil, List.replicate_succ, List.replicate_zero, List.getElem?_cons_zero, List.getElem?_cons_succ, List.set_cons_zero, List.set_cons_succ, List.take_succ_cons, List.take_zero, List.drop_succ_cons, List.drop_zero, List.reverse_cons, List.reverse_nil, Option.toList_some, Option.toList_none, Nat.reduceSub, Nat.reduceAdd, Nat.reduceLeDiff, true_and, and_true, and_self, Option.some.injEq, exists_eq_left', Nat.zero_add, Value.int.injEq, Value.ref.injEq, List.cons.injEq, exists_and_left, and_assoc, exists_eq_left, List.all_cons, List.all_nil, m1_i, m1_r, Bool.and_self, Bool.and_true, bk_18_99, h0, h1, r0, h0', h1', h3', r0', r2', j5, jl, jt, s_ne, C_21, m_judge h, n_in, n_cl, o_add_l, if_pos, if_neg, not_true_eq_false, not_false_eq_true, or_true, true_or, or_false, false_or, false_and, and_false, Nat.reduceEqDiff, Nat.reduceLT, Nat.reduceMul, Nat.not_lt_zero, Nat.zero_le, Nat.le_refl, ne_eq, reduceIte, reduceCtorEq]
        exact hnext
      · have hx' : rdM I w c way k = nI x := by rw [rdA, if_neg c2] at hx; exact hx
        rw [if_neg c2] at e2
        rw [hx']
        by_cases c1 : way = 1
        · subst c1
          rw [if_pos rfl] at e2
          by_cases d1 : nmb (I (w + 1) (k + 1)) (nI x) = -1
          · rw [if_pos d1] at e2
            rw [e2] at hnext
            rw [B_18_25]
            simp (disch := omega) only [e_iconst, e_bipush, e_sipush, e_iload_n, e_iload, e_aload_n, e_aload, e_istore_n, e_istore, e_astore_n, e_astore, e_iinc, e_iadd, e_isub, e_imul, e_iand, e_ishr, e_idiv, e_i2c, e_dup_i, e_dup_r, e_dup2, e_pop, e_goto, e_nop, e_if_eq, e_if_ne, e_if_lt, e_if_ge, e_if_gt, e_if_le, e_icmp_eq, e_icmp_ne, e_icmp_lt, e_icmp_ge, e_icmp_gt, e_icmp_le, e_tsw, e_ret0, e_ret1, e_retn, e_getI, e_getZ, e_getR, e_getV, e_getC, e_putI, e_putZ, e_putF, e_gst0, e_gst1, e_sld, e_iald, e_cald, e_bald, e_iast, e_cast, e_aald, e_aast, e_alen, e_slen, e_blen, e_newa, e_newq, e_new, e_oinit, e_ctor, e_virt, e_stat, e_min, e_copy, e_ldc, List.cons_append, List.nil_append, List.append_nil, List.length_cons, List.length_nil, List.replicate_succ, List.replicate_zero, List.getElem?_cons_zero, List.getElem?_cons_succ, List.set_cons_zero, List.set_cons_succ, List.take_succ_cons, List.take_zero, List.drop_succ_cons, List.drop_zero, List.reverse_cons, List.reverse_nil, Option.toList_some, Option.toList_none, Nat.reduceSub, Nat.reduceAdd, Nat.reduceLeDiff, true_and, and_true, and_self, Option.some.injEq, exists_eq_left', Nat.zero_add, Value.int.injEq, Value.ref.injEq, List.cons.injEq, exists_and_left, and_assoc, exists_eq_left, List.all_cons, List.all_nil, m1_i, m1_r, Bool.and_self, Bool.and_true, bk_18_25, h0, h1, r0, h0', h1', h3', r0', r2', j5, jl, jt, n_le, o_le_r, n_in, n_cl, o_add_l, if_neg, o_eq, s_ne, if_pos, if_neg, not_true_eq_false, not_false_eq_true, or_true, true_or, or_false, false_or, false_and, and_false, Nat.reduceEqDiff, Nat.reduceLT, Nat.reduceMul, Nat.not_lt_zero, Nat.zero_le, Nat.le_refl, ne_eq, reduceIte, reduceCtorEq, d1]
            rw [B_18_64]
            simp (disch := omega) only [e_iconst, e_bipush, e_sipush, e_iload_n, e_iload, e_aload_n, e_aload, e_istore_n, e_istore, e_astore_n, e_astore, e_iinc, e_iadd, e_isub, e_imul, e_iand, e_ishr, e_idiv, e_i2c, e_dup_i, e_dup_r, e_dup2, e_pop, e_goto, e_nop, e_if_eq, e_if_ne, e_if_lt, e_if_ge, e_if_gt, e_if_le, e_icmp_eq, e_icmp_ne, e_icmp_lt, e_icmp_ge, e_icmp_gt, e_icmp_le, e_tsw, e_ret0, e_ret1, e_retn, e_getI, e_getZ, e_getR, e_getV, e_getC, e_putI, e_putZ, e_putF, e_gst0, e_gst1, e_sld, e_iald, e_cald, e_bald, e_iast, e_cast, e_aald, e_aast, e_alen, e_slen, e_blen, e_newa, e_newq, e_new, e_oinit, e_ctor, e_virt, e_stat, e_min, e_copy, e_ldc, List.cons_append, List.nil_append, List.append_nil, List.length_cons, List.length_nil, List.replicate_succ, List.replicate_zero, List.getElem?_cons_zero, List.getElem?_cons_succ, List.set_cons_zero, List.set_cons_succ, List.take_succ_cons, List.take_zero, List.drop_succ_cons, List.drop_zero, List.reverse_cons, List.reverse_nil, Option.toList_some, Option.toList_none, Nat.reduceSub, Nat.reduceAdd, Nat.reduceLeDiff, true_and, and_true, and_self, Option.some.injEq, exists_eq_left', Nat.zero_add, Value.int.injEq, Value.ref.injEq, List.cons.injEq, exists_and_left, and_assoc, exists_eq_left, List.all_cons, List.all_nil, m1_i, m1_r, Bool.and_self, Bool.and_true, bk_18_64, m_numberOf hx0 hx1, if_neg, if_pos, o_eq, o_add_l, o_eq_l, n_m1, if_pos, if_neg, not_true_eq_false, not_false_eq_true, or_true, true_or, or_false, false_or, false_and, and_false, Nat.reduceEqDiff, Nat.reduceLT, Nat.reduceMul, Nat.not_lt_zero, Nat.zero_le, Nat.le_refl, ne_eq, reduceIte, reduceCtorEq, d1]
            rw [B_18_99]
            simp (disch := omega) only [e_iconst, e_bipush, e_sipush, e_iload_n, e_iload, e_aload_n, e_aload, e_istore_n, e_istore, e_astore_n, e_astore, e_iinc, e_iadd, e_isub, e_imul, e_iand, e_ishr, e_idiv, e_i2c, e_dup_i, e_dup_r, e_dup2, e_pop, e_goto, e_nop, e_if_eq, e_if_ne, e_if_lt, e_if_ge, e_if_gt, e_if_le, e_icmp_eq, e_icmp_ne, e_icmp_lt, e_icmp_ge, e_icmp_gt, e_icmp_le, e_tsw, e_ret0, e_ret1, e_retn, e_getI, e_getZ, e_getR, e_getV, e_getC, e_putI, e_putZ, e_putF, e_gst0, e_gst1, e_sld, e_iald, e_cald, e_bald, e_iast, e_cast, e_aald, e_aast, e_alen, e_slen, e_blen, e_newa, e_newq, e_new, e_oinit, e_ctor, e_virt, e_stat, e_min, e_copy, e_ldc, List.cons_append, List.nil_append, List.append_nil, List.length_cons, List.length_nil, List.replicate_succ, List.replicate_zero, List.getElem?_cons_zero, List.getElem?_cons_succ, List.set_cons_zero, List.set_cons_succ, List.take_succ_cons, List.take_zero, List.drop_succ_cons, List.drop_zero, List.reverse_cons, List.reverse_nil, Option.toList_some, Option.toList_none, Nat.reduceSub, Nat.reduceAdd, Nat.reduceLeDiff, true_and, and_true, and_self, Option.some.injEq, exists_eq_left', Nat.zero_add, Value.int.injEq, Value.ref.injEq, List.cons.injEq, exists_and_left, and_assoc, exists_eq_left, List.all_cons, List.all_nil, m1_i, m1_r, Bool.and_self, Bool.and_true, bk_18_99, h0, h1, r0, h0', h1', h3', r0', r2', j5, jl, jt, s_ne, C_21, m_judge h, n_in, n_cl, o_add_l, if_pos, if_neg, not_true_eq_false, not_false_eq_true, or_true, true_or, or_false, false_or, false_and, and_false, Nat.reduceEqDiff, Nat.reduceLT, Nat.reduceMul, Nat.not_lt_zero, Nat.zero_le, Nat.le_refl, ne_eq, reduceIte, reduceCtorEq]
            rw [d1] at hnext
            exact hnext
          · rw [if_neg d1] at e2
            rw [e2] at hnext
            obtain ⟨q, hq, hq2⟩ := hnb.resolve_left d1
            rw [hq2] at hnext d1
            rw [show nI q + 2 = nI (q + 2) from o_add_l] at hnext
            have hne : ¬ q + 2 = 0 := by omega
            rw [B_18_25]
            simp (disch := omega) only [e_iconst, e_bipush, e_sipush, e_iload_n, e_iload, e_aload_n, e_aload, e_istore_n, e_istore, e_astore_n, e_astore, e_iinc, e_iadd, e_isub, e_imul, e_iand, e_ishr, e_idiv, e_i2c, e_dup_i, e_dup_r, e_dup2, e_pop, e_goto, e_nop, e_if_eq, e_if_ne, e_if_lt, e_if_ge, e_if_gt, e_if_le, e_icmp_eq, e_icmp_ne, e_icmp_lt, e_icmp_ge, e_icmp_gt, e_icmp_le, e_tsw, e_ret0, e_ret1, e_retn, e_getI, e_getZ, e_getR, e_getV, e_getC, e_putI, e_putZ, e_putF, e_gst0, e_gst1, e_sld, e_iald, e_cald, e_bald, e_iast, e_cast, e_aald, e_aast, e_alen, e_slen, e_blen, e_newa, e_newq, e_new, e_oinit, e_ctor, e_virt, e_stat, e_min, e_copy, e_ldc, List.cons_append, List.nil_append, List.append_nil, List.length_cons, List.length_nil, List.replicate_succ, List.replicate_zero, List.getElem?_cons_zero, List.getElem?_cons_succ, List.set_cons_zero, List.set_cons_succ, List.take_succ_cons, List.take_zero, List.drop_succ_cons, List.drop_zero, List.reverse_cons, List.reverse_nil, Option.toList_some, Option.toList_none, Nat.reduceSub, Nat.reduceAdd, Nat.reduceLeDiff, true_and, and_true, and_self, Option.some.injEq, exists_eq_left', Nat.zero_add, Value.int.injEq, Value.ref.injEq, List.cons.injEq, exists_and_left, and_assoc, exists_eq_left, List.all_cons, List.all_nil, m1_i, m1_r, Bool.and_self, Bool.and_true, bk_18_25, h0, h1, r0, h0', h1', h3', r0', r2', j5, jl, jt, n_le, o_le_r, n_in, n_cl, o_add_l, if_neg, o_eq, s_ne, if_pos, if_neg, not_true_eq_false, not_false_eq_true, or_true, true_or, or_false, false_or, false_and, and_false, Nat.reduceEqDiff, Nat.reduceLT, Nat.reduceMul, Nat.not_lt_zero, Nat.zero_le, Nat.le_refl, ne_eq, reduceIte, reduceCtorEq, hq2, hne, d1]
            rw [B_18_64]
            simp (disch := omega) only [e_iconst, e_bipush, e_sipush, e_iload_n, e_iload, e_aload_n, e_aload, e_istore_n, e_istore, e_astore_n, e_astore, e_iinc, e_iadd, e_isub, e_imul, e_iand, e_ishr, e_idiv, e_i2c, e_dup_i, e_dup_r, e_dup2, e_pop, e_goto, e_nop, e_if_eq, e_if_ne, e_if_lt, e_if_ge, e_if_gt, e_if_le, e_icmp_eq, e_icmp_ne, e_icmp_lt, e_icmp_ge, e_icmp_gt, e_icmp_le, e_tsw, e_ret0, e_ret1, e_retn, e_getI, e_getZ, e_getR, e_getV, e_getC, e_putI, e_putZ, e_putF, e_gst0, e_gst1, e_sld, e_iald, e_cald, e_bald, e_iast, e_cast, e_aald, e_aast, e_alen, e_slen, e_blen, e_newa, e_newq, e_new, e_oinit, e_ctor, e_virt, e_stat, e_min, e_copy, e_ldc, List.cons_append, List.nil_append, List.append_nil, List.length_cons, List.length_nil, List.replicate_succ, List.replicate_zero, List.getElem?_cons_zero, List.getElem?_cons_succ, List.set_cons_zero, List.set_cons_succ, List.take_succ_cons, List.take_zero, List.drop_succ_cons, List.drop_zero, List.reverse_cons, List.reverse_nil, Option.toList_some, Option.toList_none, Nat.reduceSub, Nat.reduceAdd, Nat.reduceLeDiff, true_and, and_true, and_self, Option.some.injEq, exists_eq_left', Nat.zero_add, Value.int.injEq, Value.ref.injEq, List.cons.injEq, exists_and_left, and_assoc, exists_eq_left, List.all_cons, List.all_nil, m1_i, m1_r, Bool.and_self, Bool.and_true, bk_18_64, m_numberOf hx0 hx1, if_neg, if_pos, o_eq, o_add_l, o_eq_l, n_m1, if_pos, if_neg, not_true_eq_false, not_false_eq_true, or_true, true_or, or_false, false_or, false_and, and_false, Nat.reduceEqDiff, Nat.reduceLT, Nat.reduceMul, Nat.not_lt_zero, Nat.zero_le, Nat.le_refl, ne_eq, reduceIte, reduceCtorEq, hq2, hne, d1]
            rw [B_18_99]
            simp (disch := omega) only [e_iconst, e_bipush, e_sipush, e_iload_n, e_iload, e_aload_n, e_aload, e_istore_n, e_istore, e_astore_n, e_astore, e_iinc, e_iadd, e_isub, e_imul, e_iand, e_ishr, e_idiv, e_i2c, e_dup_i, e_dup_r, e_dup2, e_pop, e_goto, e_nop, e_if_eq, e_if_ne, e_if_lt, e_if_ge, e_if_gt, e_if_le, e_icmp_eq, e_icmp_ne, e_icmp_lt, e_icmp_ge, e_icmp_gt, e_icmp_le, e_tsw, e_ret0, e_ret1, e_retn, e_getI, e_getZ, e_getR, e_getV, e_getC, e_putI, e_putZ, e_putF, e_gst0, e_gst1, e_sld, e_iald, e_cald, e_bald, e_iast, e_cast, e_aald, e_aast, e_alen, e_slen, e_blen, e_newa, e_newq, e_new, e_oinit, e_ctor, e_virt, e_stat, e_min, e_copy, e_ldc, List.cons_append, List.nil_append, List.append_nil, List.length_cons, List.length_nil, List.replicate_succ, List.replicate_zero, List.getElem?_cons_zero, List.getElem?_cons_succ, List.set_cons_zero, List.set_cons_succ, List.take_succ_cons, List.take_zero, List.drop_succ_cons, List.drop_zero, List.reverse_cons, List.reverse_nil, Option.toList_some, Option.toList_none, Nat.reduceSub, Nat.reduceAdd, Nat.reduceLeDiff, true_and, and_true, and_self, Option.some.injEq, exists_eq_left', Nat.zero_add, Value.int.injEq, Value.ref.injEq, List.cons.injEq, exists_and_left, and_assoc, exists_eq_left, List.all_cons, List.all_nil, m1_i, m1_r, Bool.and_self, Bool.and_true, bk_18_99, h0, h1, r0, h0', h1', h3', r0', r2', j5, jl, jt, s_ne, C_21, m_judge h, n_in, n_cl, o_add_l, if_pos, if_neg, not_true_eq_false, not_false_eq_true, or_true, true_or, or_false, false_or, false_and, and_false, Nat.reduceEqDiff, Nat.reduceLT, Nat.reduceMul, Nat.not_lt_zero, Nat.zero_le, Nat.le_refl, ne_eq, reduceIte, reduceCtorEq]
            exact hnext
        · rw [if_neg c1] at e2
          rw [e2] at hnext
          rw [B_18_25]
          simp (disch := omega) only [e_iconst, e_bipush, e_sipush, e_iload_n, e_iload, e_aload_n, e_aload, e_istore_n, e_istore, e_astore_n, e_astore, e_iinc, e_iadd, e_isub, e_imul, e_iand, e_ishr, e_idiv, e_i2c, e_dup_i, e_dup_r, e_dup2, e_pop, e_goto, e_nop, e_if_eq, e_if_ne, e_if_lt, e_if_ge, e_if_gt, e_if_le, e_icmp_eq, e_icmp_ne, e_icmp_lt, e_icmp_ge, e_icmp_gt, e_icmp_le, e_tsw, e_ret0, e_ret1, e_retn, e_getI, e_getZ, e_getR, e_getV, e_getC, e_putI, e_putZ, e_putF, e_gst0, e_gst1, e_sld, e_iald, e_cald, e_bald, e_iast, e_cast, e_aald, e_aast, e_alen, e_slen, e_blen, e_newa, e_newq, e_new, e_oinit, e_ctor, e_virt, e_stat, e_min, e_copy, e_ldc, List.cons_append, List.nil_append, List.append_nil, List.length_cons, List.length_nil, List.replicate_succ, List.replicate_zero, List.getElem?_cons_zero, List.getElem?_cons_succ, List.set_cons_zero, List.set_cons_succ, List.take_succ_cons, List.take_zero, List.drop_succ_cons, List.drop_zero, List.reverse_cons, List.reverse_nil, Option.toList_some, Option.toList_none, Nat.reduceSub, Nat.reduceAdd, Nat.reduceLeDiff, true_and, and_true, and_self, Option.some.injEq, exists_eq_left', Nat.zero_add, Value.int.injEq, Value.ref.injEq, List.cons.injEq, exists_and_left, and_assoc, exists_eq_left, List.all_cons, List.all_nil, m1_i, m1_r, Bool.and_self, Bool.and_true, bk_18_25, h0, h1, r0, h0', h1', h3', r0', r2', j5, jl, jt, n_le, o_le_r, n_in, n_cl, o_add_l, if_neg, o_eq, s_ne, if_pos, if_neg, not_true_eq_false, not_false_eq_true, or_true, true_or, or_false, false_or, false_and, and_false, Nat.reduceEqDiff, Nat.reduceLT, Nat.reduceMul, Nat.not_lt_zero, Nat.zero_le, Nat.le_refl, ne_eq, reduceIte, reduceCtorEq, c1, c2]
          rw [B_18_64]
          simp (disch := omega) only [e_iconst, e_bipush, e_sipush, e_iload_n, e_iload, e_aload_n, e_aload, e_istore_n, e_istore, e_astore_n, e_astore, e_iinc, e_iadd, e_isub, e_imul, e_iand, e_ishr, e_idiv, e_i2c, e_dup_i, e_dup_r, e_dup2, e_pop, e_goto, e_nop, e_if_eq, e_if_ne, e_if_lt, e_if_ge, e_if_gt, e_if_le, e_icmp_eq, e_icmp_ne, e_icmp_lt, e_icmp_ge, e_icmp_gt, e_icmp_le, e_tsw, e_ret0, e_ret1, e_retn, e_getI, e_getZ, e_getR, e_getV, e_getC, e_putI, e_putZ, e_putF, e_gst0, e_gst1, e_sld, e_iald, e_cald, e_bald, e_iast, e_cast, e_aald, e_aast, e_alen, e_slen, e_blen, e_newa, e_newq, e_new, e_oinit, e_ctor, e_virt, e_stat, e_min, e_copy, e_ldc, List.cons_append, List.nil_append, List.append_nil, List.length_cons, List.length_nil, List.replicate_succ, List.replicate_zero, List.getElem?_cons_zero, List.getElem?_cons_succ, List.set_cons_zero, List.set_cons_succ, List.take_succ_cons, List.take_zero, List.drop_succ_cons, List.drop_zero, List.reverse_cons, List.reverse_nil, Option.toList_some, Option.toList_none, Nat.reduceSub, Nat.reduceAdd, Nat.reduceLeDiff, true_and, and_true, and_self, Option.some.injEq, exists_eq_left', Nat.zero_add, Value.int.injEq, Value.ref.injEq, List.cons.injEq, exists_and_left, and_assoc, exists_eq_left, List.all_cons, List.all_nil, m1_i, m1_r, Bool.and_self, Bool.and_true, bk_18_64, m_numberOf hx0 hx1, if_neg, if_pos, o_eq, o_add_l, o_eq_l, n_m1, if_pos, if_neg, not_true_eq_false, not_false_eq_true, or_true, true_or, or_false, false_or, false_and, and_false, Nat.reduceEqDiff, Nat.reduceLT, Nat.reduceMul, Nat.not_lt_zero, Nat.zero_le, Nat.le_refl, ne_eq, reduceIte, reduceCtorEq, c1, c2]
          rw [B_18_99]
          simp (disch := omega) only [e_iconst, e_bipush, e_sipush, e_iload_n, e_iload, e_aload_n, e_aload, e_istore_n, e_istore, e_astore_n, e_astore, e_iinc, e_iadd, e_isub, e_imul, e_iand, e_ishr, e_idiv, e_i2c, e_dup_i, e_dup_r, e_dup2, e_pop, e_goto, e_nop, e_if_eq, e_if_ne, e_if_lt, e_if_ge, e_if_gt, e_if_le, e_icmp_eq, e_icmp_ne, e_icmp_lt, e_icmp_ge, e_icmp_gt, e_icmp_le, e_tsw, e_ret0, e_ret1, e_retn, e_getI, e_getZ, e_getR, e_getV, e_getC, e_putI, e_putZ, e_putF, e_gst0, e_gst1, e_sld, e_iald, e_cald, e_bald, e_iast, e_cast, e_aald, e_aast, e_alen, e_slen, e_blen, e_newa, e_newq, e_new, e_oinit, e_ctor, e_virt, e_stat, e_min, e_copy, e_ldc, List.cons_append, List.nil_append, List.append_nil, List.length_cons, List.length_nil, List.replicate_succ, List.replicate_zero, List.getElem?_cons_zero, List.getElem?_cons_succ, List.set_cons_zero, List.set_cons_succ, List.take_succ_cons, List.take_zero, List.drop_succ_cons, List.drop_zero, List.reverse_cons, List.reverse_nil, Option.toList_some, Option.toList_none, Nat.reduceSub, Nat.reduceAdd, Nat.reduceLeDiff, true_and, and_true, and_self, Option.some.injEq, exists_eq_left', Nat.zero_add, Value.int.injEq, Value.ref.injEq, List.cons.injEq, exists_and_left, and_assoc, exists_eq_left, List.all_cons, List.all_nil, m1_i, m1_r, Bool.and_self, Bool.and_true, bk_18_99, h0, h1, r0, h0', h1', h3', r0', r2', j5, jl, jt, s_ne, C_21, m_judge h, n_in, n_cl, o_add_l, if_pos, if_neg, not_true_eq_false, not_false_eq_true, or_true, true_or, or_false, false_or, false_and, and_false, Nat.reduceEqDiff, Nat.reduceLT, Nat.reduceMul, Nat.not_lt_zero, Nat.zero_le, Nat.le_refl, ne_eq, reduceIte, reduceCtorEq]
          exact hnext
    · intro l5 l6
      have j5 : rSt I r (rdN I w c way) (fun i => I (w + 3) (i + 1)) c c w 5 = nI c := by rw [rSt_o (by omega)]; exact hc
      rw [B_18_25, ← hQ]
      simp (disch := omega) only [e_iconst, e_bipush, e_sipush, e_iload_n, e_iload, e_aload_n, e_aload, e_istore_n, e_istore, e_astore_n, e_astore, e_iinc, e_iadd, e_isub, e_imul, e_iand, e_ishr, e_idiv, e_i2c, e_dup_i, e_dup_r, e_dup2, e_pop, e_goto, e_nop, e_if_eq, e_if_ne, e_if_lt, e_if_ge, e_if_gt, e_if_le, e_icmp_eq, e_icmp_ne, e_icmp_lt, e_icmp_ge, e_icmp_gt, e_icmp_le, e_tsw, e_ret0, e_ret1, e_retn, e_getI, e_getZ, e_getR, e_getV, e_getC, e_putI, e_putZ, e_putF, e_gst0, e_gst1, e_sld, e_iald, e_cald, e_bald, e_iast, e_cast, e_aald, e_aast, e_alen, e_slen, e_blen, e_newa, e_newq, e_new, e_oinit, e_ctor, e_virt, e_stat, e_min, e_copy, e_ldc, List.cons_append, List.nil_append, List.append_nil, List.length_cons, List.length_nil, List.replicate_succ, List.replicate_zero, List.getElem?_cons_zero, List.getElem?_cons_succ, List.set_cons_zero, List.set_cons_succ, List.take_succ_cons, List.take_zero, List.drop_succ_cons, List.drop_zero, List.reverse_cons, List.reverse_nil, Option.toList_some, Option.toList_none, Nat.reduceSub, Nat.reduceAdd, Nat.reduceLeDiff, true_and, and_true, and_self, Option.some.injEq, exists_eq_left', Nat.zero_add, Value.int.injEq, Value.ref.injEq, List.cons.injEq, exists_and_left, and_assoc, exists_eq_left, List.all_cons, List.all_nil, m1_i, m1_r, Bool.and_self, Bool.and_true, bk_18_25, B_18_131, bk_18_131, h0', j5, n_le, if_pos, if_pos, if_neg, not_true_eq_false, not_false_eq_true, or_true, true_or, or_false, false_or, false_and, and_false, Nat.reduceEqDiff, Nat.reduceLT, Nat.reduceMul, Nat.not_lt_zero, Nat.zero_le, Nat.le_refl, ne_eq, reduceIte, reduceCtorEq]
  refine Ev_cg ?_ ?_ (key .null .null)
  · funext x j
    simp only [rSt, mSet, cnt, fB]
    (repeat' split) <;> first | rfl | (exfalso; omega) | simp_all
  · rfl
theorem m_errorCount {K : mK} {R : Nat → Nat → Option Nat} {I : Nat → Nat → Int32} {r : Nat} {Q : Option Value → mH → Prop} (h : zR K R r) : EvM 22 [.ref r] (K, R, I) Q ↔ Q (some (.int (I r 1 + I r 2))) (K, R, I) := by
  obtain ⟨h0, h1, r0, h2⟩ := id h
  unfold EvM
  simp (disch := omega) only [e_iconst, e_bipush, e_sipush, e_iload_n, e_iload, e_aload_n, e_aload, e_istore_n, e_istore, e_astore_n, e_astore, e_iinc, e_iadd, e_isub, e_imul, e_iand, e_ishr, e_idiv, e_i2c, e_dup_i, e_dup_r, e_dup2, e_pop, e_goto, e_nop, e_if_eq, e_if_ne, e_if_lt, e_if_ge, e_if_gt, e_if_le, e_icmp_eq, e_icmp_ne, e_icmp_lt, e_icmp_ge, e_icmp_gt, e_icmp_le, e_tsw, e_ret0, e_ret1, e_retn, e_getI, e_getZ, e_getR, e_getV, e_getC, e_putI, e_putZ, e_putF, e_gst0, e_gst1, e_sld, e_iald, e_cald, e_bald, e_iast, e_cast, e_aald, e_aast, e_alen, e_slen, e_blen, e_newa, e_newq, e_new, e_oinit, e_ctor, e_virt, e_stat, e_min, e_copy, e_ldc, List.cons_append, List.nil_append, List.append_nil, List.length_cons, List.length_nil, List.replicate_succ, List.replicate_zero, List.getElem?_cons_zero, List.getElem?_cons_succ, List.set_cons_zero, List.set_cons_succ, List.take_succ_cons, List.take_zero, List.drop_succ_cons, List.drop_zero, List.reverse_cons, List.reverse_nil, Option.toList_some, Option.toList_none, Nat.reduceSub, Nat.reduceAdd, Nat.reduceLeDiff, true_and, and_true, and_self, Option.some.injEq, exists_eq_left', Nat.zero_add, Value.int.injEq, Value.ref.injEq, List.cons.injEq, exists_and_left, and_assoc, exists_eq_left, List.all_cons, List.all_nil, m1_i, m1_r, Bool.and_self, Bool.and_true, N_22, C_22, B_22_0, bk_22_0, h0, if_pos, if_neg, not_true_eq_false, not_false_eq_true, or_true, true_or, or_false, false_or, false_and, and_false, Nat.reduceEqDiff, Nat.reduceLT, Nat.reduceMul, Nat.not_lt_zero, Nat.zero_le, Nat.le_refl, ne_eq, reduceIte, reduceCtorEq]
theorem m_readTheSame {K : mK} {R : Nat → Nat → Option Nat} {I : Nat → Nat → Int32} {r q c : Nat} {Q : Option Value → mH → Prop} (h : zR K R r) (h' : zR K R q) (hc : c ≤ 30) :
    EvM 23 [.ref r, .ref q, .int (nI c)] (K, R, I) Q ↔ Q (some (.int (if fB (fun k => !(I (r + 1) k == I (q + 1) k)) c c = c then 1 else 0))) (K, R, I) := by
  obtain ⟨h0, h1, r0, h2⟩ := id h
  obtain ⟨h0', h1', r0', h2'⟩ := id h'
  refine EvM_iff ?_
  unfold EvM
  simp (disch := omega) only [e_iconst, e_bipush, e_sipush, e_iload_n, e_iload, e_aload_n, e_aload, e_istore_n, e_istore, e_astore_n, e_astore, e_iinc, e_iadd, e_isub, e_imul, e_iand, e_ishr, e_idiv, e_i2c, e_dup_i, e_dup_r, e_dup2, e_pop, e_goto, e_nop, e_if_eq, e_if_ne, e_if_lt, e_if_ge, e_if_gt, e_if_le, e_icmp_eq, e_icmp_ne, e_icmp_lt, e_icmp_ge, e_icmp_gt, e_icmp_le, e_tsw, e_ret0, e_ret1, e_retn, e_getI, e_getZ, e_getR, e_getV, e_getC, e_putI, e_putZ, e_putF, e_gst0, e_gst1, e_sld, e_iald, e_cald, e_bald, e_iast, e_cast, e_aald, e_aast, e_alen, e_slen, e_blen, e_newa, e_newq, e_new, e_oinit, e_ctor, e_virt, e_stat, e_min, e_copy, e_ldc, List.cons_append, List.nil_append, List.append_nil, List.length_cons, List.length_nil, List.replicate_succ, List.replicate_zero, List.getElem?_cons_zero, List.getElem?_cons_succ, List.set_cons_zero, List.set_cons_succ, List.take_succ_cons, List.take_zero, List.drop_succ_cons, List.drop_zero, List.reverse_cons, List.reverse_nil, Option.toList_some, Option.toList_none, Nat.reduceSub, Nat.reduceAdd, Nat.reduceLeDiff, true_and, and_true, and_self, Option.some.injEq, exists_eq_left', Nat.zero_add, Value.int.injEq, Value.ref.injEq, List.cons.injEq, exists_and_left, and_assoc, exists_eq_left, List.all_cons, List.all_nil, m1_i, m1_r, Bool.and_self, Bool.and_true, N_23, B_23_0, bk_23_0, if_pos, if_neg, not_true_eq_false, not_false_eq_true, or_true, true_or, or_false, false_or, false_and, and_false, Nat.reduceEqDiff, Nat.reduceLT, Nat.reduceMul, Nat.not_lt_zero, Nat.zero_le, Nat.le_refl, ne_eq, reduceIte, reduceCtorEq]
  have key := loop_dn (n := c) (P := fun k => fB (fun k => !(I (r + 1) k == I (q + 1) k)) c k = c → Ev 23 (mB 23 2) [.ref r, .ref q, .int (nI c), .int (nI k)] [] (K, R, I) (fun v k => v = some (.int (if fB (fun k => !(I (r + 1) k == I (q + 1) k)) c c = c then 1 else 0)) ∧ k = (K, R, I))) ?_ ?_
  · exact key rfl
  · intro k hk hnext hfb
    rw [B_23_2]
    simp (disch := omega) only [e_iconst, e_bipush, e_sipush, e_iload_n, e_iload, e_aload_n, e_aload, e_istore_n, e_istore, e_astore_n, e_astore, e_iinc, e_iadd, e_isub, e_imul, e_iand, e_ishr, e_idiv, e_i2c, e_dup_i, e_dup_r, e_dup2, e_pop, e_goto, e_nop, e_if_eq, e_if_ne, e_if_lt, e_if_ge, e_if_gt, e_if_le, e_icmp_eq, e_icmp_ne, e_icmp_lt, e_icmp_ge, e_icmp_gt, e_icmp_le, e_tsw, e_ret0, e_ret1, e_retn, e_getI, e_getZ, e_getR, e_getV, e_getC, e_putI, e_putZ, e_putF, e_gst0, e_gst1, e_sld, e_iald, e_cald, e_bald, e_iast, e_cast, e_aald, e_aast, e_alen, e_slen, e_blen, e_newa, e_newq, e_new, e_oinit, e_ctor, e_virt, e_stat, e_min, e_copy, e_ldc, List.cons_append, List.nil_append, List.append_nil, List.length_cons, List.length_nil, List.replicate_succ, List.replicate_zero, List.getElem?_cons_zero, List.getElem?_cons_succ, List.set_cons_zero, List.set_cons_succ, List.take_succ_cons, List.take_zero, List.drop_succ_cons, List.drop_zero, List.reverse_cons, List.reverse_nil, Option.toList_some, Option.toList_none, Nat.reduceSub, Nat.reduceAdd, Nat.reduceLeDiff, true_and, and_true, and_self, Option.some.injEq, exists_eq_left', Nat.zero_add, Value.int.injEq, Value.ref.injEq, List.cons.injEq, exists_and_left, and_assoc, exists_eq_left, List.all_cons, List.all_nil, m1_i, m1_r, Bool.and_self, Bool.and_true, bk_23_2, h0, h1, r0, h0', h1', r0', n_le, o_le_r, n_in, n_cl, o_add_l, if_neg, if_pos, if_neg, not_true_eq_false, not_false_eq_true, or_true, true_or, or_false, false_or, false_and, and_false, Nat.reduceEqDiff, Nat.reduceLT, Nat.reduceMul, Nat.not_lt_zero, Nat.zero_le, Nat.le_refl, ne_eq, reduceIte, reduceCtorEq]
    by_cases e : I (r + 1) k = I (q + 1) k
    · rw [if_pos e, B_23_30]
      simp (disch := omega) only [e_iconst, e_bipush, e_sipush, e_iload_n, e_iload, e_aload_n, e_aload, e_istore_n, e_istore, e_astore_n, e_astore, e_iinc, e_iadd, e_isub, e_imul, e_iand, e_ishr, e_idiv, e_i2c, e_dup_i, e_dup_r, e_dup2, e_pop, e_goto, e_nop, e_if_eq, e_if_ne, e_if_lt, e_if_ge, e_if_gt, e_if_le, e_icmp_eq, e_icmp_ne, e_icmp_lt, e_icmp_ge, e_icmp_gt, e_icmp_le, e_tsw, e_ret0, e_ret1, e_retn, e_getI, e_getZ, e_getR, e_getV, e_getC, e_putI, e_putZ, e_putF, e_gst0, e_gst1, e_sld, e_iald, e_cald, e_bald, e_iast, e_cast, e_aald, e_aast, e_alen, e_slen, e_blen, e_newa, e_newq, e_new, e_oinit, e_ctor, e_virt, e_stat, e_min, e_copy, e_ldc, List.cons_append, List.nil_append, List.append_nil, List.length_cons, List.length_nil, List.replicate_succ, List.replicate_zero, List.getElem?_cons_zero, List.getElem?_cons_succ, List.set_cons_zero, List.set_cons_succ, List.take_succ_cons, List.take_zero, List.drop_succ_cons, List.drop_zero, List.reverse_cons, List.reverse_nil, Option.toList_some, Option.toList_none, Nat.reduceSub, Nat.reduceAdd, Nat.reduceLeDiff, true_and, and_true, and_self, Option.some.injEq, exists_eq_left', Nat.zero_add, Value.int.injEq, Value.ref.injEq, List.cons.injEq, exists_and_left, and_assoc, exists_eq_left, List.all_cons, List.all_nil, m1_i, m1_r, Bool.and_self, Bool.and_true, bk_23_30, o_add_l, if_pos, if_neg, not_true_eq_false, not_false_eq_true, or_true, true_or, or_false, false_or, false_and, and_false, Nat.reduceEqDiff, Nat.reduceLT, Nat.reduceMul, Nat.not_lt_zero, Nat.zero_le, Nat.le_refl, ne_eq, reduceIte, reduceCtorEq]
      exact hnext (by simp [fB, hfb, e])
    · rw [if_neg e]
      have hs : fB (fun k => !(I (r + 1) k == I (q + 1) k)) c (k + 1) = k := by simp [fB, hfb, e]
      have hst : ∀ j, k + 1 ≤ j → j ≤ c → fB (fun k => !(I (r + 1) k == I (q + 1) k)) c j = k := by
        intro j
        induction j with
        | zero => intro h; omega
        | succ j ih =>
          intro hj1 hj2
          rcases Nat.lt_or_ge j (k + 1) with z | z
          · rw [show j = k by omega]; exact hs
          · rw [fB, ih z (by omega), if_neg (by omega)]
      rw [hst c (by omega) (Nat.le_refl _), if_neg (by omega)]
  · intro hfb
    rw [B_23_2]
    simp (disch := omega) only [e_iconst, e_bipush, e_sipush, e_iload_n, e_iload, e_aload_n, e_aload, e_istore_n, e_istore, e_astore_n, e_astore, e_iinc, e_iadd, e_isub, e_imul, e_iand, e_ishr, e_idiv, e_i2c, e_dup_i, e_dup_r, e_dup2, e_pop, e_goto, e_nop, e_if_eq, e_if_ne, e_if_lt, e_if_ge, e_if_gt, e_if_le, e_icmp_eq, e_icmp_ne, e_icmp_lt, e_icmp_ge, e_icmp_gt, e_icmp_le, e_tsw, e_ret0, e_ret1, e_retn, e_getI, e_getZ, e_getR, e_getV, e_getC, e_putI, e_putZ, e_putF, e_gst0, e_gst1, e_sld, e_iald, e_cald, e_bald, e_iast, e_cast, e_aald, e_aast, e_alen, e_slen, e_blen, e_newa, e_newq, e_new, e_oinit, e_ctor, e_virt, e_stat, e_min, e_copy, e_ldc, List.cons_append, List.nil_append, List.append_nil, List.length_cons, List.length_nil, List.replicate_succ, List.replicate_zero, List.getElem?_cons_zero, List.getElem?_cons_succ, List.set_cons_zero, List.set_cons_succ, List.take_succ_cons, List.take_zero, List.drop_succ_cons, List.drop_zero, List.reverse_cons, List.reverse_nil, Option.toList_some, Option.toList_none, Nat.reduceSub, Nat.reduceAdd, Nat.reduceLeDiff, true_and, and_true, and_self, Option.some.injEq, exists_eq_left', Nat.zero_add, Value.int.injEq, Value.ref.injEq, List.cons.injEq, exists_and_left, and_assoc, exists_eq_left, List.all_cons, List.all_nil, m1_i, m1_r, Bool.and_self, Bool.and_true, bk_23_2, B_23_36, bk_23_36, n_le, if_pos, if_pos, if_neg, not_true_eq_false, not_false_eq_true, or_true, true_or, or_false, false_or, false_and, and_false, Nat.reduceEqDiff, Nat.reduceLT, Nat.reduceMul, Nat.not_lt_zero, Nat.zero_le, Nat.le_refl, ne_eq, reduceIte, reduceCtorEq, hfb]
end
section
/-! THE LOG of the class -/
def zL (K : mK) (R : Nat → Nat → Option Nat) (a : Nat) : Prop := K.2.2.1 a = (1, 2) ∧ K.2.2.1 (a + 1) = (2, 10) ∧ K.2.2.1 (a + 2) = (2, 10) ∧ K.2.2.1 (a + 3) = (2, 10) ∧ R a 0 = some (a + 1) ∧ R a 1 = some (a + 2) ∧ R a 2 = some (a + 3) ∧ a < 1000
/-- the log's cells behind one more event -/
def lAd (I : Nat → Nat → Int32) (a n : Nat) (kd sp nu : Int32) : Nat → Nat → Int32 := fun x j =>
  if n = 10 then
    (if x = a + 1 then (if j < 9 then I x (j + 1) else if j = 9 then kd else I x j) else if x = a + 2 then (if j < 9 then I x (j + 1) else if j = 9 then sp else I x j) else if x = a + 3 then (if j < 9 then I x (j + 1) else if j = 9 then nu else I x j) else if x = a ∧ j = 3 then nI 10 else I x j)
  else if x = a + 1 ∧ j = n then kd else if x = a + 2 ∧ j = n then sp else if x = a + 3 ∧ j = n then nu else if x = a ∧ j = 3 then nI (n + 1) else I x j
theorem m_dropOldest {K : mK} {R : Nat → Nat → Option Nat} {I : Nat → Nat → Int32} {a : Nat} {Q : Option Value → mH → Prop} (h : zL K R a) : EvM 15 [.ref a] (K, R, I) Q ↔ Q none (K, R, mSet (mCpy (mCpy (mCpy I (a + 1) 1 (a + 1) 0 9) (a + 2) 1 (a + 2) 0 9) (a + 3) 1 (a + 3) 0 9) a 3 9) := by
  obtain ⟨h0, h1, h2, h3, r0, r1, r2, h4⟩ := id h
  unfold EvM
  simp (disch := omega) only [e_iconst, e_bipush, e_sipush, e_iload_n, e_iload, e_aload_n, e_aload, e_istore_n, e_istore, e_astore_n, e_astore, e_iinc, e_iadd, e_isub, e_imul, e_iand, e_ishr, e_idiv, e_i2c, e_dup_i, e_dup_r, e_dup2, e_pop, e_goto, e_nop, e_if_eq, e_if_ne, e_if_lt, e_if_ge, e_if_gt, e_if_le, e_icmp_eq, e_icmp_ne, e_icmp_lt, e_icmp_ge, e_icmp_gt, e_icmp_le, e_tsw, e_ret0, e_ret1, e_retn, e_getI, e_getZ, e_getR, e_getV, e_getC, e_putI, e_putZ, e_putF, e_gst0, e_gst1, e_sld, e_iald, e_cald, e_bald, e_iast, e_cast, e_aald, e_aast, e_alen, e_slen, e_blen, e_newa, e_newq, e_new, e_oinit, e_ctor, e_virt, e_stat, e_min, e_copy, e_ldc, List.cons_append, List.nil_append, List.append_nil, List.length_cons, List.length_nil, List.replicate_succ, List.replicate_zero, List.getElem?_cons_zero, List.getElem?_cons_succ, List.set_cons_zero, List.set_cons_succ, List.take_succ_cons, List.take_zero, List.drop_succ_cons, List.drop_zero, List.reverse_cons, List.reverse_nil, Option.toList_some, Option.toList_none, Nat.reduceSub, Nat.reduceAdd, Nat.reduceLeDiff, true_and, and_true, and_self, Option.some.injEq, exists_eq_left', Nat.zero_add, Value.int.injEq, Value.ref.injEq, List.cons.injEq, exists_and_left, and_assoc, exists_eq_left, List.all_cons, List.all_nil, m1_i, m1_r, Bool.and_self, Bool.and_true, N_15, C_15, B_15_0, bk_15_0, h0, h1, h2, h3, r0, r1, r2, o_cl, o_le, if_pos, if_neg, not_true_eq_false, not_false_eq_true, or_true, true_or, or_false, false_or, false_and, and_false, Nat.reduceEqDiff, Nat.reduceLT, Nat.reduceMul, Nat.not_lt_zero, Nat.zero_le, Nat.le_refl, ne_eq, reduceIte, reduceCtorEq]
theorem m_logAdd {K : mK} {R : Nat → Nat → Option Nat} {I : Nat → Nat → Int32} {a n : Nat} {kd sp nu : Int32} {Q : Option Value → mH → Prop} (h : zL K R a) (hn : I a 3 = nI n) (hn2 : n ≤ 10) : EvM 14 [.ref a, .int kd, .int sp, .int nu] (K, R, I) Q ↔ Q none (K, R, lAd I a n kd sp nu) := by
  obtain ⟨h0, h1, h2, h3, r0, r1, r2, h4⟩ := id h
  refine EvM_iff ?_
  unfold EvM
  by_cases e : n = 10
  · subst e
    simp (disch := omega) only [e_iconst, e_bipush, e_sipush, e_iload_n, e_iload, e_aload_n, e_aload, e_istore_n, e_istore, e_astore_n, e_astore, e_iinc, e_iadd, e_isub, e_imul, e_iand, e_ishr, e_idiv, e_i2c, e_dup_i, e_dup_r, e_dup2, e_pop, e_goto, e_nop, e_if_eq, e_if_ne, e_if_lt, e_if_ge, e_if_gt, e_if_le, e_icmp_eq, e_icmp_ne, e_icmp_lt, e_icmp_ge, e_icmp_gt, e_icmp_le, e_tsw, e_ret0, e_ret1, e_retn, e_getI, e_getZ, e_getR, e_getV, e_getC, e_putI, e_putZ, e_putF, e_gst0, e_gst1, e_sld, e_iald, e_cald, e_bald, e_iast, e_cast, e_aald, e_aast, e_alen, e_slen, e_blen, e_newa, e_newq, e_new, e_oinit, e_ctor, e_virt, e_stat, e_min, e_copy, e_ldc, List.cons_append, List.nil_append, List.append_nil, List.length_cons, List.length_nil, List.replicate_succ, List.replicate_zero, List.getElem?_cons_zero, List.getElem?_cons_succ, List.set_cons_zero, List.set_cons_succ, List.take_succ_cons, List.take_zero, List.drop_succ_cons, List.drop_zero, List.reverse_cons, List.reverse_nil, Option.toList_some, Option.toList_none, Nat.reduceSub, Nat.reduceAdd, Nat.reduceLeDiff, true_and, and_true, and_self, Option.some.injEq, exists_eq_left', Nat.zero_add, Value.int.injEq, Value.ref.injEq, List.cons.injEq, exists_and_left, and_assoc, exists_eq_left, List.all_cons, List.all_nil, m1_i, m1_r, Bool.and_self, Bool.and_true, N_14, C_14, B_14_0, bk_14_0, B_14_13, bk_14_13, h0, h1, h2, h3, r0, r1, r2, hn, C_15, m_dropOldest h, o_eq_l, s_eq, s_ne, o_cl, o_in, if_pos, if_neg, not_true_eq_false, not_false_eq_true, or_true, true_or, or_false, false_or, false_and, and_false, Nat.reduceEqDiff, Nat.reduceLT, Nat.reduceMul, Nat.not_lt_zero, Nat.zero_le, Nat.le_refl, ne_eq, reduceIte, reduceCtorEq]
    congr 2
    funext x j
    simp only [lAd, mSet, mCpy, if_true]
    (repeat' split) <;> first | rfl | (exfalso; omega) | (subst_vars; congr 1; omega) | (simp_all; done)
  · simp (disch := omega) only [e_iconst, e_bipush, e_sipush, e_iload_n, e_iload, e_aload_n, e_aload, e_istore_n, e_istore, e_astore_n, e_astore, e_iinc, e_iadd, e_isub, e_imul, e_iand, e_ishr, e_idiv, e_i2c, e_dup_i, e_dup_r, e_dup2, e_pop, e_goto, e_nop, e_if_eq, e_if_ne, e_if_lt, e_if_ge, e_if_gt, e_if_le, e_icmp_eq, e_icmp_ne, e_icmp_lt, e_icmp_ge, e_icmp_gt, e_icmp_le, e_tsw, e_ret0, e_ret1, e_retn, e_getI, e_getZ, e_getR, e_getV, e_getC, e_putI, e_putZ, e_putF, e_gst0, e_gst1, e_sld, e_iald, e_cald, e_bald, e_iast, e_cast, e_aald, e_aast, e_alen, e_slen, e_blen, e_newa, e_newq, e_new, e_oinit, e_ctor, e_virt, e_stat, e_min, e_copy, e_ldc, List.cons_append, List.nil_append, List.append_nil, List.length_cons, List.length_nil, List.replicate_succ, List.replicate_zero, List.getElem?_cons_zero, List.getElem?_cons_succ, List.set_cons_zero, List.set_cons_succ, List.take_succ_cons, List.take_zero, List.drop_succ_cons, List.drop_zero, List.reverse_cons, List.reverse_nil, Option.toList_some, Option.toList_none, Nat.reduceSub, Nat.reduceAdd, Nat.reduceLeDiff, true_and, and_true, and_self, Option.some.injEq, exists_eq_left', Nat.zero_add, Value.int.injEq, Value.ref.injEq, List.cons.injEq, exists_and_left, and_assoc, exists_eq_left, List.all_cons, List.all_nil, m1_i, m1_r, Bool.and_self, Bool.and_true, N_14, C_14, B_14_0, bk_14_0, B_14_13, bk_14_13, h0, h1, h2, h3, r0, r1, r2, hn, o_eq_l, if_neg, s_eq, s_ne, n_cl, n_in, o_add_l, if_pos, if_neg, not_true_eq_false, not_false_eq_true, or_true, true_or, or_false, false_or, false_and, and_false, Nat.reduceEqDiff, Nat.reduceLT, Nat.reduceMul, Nat.not_lt_zero, Nat.zero_le, Nat.le_refl, ne_eq, reduceIte, reduceCtorEq, e]
    congr 2
    funext x j
    simp only [lAd, mSet, if_neg e]
    (repeat' split) <;> first | rfl | (exfalso; omega) | (simp_all; done)
def lCp (I : Nat → Nat → Int32) (a b : Nat) : Nat → Nat → Int32 := fun x j => if x = a ∧ j = 3 then I b 3 else if x = a + 1 ∧ j < 10 then I (b + 1) j else if x = a + 2 ∧ j < 10 then I (b + 2) j else if x = a + 3 ∧ j < 10 then I (b + 3) j else I x j
theorem lCp_o {I : Nat → Nat → Int32} {a b x j : Nat} (h : x < a ∨ a + 3 < x) : lCp I a b x j = I x j := by
  unfold lCp
  rw [if_neg (by omega), if_neg (by omega), if_neg (by omega), if_neg (by omega)]
theorem m_logCopy {K : mK} {R : Nat → Nat → Option Nat} {I : Nat → Nat → Int32} {a b : Nat} {Q : Option Value → mH → Prop} (h : zL K R a) (h' : zL K R b) (hab : a + 4 ≤ b ∨ b + 4 ≤ a) : EvM 13 [.ref a, .ref b] (K, R, I) Q ↔ Q none (K, R, lCp I a b) := by
  obtain ⟨h0, h1, h2, h3, r0, r1, r2, h4⟩ := id h
  obtain ⟨h0', h1', h2', h3', r0', r1', r2', h4'⟩ := id h'
  refine EvM_iff ?_
  unfold EvM
  have c1 : ∀ {J : Nat → Nat → Int32} {o q sp dp n x j : Nat}, x ≠ q → mCpy J o sp q dp n x j = J x j := fun e => by rw [mCpy_o' e]
  simp (disch := omega) only [e_iconst, e_bipush, e_sipush, e_iload_n, e_iload, e_aload_n, e_aload, e_istore_n, e_istore, e_astore_n, e_astore, e_iinc, e_iadd, e_isub, e_imul, e_iand, e_ishr, e_idiv, e_i2c, e_dup_i, e_dup_r, e_dup2, e_pop, e_goto, e_nop, e_if_eq, e_if_ne, e_if_lt, e_if_ge, e_if_gt, e_if_le, e_icmp_eq, e_icmp_ne, e_icmp_lt, e_icmp_ge, e_icmp_gt, e_icmp_le, e_tsw, e_ret0, e_ret1, e_retn, e_getI, e_getZ, e_getR, e_getV, e_getC, e_putI, e_putZ, e_putF, e_gst0, e_gst1, e_sld, e_iald, e_cald, e_bald, e_iast, e_cast, e_aald, e_aast, e_alen, e_slen, e_blen, e_newa, e_newq, e_new, e_oinit, e_ctor, e_virt, e_stat, e_min, e_copy, e_ldc, List.cons_append, List.nil_append, List.append_nil, List.length_cons, List.length_nil, List.replicate_succ, List.replicate_zero, List.getElem?_cons_zero, List.getElem?_cons_succ, List.set_cons_zero, List.set_cons_succ, List.take_succ_cons, List.take_zero, List.drop_succ_cons, List.drop_zero, List.reverse_cons, List.reverse_nil, Option.toList_some, Option.toList_none, Nat.reduceSub, Nat.reduceAdd, Nat.reduceLeDiff, true_and, and_true, and_self, Option.some.injEq, exists_eq_left', Nat.zero_add, Value.int.injEq, Value.ref.injEq, List.cons.injEq, exists_and_left, and_assoc, exists_eq_left, List.all_cons, List.all_nil, m1_i, m1_r, Bool.and_self, Bool.and_true, N_13, C_13, B_13_0, bk_13_0, h0, h1, h2, h3, r0, r1, r2, h0', h1', h2', h3', r0', r1', r2', c1, o_cl, o_le, if_pos, if_neg, not_true_eq_false, not_false_eq_true, or_true, true_or, or_false, false_or, false_and, and_false, Nat.reduceEqDiff, Nat.reduceLT, Nat.reduceMul, Nat.not_lt_zero, Nat.zero_le, Nat.le_refl, ne_eq, reduceIte, reduceCtorEq]
  congr 2
  funext x j
  simp only [mSet, mCpy, lCp]
  (repeat' split) <;> first | rfl | (exfalso; omega) | (simp_all; done) | (congr 1; omega) | (congr 1 <;> omega)
theorem m_logTell {K : mK} {R : Nat → Nat → Option Nat} {I : Nat → Nat → Int32} {a n : Nat} {b w : Int32} {Q : Option Value → mH → Prop} (h : zL K R a) (hn : I a 3 = nI n) (hn2 : n ≤ 10) (hb : 0 ≤ b) : EvM 16 [.ref a, .int b, .int w] (K, R, I) Q ↔ Q (some (.int (if nI n ≤ b then -5 else I (if w = 0 then a + 1 else if w = 1 then a + 2 else a + 3) (n - 1 - b.toNatClampNeg)))) (K, R, I) := by
  obtain ⟨h0, h1, h2, h3, r0, r1, r2, h4⟩ := id h
  refine EvM_iff ?_
  unfold EvM
  rcases sp_cases b (n := n) (by omega) with ⟨k, hk, rfl⟩ | q
  · have e1 : ¬ nI n ≤ nI k := by rw [n_le (by omega) (by omega)]; omega
    have e2 : (nI k).toNatClampNeg = k := n_cl (by omega)
    by_cases c0 : w = 0
    · simp (disch := omega) only [e_iconst, e_bipush, e_sipush, e_iload_n, e_iload, e_aload_n, e_aload, e_istore_n, e_istore, e_astore_n, e_astore, e_iinc, e_iadd, e_isub, e_imul, e_iand, e_ishr, e_idiv, e_i2c, e_dup_i, e_dup_r, e_dup2, e_pop, e_goto, e_nop, e_if_eq, e_if_ne, e_if_lt, e_if_ge, e_if_gt, e_if_le, e_icmp_eq, e_icmp_ne, e_icmp_lt, e_icmp_ge, e_icmp_gt, e_icmp_le, e_tsw, e_ret0, e_ret1, e_retn, e_getI, e_getZ, e_getR, e_getV, e_getC, e_putI, e_putZ, e_putF, e_gst0, e_gst1, e_sld, e_iald, e_cald, e_bald, e_iast, e_cast, e_aald, e_aast, e_alen, e_slen, e_blen, e_newa, e_newq, e_new, e_oinit, e_ctor, e_virt, e_stat, e_min, e_copy, e_ldc, List.cons_append, List.nil_append, List.append_nil, List.length_cons, List.length_nil, List.replicate_succ, List.replicate_zero, List.getElem?_cons_zero, List.getElem?_cons_succ, List.set_cons_zero, List.set_cons_succ, List.take_succ_cons, List.take_zero, List.drop_succ_cons, List.drop_zero, List.reverse_cons, List.reverse_nil, Option.toList_some, Option.toList_none, Nat.reduceSub, Nat.reduceAdd, Nat.reduceLeDiff, true_and, and_true, and_self, Option.some.injEq, exists_eq_left', Nat.zero_add, Value.int.injEq, Value.ref.injEq, List.cons.injEq, exists_and_left, and_assoc, exists_eq_left, List.all_cons, List.all_nil, m1_i, m1_r, Bool.and_self, Bool.and_true, N_16, C_16, B_16_0, bk_16_0, B_16_12, bk_16_12, B_16_15, bk_16_15, B_16_35, bk_16_35, B_16_49, bk_16_49, B_16_55, bk_16_55, h0, h1, h2, h3, r0, r1, r2, hn, n_ne0, n_lt, if_pos, if_neg, o_sub_l, n_sub, n_in, n_cl, e1, e2, c0, if_pos, if_neg, not_true_eq_false, not_false_eq_true, or_true, true_or, or_false, false_or, false_and, and_false, Nat.reduceEqDiff, Nat.reduceLT, Nat.reduceMul, Nat.not_lt_zero, Nat.zero_le, Nat.le_refl, ne_eq, reduceIte, reduceCtorEq]
    · by_cases c1 : w = 1
      · simp (disch := omega) only [e_iconst, e_bipush, e_sipush, e_iload_n, e_iload, e_aload_n, e_aload, e_istore_n, e_istore, e_astore_n, e_astore, e_iinc, e_iadd, e_isub, e_imul, e_iand, e_ishr, e_idiv, e_i2c, e_dup_i, e_dup_r, e_dup2, e_pop, e_goto, e_nop, e_if_eq, e_if_ne, e_if_lt, e_if_ge, e_if_gt, e_if_le, e_icmp_eq, e_icmp_ne, e_icmp_lt, e_icmp_ge, e_icmp_gt, e_icmp_le, e_tsw, e_ret0, e_ret1, e_retn, e_getI, e_getZ, e_getR, e_getV, e_getC, e_putI, e_putZ, e_putF, e_gst0, e_gst1, e_sld, e_iald, e_cald, e_bald, e_iast, e_cast, e_aald, e_aast, e_alen, e_slen, e_blen, e_newa, e_newq, e_new, e_oinit, e_ctor, e_virt, e_stat, e_min, e_copy, e_ldc, List.cons_append, List.nil_append, List.append_nil, List.length_cons, List.length_nil, List.replicate_succ, List.replicate_zero, List.getElem?_cons_zero, List.getElem?_cons_succ, List.set_cons_zero, List.set_cons_succ, List.take_succ_cons, List.take_zero, List.drop_succ_cons, List.drop_zero, List.reverse_cons, List.reverse_nil, Option.toList_some, Option.toList_none, Nat.reduceSub, Nat.reduceAdd, Nat.reduceLeDiff, true_and, and_true, and_self, Option.some.injEq, exists_eq_left', Nat.zero_add, Value.int.injEq, Value.ref.injEq, List.cons.injEq, exists_and_left, and_assoc, exists_eq_left, List.all_cons, List.all_nil, m1_i, m1_r, Bool.and_self, Bool.and_true, N_16, C_16, B_16_0, bk_16_0, B_16_12, bk_16_12, B_16_15, bk_16_15, B_16_35, bk_16_35, B_16_49, bk_16_49, B_16_55, bk_16_55, h0, h1, h2, h3, r0, r1, r2, hn, n_ne0, n_lt, if_pos, if_neg, o_sub_l, n_sub, n_in, n_cl, e1, e2, c0, c1, o_eq, if_pos, if_neg, not_true_eq_false, not_false_eq_true, or_true, true_or, or_false, false_or, false_and, and_false, Nat.reduceEqDiff, Nat.reduceLT, Nat.reduceMul, Nat.not_lt_zero, Nat.zero_le, Nat.le_refl, ne_eq, reduceIte, reduceCtorEq]
      · simp (disch := omega) only [e_iconst, e_bipush, e_sipush, e_iload_n, e_iload, e_aload_n, e_aload, e_istore_n, e_istore, e_astore_n, e_astore, e_iinc, e_iadd, e_isub, e_imul, e_iand, e_ishr, e_idiv, e_i2c, e_dup_i, e_dup_r, e_dup2, e_pop, e_goto, e_nop, e_if_eq, e_if_ne, e_if_lt, e_if_ge, e_if_gt, e_if_le, e_icmp_eq, e_icmp_ne, e_icmp_lt, e_icmp_ge, e_icmp_gt, e_icmp_le, e_tsw, e_ret0, e_ret1, e_retn, e_getI, e_getZ, e_getR, e_getV, e_getC, e_putI, e_putZ, e_putF, e_gst0, e_gst1, e_sld, e_iald, e_cald, e_bald, e_iast, e_cast, e_aald, e_aast, e_alen, e_slen, e_blen, e_newa, e_newq, e_new, e_oinit, e_ctor, e_virt, e_stat, e_min, e_copy, e_ldc, List.cons_append, List.nil_append, List.append_nil, List.length_cons, List.length_nil, List.replicate_succ, List.replicate_zero, List.getElem?_cons_zero, List.getElem?_cons_succ, List.set_cons_zero, List.set_cons_succ, List.take_succ_cons, List.take_zero, List.drop_succ_cons, List.drop_zero, List.reverse_cons, List.reverse_nil, Option.toList_some, Option.toList_none, Nat.reduceSub, Nat.reduceAdd, Nat.reduceLeDiff, true_and, and_true, and_self, Option.some.injEq, exists_eq_left', Nat.zero_add, Value.int.injEq, Value.ref.injEq, List.cons.injEq, exists_and_left, and_assoc, exists_eq_left, List.all_cons, List.all_nil, m1_i, m1_r, Bool.and_self, Bool.and_true, N_16, C_16, B_16_0, bk_16_0, B_16_12, bk_16_12, B_16_15, bk_16_15, B_16_35, bk_16_35, B_16_49, bk_16_49, B_16_55, bk_16_55, h0, h1, h2, h3, r0, r1, r2, hn, n_ne0, n_lt, if_pos, if_neg, o_sub_l, n_sub, n_in, n_cl, e1, e2, c0, c1, if_pos, if_neg, not_true_eq_false, not_false_eq_true, or_true, true_or, or_false, false_or, false_and, and_false, Nat.reduceEqDiff, Nat.reduceLT, Nat.reduceMul, Nat.not_lt_zero, Nat.zero_le, Nat.le_refl, ne_eq, reduceIte, reduceCtorEq]
  · have q2 : nI n ≤ b := q.resolve_left (Int32.not_lt.mpr hb)
    have q3 : ¬ b < nI n := Int32.not_lt.mpr q2
    have q4 : ¬ b < 0 := Int32.not_lt.mpr hb
    simp (disch := omega) only [e_iconst, e_bipush, e_sipush, e_iload_n, e_iload, e_aload_n, e_aload, e_istore_n, e_istore, e_astore_n, e_astore, e_iinc, e_iadd, e_isub, e_imul, e_iand, e_ishr, e_idiv, e_i2c, e_dup_i, e_dup_r, e_dup2, e_pop, e_goto, e_nop, e_if_eq, e_if_ne, e_if_lt, e_if_ge, e_if_gt, e_if_le, e_icmp_eq, e_icmp_ne, e_icmp_lt, e_icmp_ge, e_icmp_gt, e_icmp_le, e_tsw, e_ret0, e_ret1, e_retn, e_getI, e_getZ, e_getR, e_getV, e_getC, e_putI, e_putZ, e_putF, e_gst0, e_gst1, e_sld, e_iald, e_cald, e_bald, e_iast, e_cast, e_aald, e_aast, e_alen, e_slen, e_blen, e_newa, e_newq, e_new, e_oinit, e_ctor, e_virt, e_stat, e_min, e_copy, e_ldc, List.cons_append, List.nil_append, List.append_nil, List.length_cons, List.length_nil, List.replicate_succ, List.replicate_zero, List.getElem?_cons_zero, List.getElem?_cons_succ, List.set_cons_zero, List.set_cons_succ, List.take_succ_cons, List.take_zero, List.drop_succ_cons, List.drop_zero, List.reverse_cons, List.reverse_nil, Option.toList_some, Option.toList_none, Nat.reduceSub, Nat.reduceAdd, Nat.reduceLeDiff, true_and, and_true, and_self, Option.some.injEq, exists_eq_left', Nat.zero_add, Value.int.injEq, Value.ref.injEq, List.cons.injEq, exists_and_left, and_assoc, exists_eq_left, List.all_cons, List.all_nil, m1_i, m1_r, Bool.and_self, Bool.and_true, N_16, C_16, B_16_0, bk_16_0, B_16_12, bk_16_12, B_16_15, bk_16_15, B_16_35, bk_16_35, B_16_49, bk_16_49, B_16_55, bk_16_55, h0, h1, h2, h3, r0, r1, r2, hn, q2, q3, q4, if_pos, if_neg, not_true_eq_false, not_false_eq_true, or_true, true_or, or_false, false_or, false_and, and_false, Nat.reduceEqDiff, Nat.reduceLT, Nat.reduceMul, Nat.not_lt_zero, Nat.zero_le, Nat.le_refl, ne_eq, reduceIte, reduceCtorEq]
end
section
/-! THE GHOST of a state: a row of numbers (cells 98 s + .. of the wire s; 588 rule, 589 limit, 590 to 594 sums, 595 and on the log) -/
/-- a wire's flags in the row v -/
def vF (v : Nat → Int32) (s p cl c : Nat) : Prop := v (98 * s) = nI p ∧ v (98 * s + 1) = nI cl ∧ v (98 * s + 2) = nI c ∧ p ≤ 1 ∧ cl ≤ 1 ∧ c ≤ 30
/-- the row's cells behind one more event -/
def vTl (v : Nat → Int32) (n : Nat) (kd sp nu : Int32) : Nat → Int32 := fun x =>
  if n = 10 then (if 596 ≤ x ∧ x < 623 then v (x + 3) else if x = 623 then kd else if x = 624 then sp else if x = 625 then nu else v x)
  else if x = 596 + 3 * n then kd else if x = 597 + 3 * n then sp else if x = 598 + 3 * n then nu else if x = 595 then nI (n + 1) else v x
def vU (v : Nat → Int32) (k : Nat) (x : Int32) : Nat → Int32 := fun j => if j = k then x else v j
theorem u_ne {v : Nat → Int32} {k j : Nat} {x : Int32} (h : j ≠ k) : vU v k x j = v j := if_neg h
theorem u_eq {v : Nat → Int32} {k : Nat} {x : Int32} : vU v k x k = x := if_pos rfl
def vRec (H v : Nat → Int32) (n : Nat) : Nat → Int32 := fun x =>
  if n = 4 then (if x < 1878 then H (x + 626) else if x < 2504 then v (x - 1878) else H x) else (if 626 * n ≤ x ∧ x < 626 * n + 626 then v (x - 626 * n) else H x)
/-- a gap of the row, stretched; whether it is too long then; the row when m gaps are stretched -/
def vLn (v : Nat → Int32) (s : Nat) (pu : Int32) (n k : Nat) : Int32 := v (98 * s + (4 + k)) + v (98 * s + (4 + k)) * vStr (v 588) pu (nI k) (nI n) / 10000
def vBd (v : Nat → Int32) (s : Nat) (pu : Int32) (n k : Nat) : Bool := !decide (vLn v s pu n k * 100 ≤ v (98 * s + (36 + k)) * v 589)
def vSt (v : Nat → Int32) (s : Nat) (pu : Int32) (n m : Nat) : Nat → Int32 := fun x => if 98 * s + 4 ≤ x ∧ x < 98 * s + 4 + m then vLn v s pu n (x - (98 * s + 4)) else v x
/-- the row behind one rewind, as far as the event -/
def vR1 (v : Nat → Int32) (s : Nat) (pu : Int32) (n ln : Nat) : Nat → Int32 :=
  vTl (vU (vU (vU (vSt v s pu n n) (98 * s + 3) (v (98 * s + 3) + 1)) 590 (v 590 + (10 - pu))) 592 (v 592 + 1)) ln 1 (nI s) pu
def lnx (ln : Nat) : Nat := if ln = 10 then 10 else ln + 1
/-- and behind a break at the gap f -/
def vR2 (w : Nat → Int32) (s c cl f ln : Nat) : Nat → Int32 :=
  vU (vU (vU (vTl (vU (vU w 593 (w 593 + 1)) 594 (w 594 + (if f = c + cl ∧ cl = 1 then 0 else nI (c - (if f = 0 then 0 else f - 1))))) ln 2 (nI s) (nI (c + 1 + cl - f))) (98 * s) (if f = 0 then 0 else 1)) (98 * s + 1) 0) (98 * s + 2) (nI (if c < f then c else if f = 0 then 0 else f - 1))
theorem vTl_o {v : Nat → Int32} {n x : Nat} {kd sp nu : Int32} (h : x < 595) : vTl v n kd sp nu x = v x := by
  unfold vTl
  by_cases e : n = 10
  · rw [if_pos e, if_neg (by omega), if_neg (by omega), if_neg (by omega), if_neg (by omega)]
  · rw [if_neg e, if_neg (by omega), if_neg (by omega), if_neg (by omega), if_neg (by omega)]
theorem vTl_n {v : Nat → Int32} {n : Nat} {kd sp nu : Int32} (hn : v 595 = nI n) (h2 : n ≤ 10) : vTl v n kd sp nu 595 = nI (lnx n) := by
  unfold vTl lnx
  by_cases e : n = 10
  · rw [if_pos e, if_pos e, if_neg (by omega), if_neg (by omega), if_neg (by omega), if_neg (by omega), hn, e]
  · rw [if_neg e, if_neg e, if_neg (by omega), if_neg (by omega), if_neg (by omega), if_pos rfl]
theorem vSt_o {v : Nat → Int32} {s n m x : Nat} {pu : Int32} (h : ¬ (98 * s + 4 ≤ x ∧ x < 98 * s + 4 + m)) : vSt v s pu n m x = v x := if_neg h
end
section
/-! THE RELATION of a class state with a row of the reference; the class's states -/
def okG (x y : Int32) : Prop := ∃ m n : Nat, x = nI m ∧ y = nI n ∧ 2000 ≤ n ∧ n ≤ 9000 ∧ n ≤ m ∧ m ≤ 2 * n
def rW (I : Nat → Nat → Int32) (a : Nat) (v : Nat → Int32) (s p cl c : Nat) : Prop :=
  wF I a p cl c ∧ vF v s p cl c ∧ (p = 0 → cl = 0 ∧ c = 0) ∧ (p = 1 → I a 6 = v (98 * s + 3)) ∧ (p = 1 → I (a + 3) 0 = -1) ∧
  (∀ k, k < ngp p cl c → I (a + 1) k = v (98 * s + (4 + k)) ∧ I (a + 2) k = v (98 * s + (36 + k)) ∧ okG (v (98 * s + (4 + k))) (v (98 * s + (36 + k)))) ∧
  (∀ i, i < c → I (a + 3) (i + 1) = v (98 * s + (68 + i)) ∧ ∃ t, t < 8 ∧ v (98 * s + (68 + i)) = nI t) ∧ (cl = 1 → I (a + 3) (c + 1) = -1)
theorem rW_cong {I I' : Nat → Nat → Int32} {a a' s p cl c : Nat} {v v' : Nat → Int32} (h : rW I a v s p cl c) (hI : ∀ d j, d < 4 → (d = 0 → 3 ≤ j ∧ j ≤ 6) → j < 32 → I' (a' + d) j = I (a + d) j) (hv : ∀ x, 98 * s ≤ x → x < 98 * s + 98 → v' x = v x) : rW I' a' v' s p cl c := by
  obtain ⟨⟨f1, f2, f3, f4, f5, f6⟩, ⟨g1, g2, g3, -⟩, h3, h4, h5, h6, h7, h8⟩ := h
  have i0 : ∀ j, 3 ≤ j → j ≤ 6 → I' a' j = I a j := fun j j1 j2 => hI 0 j (by omega) (fun _ => ⟨j1, j2⟩) (by omega)
  have i1 : ∀ d j, d < 4 → d ≠ 0 → j < 32 → I' (a' + d) j = I (a + d) j := fun d j d1 d2 j1 => hI d j d1 (fun q => absurd q d2) j1
  have hn := ngp_le (p := p) f5 f6
  refine ⟨⟨by rw [i0 3 (by omega) (by omega)]; exact f1, by rw [i0 4 (by omega) (by omega)]; exact f2, by rw [i0 5 (by omega) (by omega)]; exact f3, f4, f5, f6⟩, ⟨by rw [hv _ (by omega) (by omega)]; exact g1, by rw [hv _ (by omega) (by omega)]; exact g2, by rw [hv _ (by omega) (by omega)]; exact g3, f4, f5, f6⟩, h3, fun q => ?_, fun q => ?_, fun k hk => ?_, fun i hi => ?_, fun q => ?_⟩
  · rw [i0 6 (by omega) (by omega), hv _ (by omega) (by omega)]; exact h4 q
  · rw [i1 3 0 (by omega) (by omega) (by omega)]; exact h5 q
  · rw [i1 1 k (by omega) (by omega) (by omega), i1 2 k (by omega) (by omega) (by omega), hv _ (by omega) (by omega), hv _ (by omega) (by omega)]; exact h6 k hk
  · rw [i1 3 (i + 1) (by omega) (by omega) (by omega), hv _ (by omega) (by omega)]; exact h7 i hi
  · rw [i1 3 (c + 1) (by omega) (by omega) (by omega)]; exact h8 q
/-- all but the wires -/
def rE (I : Nat → Nat → Int32) (a : Nat) (v : Nat → Int32) : Prop :=
  I a 2 = v 588 ∧ I a 3 = v 589 ∧ I a 4 = v 590 ∧ I a 5 = v 591 ∧ I a 6 = v 592 ∧ I a 7 = v 593 ∧ I a 8 = v 594 ∧ (∃ ru, ru ≤ 2 ∧ v 588 = nI ru) ∧ (∃ lm, 101 ≤ lm ∧ lm ≤ 200 ∧ v 589 = nI lm) ∧
  ∃ n, n ≤ 10 ∧ I (a + 2) 3 = nI n ∧ v 595 = nI n ∧ ∀ e, e < n → I (a + 3) e = v (596 + 3 * e) ∧ I (a + 4) e = v (597 + 3 * e) ∧ I (a + 5) e = v (598 + 3 * e)
def RC (I : Nat → Nat → Int32) (a : Nat) (v : Nat → Int32) : Prop := (∀ s, s < 6 → ∃ p cl c, rW I (a + 6 + 4 * s) v s p cl c) ∧ rE I a v
/-- which fields and places count, by the offset of the cell in its state -/
def vd (d j : Nat) : Prop := (d = 0 ∧ 2 ≤ j ∧ j ≤ 8) ∨ (d = 2 ∧ j = 3) ∨ (3 ≤ d ∧ d ≤ 5 ∧ j < 10) ∨ (6 ≤ d ∧ d < 30 ∧ d % 4 = 2 ∧ 3 ≤ j ∧ j ≤ 6) ∨ (6 ≤ d ∧ d < 30 ∧ d % 4 ≠ 2 ∧ j < 32)
theorem rE_cong {I I' : Nat → Nat → Int32} {a a' : Nat} {v v' : Nat → Int32} (h : rE I a v) (hI : ∀ d j, d < 6 → vd d j → I' (a' + d) j = I (a + d) j) (hv : ∀ x, 588 ≤ x → x < 626 → v' x = v x) : rE I' a' v' := by
  obtain ⟨h1, h2, h3, h4, h5, h6, h7, ⟨ru, h8, h9⟩, ⟨lm, h10, h11, h12⟩, n, h13, h14, h15, h16⟩ := h
  have i0 : ∀ j, 2 ≤ j → j ≤ 8 → I' a' j = I a j := fun j j1 j2 => hI 0 j (by omega) (Or.inl ⟨rfl, j1, j2⟩)
  have i2 : I' (a' + 2) 3 = I (a + 2) 3 := hI 2 3 (by omega) (Or.inr (Or.inl ⟨rfl, rfl⟩))
  have i3 : ∀ d j, 3 ≤ d → d ≤ 5 → j < 10 → I' (a' + d) j = I (a + d) j := fun d j d1 d2 j1 => hI d j (by omega) (Or.inr (Or.inr (Or.inl ⟨d1, d2, j1⟩)))
  refine ⟨by rw [i0 2 (by omega) (by omega), hv _ (by omega) (by omega)]; exact h1, by rw [i0 3 (by omega) (by omega), hv _ (by omega) (by omega)]; exact h2, by rw [i0 4 (by omega) (by omega), hv _ (by omega) (by omega)]; exact h3, by rw [i0 5 (by omega) (by omega), hv _ (by omega) (by omega)]; exact h4, by rw [i0 6 (by omega) (by omega), hv _ (by omega) (by omega)]; exact h5, by rw [i0 7 (by omega) (by omega), hv _ (by omega) (by omega)]; exact h6, by rw [i0 8 (by omega) (by omega), hv _ (by omega) (by omega)]; exact h7, ⟨ru, h8, by rw [hv _ (by omega) (by omega)]; exact h9⟩, ⟨lm, h10, h11, by rw [hv _ (by omega) (by omega)]; exact h12⟩, n, h13, by rw [i2]; exact h14, by rw [hv _ (by omega) (by omega)]; exact h15, fun e he => ?_⟩
  rw [i3 3 e (by omega) (by omega) (by omega), i3 4 e (by omega) (by omega) (by omega), i3 5 e (by omega) (by omega) (by omega), hv _ (by omega) (by omega), hv _ (by omega) (by omega), hv _ (by omega) (by omega)]
  exact h16 e he
theorem RC_cong {I I' : Nat → Nat → Int32} {a a' : Nat} {v v' : Nat → Int32} (h : RC I a v) (hI : ∀ d j, d < 30 → vd d j → I' (a' + d) j = I (a + d) j) (hv : ∀ x, x < 626 → v' x = v x) : RC I' a' v' := by
  refine ⟨fun s hs => ?_, rE_cong h.2 (fun d j hd => hI d j (by omega)) (fun x _ hx => hv x hx)⟩
  obtain ⟨p, cl, c, hw⟩ := h.1 s hs
  refine ⟨p, cl, c, rW_cong hw (fun d j hd hd0 hj => ?_) (fun x _ hx => hv x (by omega))⟩
  have := hI (6 + 4 * s + d) j (by omega) (by
    rcases Nat.eq_zero_or_pos d with q | q
    · exact Or.inr (Or.inr (Or.inr (Or.inl ⟨by omega, by omega, by omega, hd0 q⟩)))
    · exact Or.inr (Or.inr (Or.inr (Or.inr ⟨by omega, by omega, by omega, hj⟩))))
  rw [show a' + 6 + 4 * s + d = a' + (6 + 4 * s + d) by omega, show a + 6 + 4 * s + d = a + (6 + 4 * s + d) by omega]
  exact this
def zS (K : mK) (R : Nat → Nat → Option Nat) (a : Nat) : Prop := K.2.2.1 a = (1, 4) ∧ R a 0 = some (a + 1) ∧ K.2.2.1 (a + 1) = (4, 6) ∧ R a 1 = some (a + 2) ∧ zL K R (a + 2) ∧ a < 900 ∧ ∀ s, s < 6 → R (a + 1) s = some (a + 6 + 4 * s) ∧ zW K R (a + 6 + 4 * s)
/-- the state b on the state a -/
def sCp (I : Nat → Nat → Int32) (a b : Nat) : Nat → Nat → Int32 := fun x j =>
  if x = a ∧ 2 ≤ j ∧ j ≤ 8 then I b j else if x = a + 2 ∧ j = 3 then I (b + 2) j else if (x = a + 3 ∨ x = a + 4 ∨ x = a + 5) ∧ j < 10 then I (b + (x - a)) j
  else if a + 6 ≤ x ∧ x < a + 30 ∧ ((x - a) % 4 = 2 ∧ 3 ≤ j ∧ j ≤ 6 ∨ (x - a) % 4 ≠ 2 ∧ j < 32) then I (b + (x - a)) j else I x j
theorem sCp_in {I : Nat → Nat → Int32} {a b d j : Nat} (hd : d < 30) (h : vd d j) : sCp I a b (a + d) j = I (b + d) j := by
  unfold sCp
  rcases h with ⟨rfl, h⟩ | ⟨rfl, rfl⟩ | ⟨h1, h2, h3⟩ | ⟨h1, h2, h3, h4⟩ | ⟨h1, h2, h3, h4⟩
  · rw [if_pos ⟨rfl, h⟩]; rfl
  · rw [if_neg (by omega), if_pos ⟨rfl, rfl⟩]
  · rw [if_neg (by omega), if_neg (by omega), if_pos (by omega), show a + d - a = d by omega]
  · rw [if_neg (by omega), if_neg (by omega), if_neg (by omega), if_pos (by omega), show a + d - a = d by omega]
  · rw [if_neg (by omega), if_neg (by omega), if_neg (by omega), if_pos (by omega), show a + d - a = d by omega]
theorem sCp_o {I : Nat → Nat → Int32} {a b x j : Nat} (h : x < a ∨ a + 30 ≤ x) : sCp I a b x j = I x j := by
  unfold sCp
  rw [if_neg (by omega), if_neg (by omega), if_neg (by omega), if_neg (by omega)]
def sCw (I : Nat → Nat → Int32) (a b s : Nat) : Nat → Nat → Int32 := fun x j =>
  if a + 6 ≤ x ∧ x < a + 6 + 4 * s ∧ ((x - a) % 4 = 2 ∧ 3 ≤ j ∧ j ≤ 6 ∨ (x - a) % 4 ≠ 2 ∧ j < 32) then I (b + (x - a)) j else I x j
theorem sCw_o {I : Nat → Nat → Int32} {a b s x j : Nat} (h : x < a + 6 ∨ a + 6 + 4 * s ≤ x) : sCw I a b s x j = I x j := if_neg (by omega)
theorem sCw_s {I : Nat → Nat → Int32} {a b s : Nat} (hab : a + 30 ≤ b ∨ b + 30 ≤ a) (hs : s < 6) : wCp (sCw I a b s) (a + 6 + 4 * s) (b + 6 + 4 * s) = sCw I a b (s + 1) := by
  have e : ∀ d j, d < 4 → sCw I a b s (b + 6 + 4 * s + d) j = I (b + 6 + 4 * s + d) j := fun d j hd => sCw_o (by omega)
  have e0 : ∀ j, sCw I a b s (b + 6 + 4 * s) j = I (b + 6 + 4 * s) j := fun j => e 0 j (by omega)
  funext x j
  simp only [wCp]
  rw [e0, e 1 j (by omega), e 2 j (by omega), e 3 j (by omega)]
  simp only [sCw]
  by_cases c1 : x = a + 6 + 4 * s ∧ 3 ≤ j ∧ j ≤ 6
  · rw [if_pos c1, if_pos (by omega), show b + (x - a) = b + 6 + 4 * s by omega]
  · rw [if_neg c1]
    by_cases c2 : x = a + 6 + 4 * s + 1 ∧ j < 32
    · rw [if_pos c2, if_pos (by omega), show b + (x - a) = b + 6 + 4 * s + 1 by omega]
    · rw [if_neg c2]
      by_cases c3 : x = a + 6 + 4 * s + 2 ∧ j < 32
      · rw [if_pos c3, if_pos (by omega), show b + (x - a) = b + 6 + 4 * s + 2 by omega]
      · rw [if_neg c3]
        by_cases c4 : x = a + 6 + 4 * s + 3 ∧ j < 32
        · rw [if_pos c4, if_pos (by omega), show b + (x - a) = b + 6 + 4 * s + 3 by omega]
        · rw [if_neg c4]
          by_cases c5 : a + 6 ≤ x ∧ x < a + 6 + 4 * s ∧ ((x - a) % 4 = 2 ∧ 3 ≤ j ∧ j ≤ 6 ∨ (x - a) % 4 ≠ 2 ∧ j < 32)
          · rw [if_pos c5, if_pos (by omega)]
          · rw [if_neg c5, if_neg (by omega)]
set_option maxHeartbeats 4000000 in
theorem m_scopy {K : mK} {R : Nat → Nat → Option Nat} {I : Nat → Nat → Int32} {a b : Nat} {Q : Option Value → mH → Prop} (h : zS K R a) (h' : zS K R b) (hab : a + 30 ≤ b ∨ b + 30 ≤ a) (hb : ∀ s, s < 6 → ∃ p cl, p ≤ 1 ∧ cl ≤ 1 ∧ I (b + 6 + 4 * s) 3 = nI p ∧ I (b + 6 + 4 * s) 4 = nI cl) :
    EvM 25 [.ref a, .ref b] (K, R, I) Q ↔ Q none (K, R, sCp I a b) := by
  obtain ⟨h0, h1, h2, h3, h4, h5, h6⟩ := id h
  obtain ⟨h0', h1', h2', h3', h4', h5', h6'⟩ := id h'
  refine EvM_iff ?_
  unfold EvM
  rw [B_25_0]
  simp (disch := omega) only [e_iconst, e_bipush, e_sipush, e_iload_n, e_iload, e_aload_n, e_aload, e_istore_n, e_istore, e_astore_n, e_astore, e_iinc, e_iadd, e_isub, e_imul, e_iand, e_ishr, e_idiv, e_i2c, e_dup_i, e_dup_r, e_dup2, e_pop, e_goto, e_nop, e_if_eq, e_if_ne, e_if_lt, e_if_ge, e_if_gt, e_if_le, e_icmp_eq, e_icmp_ne, e_icmp_lt, e_icmp_ge, e_icmp_gt, e_icmp_le, e_tsw, e_ret0, e_ret1, e_retn, e_getI, e_getZ, e_getR, e_getV, e_getC, e_putI, e_putZ, e_putF, e_gst0, e_gst1, e_sld, e_iald, e_cald, e_bald, e_iast, e_cast, e_aald, e_aast, e_alen, e_slen, e_blen, e_newa, e_newq, e_new, e_oinit, e_ctor, e_virt, e_stat, e_min, e_copy, e_ldc, List.cons_append, List.nil_append, List.append_nil, List.length_cons, List.length_nil, List.replicate_succ, List.replicate_zero, List.getElem?_cons_zero, List.getElem?_cons_succ, List.set_cons_zero, List.set_cons_succ, List.take_succ_cons, List.take_zero, List.drop_succ_cons, List.drop_zero, List.reverse_cons, List.reverse_nil, Option.toList_some, Option.toList_none, Nat.reduceSub, Nat.reduceAdd, Nat.reduceLeDiff, true_and, and_true, and_self, Option.some.injEq, exists_eq_left', Nat.zero_add, Value.int.injEq, Value.ref.injEq, List.cons.injEq, exists_and_left, and_assoc, exists_eq_left, List.all_cons, List.all_nil, m1_i, m1_r, Bool.and_self, Bool.and_true, N_25, bk_25_0, if_pos, if_neg, not_true_eq_false, not_false_eq_true, or_true, true_or, or_false, false_or, false_and, and_false, Nat.reduceEqDiff, Nat.reduceLT, Nat.reduceMul, Nat.not_lt_zero, Nat.zero_le, Nat.le_refl, ne_eq, reduceIte, reduceCtorEq]
  have key := loop_dn (n := 6) (P := fun k => Ev 25 (mB 25 2) [.ref a, .ref b, .int (nI k)] [] (K, R, sCw I a b k) (fun v k => v = none ∧ k = (K, R, sCp I a b))) ?_ ?_
  · refine Ev_cg ?_ rfl key
    funext x j; rw [sCw_o (by omega)]
  · intro k hk hnext
    obtain ⟨e1, e2⟩ := h6 k hk
    obtain ⟨e1', e2'⟩ := h6' k hk
    obtain ⟨p, cl, p1, p2, p3, p4⟩ := hb k hk
    have hz := e2.1
    rw [B_25_2]
    simp (disch := omega) only [e_iconst, e_bipush, e_sipush, e_iload_n, e_iload, e_aload_n, e_aload, e_istore_n, e_istore, e_astore_n, e_astore, e_iinc, e_iadd, e_isub, e_imul, e_iand, e_ishr, e_idiv, e_i2c, e_dup_i, e_dup_r, e_dup2, e_pop, e_goto, e_nop, e_if_eq, e_if_ne, e_if_lt, e_if_ge, e_if_gt, e_if_le, e_icmp_eq, e_icmp_ne, e_icmp_lt, e_icmp_ge, e_icmp_gt, e_icmp_le, e_tsw, e_ret0, e_ret1, e_retn, e_getI, e_getZ, e_getR, e_getV, e_getC, e_putI, e_putZ, e_putF, e_gst0, e_gst1, e_sld, e_iald, e_cald, e_bald, e_iast, e_cast, e_aald, e_aast, e_alen, e_slen, e_blen, e_newa, e_newq, e_new, e_oinit, e_ctor, e_virt, e_stat, e_min, e_copy, e_ldc, List.cons_append, List.nil_append, List.append_nil, List.length_cons, List.length_nil, List.replicate_succ, List.replicate_zero, List.getElem?_cons_zero, List.getElem?_cons_succ, List.set_cons_zero, List.set_cons_succ, List.take_succ_cons, List.take_zero, List.drop_succ_cons, List.drop_zero, List.reverse_cons, List.reverse_nil, Option.toList_some, Option.toList_none, Nat.reduceSub, Nat.reduceAdd, Nat.reduceLeDiff, true_and, and_true, and_self, Option.some.injEq, exists_eq_left', Nat.zero_add, Value.int.injEq, Value.ref.injEq, List.cons.injEq, exists_and_left, and_assoc, exists_eq_left, List.all_cons, List.all_nil, m1_i, m1_r, Bool.and_self, Bool.and_true, bk_25_2, h0, h1, h2, h0', h1', h2', e1, e1', hz, o_le_r, if_neg, n_in, n_cl, o_add_l, true_or, or_true, C_36, m_wcopy (I := sCw I a b k) e2 e2' (by omega) (by rw [sCw_o (by omega)]; exact p3) p1 (by rw [sCw_o (by omega)]; exact p4) p2, sCw_s hab hk, if_pos, if_neg, not_true_eq_false, not_false_eq_true, or_true, true_or, or_false, false_or, false_and, and_false, Nat.reduceEqDiff, Nat.reduceLT, Nat.reduceMul, Nat.not_lt_zero, Nat.zero_le, Nat.le_refl, ne_eq, reduceIte, reduceCtorEq]
    exact hnext
  · have hz := h4.1
    rw [B_25_2]
    simp (disch := omega) only [e_iconst, e_bipush, e_sipush, e_iload_n, e_iload, e_aload_n, e_aload, e_istore_n, e_istore, e_astore_n, e_astore, e_iinc, e_iadd, e_isub, e_imul, e_iand, e_ishr, e_idiv, e_i2c, e_dup_i, e_dup_r, e_dup2, e_pop, e_goto, e_nop, e_if_eq, e_if_ne, e_if_lt, e_if_ge, e_if_gt, e_if_le, e_icmp_eq, e_icmp_ne, e_icmp_lt, e_icmp_ge, e_icmp_gt, e_icmp_le, e_tsw, e_ret0, e_ret1, e_retn, e_getI, e_getZ, e_getR, e_getV, e_getC, e_putI, e_putZ, e_putF, e_gst0, e_gst1, e_sld, e_iald, e_cald, e_bald, e_iast, e_cast, e_aald, e_aast, e_alen, e_slen, e_blen, e_newa, e_newq, e_new, e_oinit, e_ctor, e_virt, e_stat, e_min, e_copy, e_ldc, List.cons_append, List.nil_append, List.append_nil, List.length_cons, List.length_nil, List.replicate_succ, List.replicate_zero, List.getElem?_cons_zero, List.getElem?_cons_succ, List.set_cons_zero, List.set_cons_succ, List.take_succ_cons, List.take_zero, List.drop_succ_cons, List.drop_zero, List.reverse_cons, List.reverse_nil, Option.toList_some, Option.toList_none, Nat.reduceSub, Nat.reduceAdd, Nat.reduceLeDiff, true_and, and_true, and_self, Option.some.injEq, exists_eq_left', Nat.zero_add, Value.int.injEq, Value.ref.injEq, List.cons.injEq, exists_and_left, and_assoc, exists_eq_left, List.all_cons, List.all_nil, m1_i, m1_r, Bool.and_self, Bool.and_true, bk_25_2, o_le_r, if_pos, Nat.le_refl, if_pos, if_neg, not_true_eq_false, not_false_eq_true, or_true, true_or, or_false, false_or, false_and, and_false, Nat.reduceEqDiff, Nat.reduceLT, Nat.reduceMul, Nat.not_lt_zero, Nat.zero_le, Nat.le_refl, ne_eq, reduceIte, reduceCtorEq]
    rw [B_25_29]
    simp (disch := omega) only [e_iconst, e_bipush, e_sipush, e_iload_n, e_iload, e_aload_n, e_aload, e_istore_n, e_istore, e_astore_n, e_astore, e_iinc, e_iadd, e_isub, e_imul, e_iand, e_ishr, e_idiv, e_i2c, e_dup_i, e_dup_r, e_dup2, e_pop, e_goto, e_nop, e_if_eq, e_if_ne, e_if_lt, e_if_ge, e_if_gt, e_if_le, e_icmp_eq, e_icmp_ne, e_icmp_lt, e_icmp_ge, e_icmp_gt, e_icmp_le, e_tsw, e_ret0, e_ret1, e_retn, e_getI, e_getZ, e_getR, e_getV, e_getC, e_putI, e_putZ, e_putF, e_gst0, e_gst1, e_sld, e_iald, e_cald, e_bald, e_iast, e_cast, e_aald, e_aast, e_alen, e_slen, e_blen, e_newa, e_newq, e_new, e_oinit, e_ctor, e_virt, e_stat, e_min, e_copy, e_ldc, List.cons_append, List.nil_append, List.append_nil, List.length_cons, List.length_nil, List.replicate_succ, List.replicate_zero, List.getElem?_cons_zero, List.getElem?_cons_succ, List.set_cons_zero, List.set_cons_succ, List.take_succ_cons, List.take_zero, List.drop_succ_cons, List.drop_zero, List.reverse_cons, List.reverse_nil, Option.toList_some, Option.toList_none, Nat.reduceSub, Nat.reduceAdd, Nat.reduceLeDiff, true_and, and_true, and_self, Option.some.injEq, exists_eq_left', Nat.zero_add, Value.int.injEq, Value.ref.injEq, List.cons.injEq, exists_and_left, and_assoc, exists_eq_left, List.all_cons, List.all_nil, m1_i, m1_r, Bool.and_self, Bool.and_true, bk_25_29, h0, h3, h0', h3', hz, C_13, m_logCopy h4 h4' (by omega), s_ne, lCp_o, sCw_o, if_pos, if_neg, not_true_eq_false, not_false_eq_true, or_true, true_or, or_false, false_or, false_and, and_false, Nat.reduceEqDiff, Nat.reduceLT, Nat.reduceMul, Nat.not_lt_zero, Nat.zero_le, Nat.le_refl, ne_eq, reduceIte, reduceCtorEq]
    congr 2
    funext x j
    by_cases c1 : x = a
    · subst c1
      by_cases c2 : 2 ≤ j ∧ j ≤ 8
      · rw [sCp, if_pos ⟨rfl, c2⟩]
        rcases (show j = 2 ∨ j = 3 ∨ j = 4 ∨ j = 5 ∨ j = 6 ∨ j = 7 ∨ j = 8 by omega) with rfl | rfl | rfl | rfl | rfl | rfl | rfl <;> simp (disch := omega) only [s_ne, s_eq]
      · simp (disch := omega) only [s_ne, lCp_o, sCw_o]
        rw [sCp, if_neg (by omega), if_neg (by omega), if_neg (by omega), if_neg (by omega)]
    · simp (disch := omega) only [s_ne]
      have e : ∀ i, i < 4 → ∀ j, sCw I a b 6 (b + 2 + i) j = I (b + 2 + i) j := fun i hi j => sCw_o (by omega)
      have e0 : ∀ j, sCw I a b 6 (b + 2) j = I (b + 2) j := fun j => e 0 (by omega) j
      simp only [lCp, e0]
      rw [e 1 (by omega), e 2 (by omega), e 3 (by omega), sCp, if_neg (show ¬ (x = a ∧ 2 ≤ j ∧ j ≤ 8) from fun q => c1 q.1)]
      by_cases c2 : x = a + 2 ∧ j = 3
      · rw [if_pos c2, if_pos c2, c2.2]
      · rw [if_neg c2, if_neg c2]
        by_cases c3 : (x = a + 3 ∨ x = a + 4 ∨ x = a + 5) ∧ j < 10
        · rw [if_pos c3]
          obtain ⟨c3, c4⟩ := c3
          rcases c3 with rfl | rfl | rfl
          · rw [if_pos ⟨by omega, c4⟩, show b + (a + 3 - a) = b + 2 + 1 by omega]
          · rw [if_neg (by omega), if_pos ⟨by omega, c4⟩, show b + (a + 4 - a) = b + 2 + 2 by omega]
          · rw [if_neg (by omega), if_neg (by omega), if_pos ⟨by omega, c4⟩, show b + (a + 5 - a) = b + 2 + 3 by omega]
        · rw [if_neg c3, if_neg (by omega), if_neg (by omega), if_neg (by omega), sCw]
end
section
/-! THE CLASS's STATES, further; the history -/
theorem m_spools {K : mK} {R : Nat → Nat → Option Nat} {I : Nat → Nat → Int32} {a : Nat} {Q : Option Value → mH → Prop} (h : zS K R a) : EvM 26 [.ref a] (K, R, I) Q ↔ Q (some (.int (nI (cnt (fun s => !(I (a + 6 + 4 * s) 3 == 0)) 6)))) (K, R, I) := by
  obtain ⟨h0, h1, h2, h3, h4, h5, h6⟩ := id h
  refine EvM_iff ?_
  unfold EvM
  rw [B_26_0]
  simp (disch := omega) only [e_iconst, e_bipush, e_sipush, e_iload_n, e_iload, e_aload_n, e_aload, e_istore_n, e_istore, e_astore_n, e_astore, e_iinc, e_iadd, e_isub, e_imul, e_iand, e_ishr, e_idiv, e_i2c, e_dup_i, e_dup_r, e_dup2, e_pop, e_goto, e_nop, e_if_eq, e_if_ne, e_if_lt, e_if_ge, e_if_gt, e_if_le, e_icmp_eq, e_icmp_ne, e_icmp_lt, e_icmp_ge, e_icmp_gt, e_icmp_le, e_tsw, e_ret0, e_ret1, e_retn, e_getI, e_getZ, e_getR, e_getV, e_getC, e_putI, e_putZ, e_putF, e_gst0, e_gst1, e_sld, e_iald, e_cald, e_bald, e_iast, e_cast, e_aald, e_aast, e_alen, e_slen, e_blen, e_newa, e_newq, e_new, e_oinit, e_ctor, e_virt, e_stat, e_min, e_copy, e_ldc, List.cons_append, List.nil_append, List.append_nil, List.length_cons, List.length_nil, List.replicate_succ, List.replicate_zero, List.getElem?_cons_zero, List.getElem?_cons_succ, List.set_cons_zero, List.set_cons_succ, List.take_succ_cons, List.take_zero, List.drop_succ_cons, List.drop_zero, List.reverse_cons, List.reverse_nil, Option.toList_some, Option.toList_none, Nat.reduceSub, Nat.reduceAdd, Nat.reduceLeDiff, true_and, and_true, and_self, Option.some.injEq, exists_eq_left', Nat.zero_add, Value.int.injEq, Value.ref.injEq, List.cons.injEq, exists_and_left, and_assoc, exists_eq_left, List.all_cons, List.all_nil, m1_i, m1_r, Bool.and_self, Bool.and_true, N_26, bk_26_0, if_pos, if_neg, not_true_eq_false, not_false_eq_true, or_true, true_or, or_false, false_or, false_and, and_false, Nat.reduceEqDiff, Nat.reduceLT, Nat.reduceMul, Nat.not_lt_zero, Nat.zero_le, Nat.le_refl, ne_eq, reduceIte, reduceCtorEq]
  have key := loop_dn (n := 6) (P := fun k => Ev 26 (mB 26 4) [.ref a, .int (nI (cnt (fun s => !(I (a + 6 + 4 * s) 3 == 0)) k)), .int (nI k)] [] (K, R, I) (fun v k => v = some (.int (nI (cnt (fun s => !(I (a + 6 + 4 * s) 3 == 0)) 6))) ∧ k = (K, R, I))) ?_ ?_
  · exact key
  · intro k hk hnext
    obtain ⟨e1, e2⟩ := h6 k hk
    have hz := e2.1
    rw [B_26_4]
    simp (disch := omega) only [e_iconst, e_bipush, e_sipush, e_iload_n, e_iload, e_aload_n, e_aload, e_istore_n, e_istore, e_astore_n, e_astore, e_iinc, e_iadd, e_isub, e_imul, e_iand, e_ishr, e_idiv, e_i2c, e_dup_i, e_dup_r, e_dup2, e_pop, e_goto, e_nop, e_if_eq, e_if_ne, e_if_lt, e_if_ge, e_if_gt, e_if_le, e_icmp_eq, e_icmp_ne, e_icmp_lt, e_icmp_ge, e_icmp_gt, e_icmp_le, e_tsw, e_ret0, e_ret1, e_retn, e_getI, e_getZ, e_getR, e_getV, e_getC, e_putI, e_putZ, e_putF, e_gst0, e_gst1, e_sld, e_iald, e_cald, e_bald, e_iast, e_cast, e_aald, e_aast, e_alen, e_slen, e_blen, e_newa, e_newq, e_new, e_oinit, e_ctor, e_virt, e_stat, e_min, e_copy, e_ldc, List.cons_append, List.nil_append, List.append_nil, List.length_cons, List.length_nil, List.replicate_succ, List.replicate_zero, List.getElem?_cons_zero, List.getElem?_cons_succ, List.set_cons_zero, List.set_cons_succ, List.take_succ_cons, List.take_zero, List.drop_succ_cons, List.drop_zero, List.reverse_cons, List.reverse_nil, Option.toList_some, Option.toList_none, Nat.reduceSub, Nat.reduceAdd, Nat.reduceLeDiff, true_and, and_true, and_self, Option.some.injEq, exists_eq_left', Nat.zero_add, Value.int.injEq, Value.ref.injEq, List.cons.injEq, exists_and_left, and_assoc, exists_eq_left, List.all_cons, List.all_nil, m1_i, m1_r, Bool.and_self, Bool.and_true, bk_26_4, h0, h1, h2, e1, hz, o_le_r, if_neg, n_in, n_cl, true_or, or_true, if_pos, if_neg, not_true_eq_false, not_false_eq_true, or_true, true_or, or_false, false_or, false_and, and_false, Nat.reduceEqDiff, Nat.reduceLT, Nat.reduceMul, Nat.not_lt_zero, Nat.zero_le, Nat.le_refl, ne_eq, reduceIte, reduceCtorEq]
    by_cases c : I (a + 6 + 4 * k) 3 = 0
    · rw [if_pos c, B_26_25]
      simp (disch := omega) only [e_iconst, e_bipush, e_sipush, e_iload_n, e_iload, e_aload_n, e_aload, e_istore_n, e_istore, e_astore_n, e_astore, e_iinc, e_iadd, e_isub, e_imul, e_iand, e_ishr, e_idiv, e_i2c, e_dup_i, e_dup_r, e_dup2, e_pop, e_goto, e_nop, e_if_eq, e_if_ne, e_if_lt, e_if_ge, e_if_gt, e_if_le, e_icmp_eq, e_icmp_ne, e_icmp_lt, e_icmp_ge, e_icmp_gt, e_icmp_le, e_tsw, e_ret0, e_ret1, e_retn, e_getI, e_getZ, e_getR, e_getV, e_getC, e_putI, e_putZ, e_putF, e_gst0, e_gst1, e_sld, e_iald, e_cald, e_bald, e_iast, e_cast, e_aald, e_aast, e_alen, e_slen, e_blen, e_newa, e_newq, e_new, e_oinit, e_ctor, e_virt, e_stat, e_min, e_copy, e_ldc, List.cons_append, List.nil_append, List.append_nil, List.length_cons, List.length_nil, List.replicate_succ, List.replicate_zero, List.getElem?_cons_zero, List.getElem?_cons_succ, List.set_cons_zero, List.set_cons_succ, List.take_succ_cons, List.take_zero, List.drop_succ_cons, List.drop_zero, List.reverse_cons, List.reverse_nil, Option.toList_some, Option.toList_none, Nat.reduceSub, Nat.reduceAdd, Nat.reduceLeDiff, true_and, and_true, and_self, Option.some.injEq, exists_eq_left', Nat.zero_add, Value.int.injEq, Value.ref.injEq, List.cons.injEq, exists_and_left, and_assoc, exists_eq_left, List.all_cons, List.all_nil, m1_i, m1_r, Bool.and_self, Bool.and_true, bk_26_25, o_add_l, if_pos, if_neg, not_true_eq_false, not_false_eq_true, or_true, true_or, or_false, false_or, false_and, and_false, Nat.reduceEqDiff, Nat.reduceLT, Nat.reduceMul, Nat.not_lt_zero, Nat.zero_le, Nat.le_refl, ne_eq, reduceIte, reduceCtorEq]
      refine Ev_cg rfl ?_ hnext
      simp [cnt, c]
    · rw [if_neg c, B_26_25]
      simp (disch := omega) only [e_iconst, e_bipush, e_sipush, e_iload_n, e_iload, e_aload_n, e_aload, e_istore_n, e_istore, e_astore_n, e_astore, e_iinc, e_iadd, e_isub, e_imul, e_iand, e_ishr, e_idiv, e_i2c, e_dup_i, e_dup_r, e_dup2, e_pop, e_goto, e_nop, e_if_eq, e_if_ne, e_if_lt, e_if_ge, e_if_gt, e_if_le, e_icmp_eq, e_icmp_ne, e_icmp_lt, e_icmp_ge, e_icmp_gt, e_icmp_le, e_tsw, e_ret0, e_ret1, e_retn, e_getI, e_getZ, e_getR, e_getV, e_getC, e_putI, e_putZ, e_putF, e_gst0, e_gst1, e_sld, e_iald, e_cald, e_bald, e_iast, e_cast, e_aald, e_aast, e_alen, e_slen, e_blen, e_newa, e_newq, e_new, e_oinit, e_ctor, e_virt, e_stat, e_min, e_copy, e_ldc, List.cons_append, List.nil_append, List.append_nil, List.length_cons, List.length_nil, List.replicate_succ, List.replicate_zero, List.getElem?_cons_zero, List.getElem?_cons_succ, List.set_cons_zero, List.set_cons_succ, List.take_succ_cons, List.take_zero, List.drop_succ_cons, List.drop_zero, List.reverse_cons, List.reverse_nil, Option.toList_some, Option.toList_none, Nat.reduceSub, Nat.reduceAdd, Nat.reduceLeDiff, true_and, and_true, and_self, Option.some.injEq, exists_eq_left', Nat.zero_add, Value.int.injEq, Value.ref.injEq, List.cons.injEq, exists_and_left, and_assoc, exists_eq_left, List.all_cons, List.all_nil, m1_i, m1_r, Bool.and_self, Bool.and_true, bk_26_25, o_add_l, if_pos, if_neg, not_true_eq_false, not_false_eq_true, or_true, true_or, or_false, false_or, false_and, and_false, Nat.reduceEqDiff, Nat.reduceLT, Nat.reduceMul, Nat.not_lt_zero, Nat.zero_le, Nat.le_refl, ne_eq, reduceIte, reduceCtorEq]
      refine Ev_cg rfl ?_ hnext
      simp [cnt, c]
  · rw [B_26_4]
    simp (disch := omega) only [e_iconst, e_bipush, e_sipush, e_iload_n, e_iload, e_aload_n, e_aload, e_istore_n, e_istore, e_astore_n, e_astore, e_iinc, e_iadd, e_isub, e_imul, e_iand, e_ishr, e_idiv, e_i2c, e_dup_i, e_dup_r, e_dup2, e_pop, e_goto, e_nop, e_if_eq, e_if_ne, e_if_lt, e_if_ge, e_if_gt, e_if_le, e_icmp_eq, e_icmp_ne, e_icmp_lt, e_icmp_ge, e_icmp_gt, e_icmp_le, e_tsw, e_ret0, e_ret1, e_retn, e_getI, e_getZ, e_getR, e_getV, e_getC, e_putI, e_putZ, e_putF, e_gst0, e_gst1, e_sld, e_iald, e_cald, e_bald, e_iast, e_cast, e_aald, e_aast, e_alen, e_slen, e_blen, e_newa, e_newq, e_new, e_oinit, e_ctor, e_virt, e_stat, e_min, e_copy, e_ldc, List.cons_append, List.nil_append, List.append_nil, List.length_cons, List.length_nil, List.replicate_succ, List.replicate_zero, List.getElem?_cons_zero, List.getElem?_cons_succ, List.set_cons_zero, List.set_cons_succ, List.take_succ_cons, List.take_zero, List.drop_succ_cons, List.drop_zero, List.reverse_cons, List.reverse_nil, Option.toList_some, Option.toList_none, Nat.reduceSub, Nat.reduceAdd, Nat.reduceLeDiff, true_and, and_true, and_self, Option.some.injEq, exists_eq_left', Nat.zero_add, Value.int.injEq, Value.ref.injEq, List.cons.injEq, exists_and_left, and_assoc, exists_eq_left, List.all_cons, List.all_nil, m1_i, m1_r, Bool.and_self, Bool.and_true, bk_26_4, B_26_31, bk_26_31, o_le_r, if_pos, Nat.le_refl, if_pos, if_neg, not_true_eq_false, not_false_eq_true, or_true, true_or, or_false, false_or, false_and, and_false, Nat.reduceEqDiff, Nat.reduceLT, Nat.reduceMul, Nat.not_lt_zero, Nat.zero_le, Nat.le_refl, ne_eq, reduceIte, reduceCtorEq]
theorem m_letters {K : mK} {R : Nat → Nat → Option Nat} {I : Nat → Nat → Int32} {a : Nat} {Q : Option Value → mH → Prop} (h : zS K R a) : EvM 27 [.ref a] (K, R, I) Q ↔ Q (some (.int (sm (fun s => I (a + 6 + 4 * s) 5) 6))) (K, R, I) := by
  obtain ⟨h0, h1, h2, h3, h4, h5, h6⟩ := id h
  refine EvM_iff ?_
  unfold EvM
  rw [B_27_0]
  simp (disch := omega) only [e_iconst, e_bipush, e_sipush, e_iload_n, e_iload, e_aload_n, e_aload, e_istore_n, e_istore, e_astore_n, e_astore, e_iinc, e_iadd, e_isub, e_imul, e_iand, e_ishr, e_idiv, e_i2c, e_dup_i, e_dup_r, e_dup2, e_pop, e_goto, e_nop, e_if_eq, e_if_ne, e_if_lt, e_if_ge, e_if_gt, e_if_le, e_icmp_eq, e_icmp_ne, e_icmp_lt, e_icmp_ge, e_icmp_gt, e_icmp_le, e_tsw, e_ret0, e_ret1, e_retn, e_getI, e_getZ, e_getR, e_getV, e_getC, e_putI, e_putZ, e_putF, e_gst0, e_gst1, e_sld, e_iald, e_cald, e_bald, e_iast, e_cast, e_aald, e_aast, e_alen, e_slen, e_blen, e_newa, e_newq, e_new, e_oinit, e_ctor, e_virt, e_stat, e_min, e_copy, e_ldc, List.cons_append, List.nil_append, List.append_nil, List.length_cons, List.length_nil, List.replicate_succ, List.replicate_zero, List.getElem?_cons_zero, List.getElem?_cons_succ, List.set_cons_zero, List.set_cons_succ, List.take_succ_cons, List.take_zero, List.drop_succ_cons, List.drop_zero, List.reverse_cons, List.reverse_nil, Option.toList_some, Option.toList_none, Nat.reduceSub, Nat.reduceAdd, Nat.reduceLeDiff, true_and, and_true, and_self, Option.some.injEq, exists_eq_left', Nat.zero_add, Value.int.injEq, Value.ref.injEq, List.cons.injEq, exists_and_left, and_assoc, exists_eq_left, List.all_cons, List.all_nil, m1_i, m1_r, Bool.and_self, Bool.and_true, N_27, bk_27_0, if_pos, if_neg, not_true_eq_false, not_false_eq_true, or_true, true_or, or_false, false_or, false_and, and_false, Nat.reduceEqDiff, Nat.reduceLT, Nat.reduceMul, Nat.not_lt_zero, Nat.zero_le, Nat.le_refl, ne_eq, reduceIte, reduceCtorEq]
  have key := loop_dn (n := 6) (P := fun k => Ev 27 (mB 27 4) [.ref a, .int (sm (fun s => I (a + 6 + 4 * s) 5) k), .int (nI k)] [] (K, R, I) (fun v k => v = some (.int (sm (fun s => I (a + 6 + 4 * s) 5) 6)) ∧ k = (K, R, I))) ?_ ?_
  · exact key
  · intro k hk hnext
    obtain ⟨e1, e2⟩ := h6 k hk
    have hz := e2.1
    rw [B_27_4]
    simp (disch := omega) only [e_iconst, e_bipush, e_sipush, e_iload_n, e_iload, e_aload_n, e_aload, e_istore_n, e_istore, e_astore_n, e_astore, e_iinc, e_iadd, e_isub, e_imul, e_iand, e_ishr, e_idiv, e_i2c, e_dup_i, e_dup_r, e_dup2, e_pop, e_goto, e_nop, e_if_eq, e_if_ne, e_if_lt, e_if_ge, e_if_gt, e_if_le, e_icmp_eq, e_icmp_ne, e_icmp_lt, e_icmp_ge, e_icmp_gt, e_icmp_le, e_tsw, e_ret0, e_ret1, e_retn, e_getI, e_getZ, e_getR, e_getV, e_getC, e_putI, e_putZ, e_putF, e_gst0, e_gst1, e_sld, e_iald, e_cald, e_bald, e_iast, e_cast, e_aald, e_aast, e_alen, e_slen, e_blen, e_newa, e_newq, e_new, e_oinit, e_ctor, e_virt, e_stat, e_min, e_copy, e_ldc, List.cons_append, List.nil_append, List.append_nil, List.length_cons, List.length_nil, List.replicate_succ, List.replicate_zero, List.getElem?_cons_zero, List.getElem?_cons_succ, List.set_cons_zero, List.set_cons_succ, List.take_succ_cons, List.take_zero, List.drop_succ_cons, List.drop_zero, List.reverse_cons, List.reverse_nil, Option.toList_some, Option.toList_none, Nat.reduceSub, Nat.reduceAdd, Nat.reduceLeDiff, true_and, and_true, and_self, Option.some.injEq, exists_eq_left', Nat.zero_add, Value.int.injEq, Value.ref.injEq, List.cons.injEq, exists_and_left, and_assoc, exists_eq_left, List.all_cons, List.all_nil, m1_i, m1_r, Bool.and_self, Bool.and_true, bk_27_4, h0, h1, h2, e1, hz, o_le_r, if_neg, n_in, n_cl, o_add_l, true_or, or_true, if_pos, if_neg, not_true_eq_false, not_false_eq_true, or_true, true_or, or_false, false_or, false_and, and_false, Nat.reduceEqDiff, Nat.reduceLT, Nat.reduceMul, Nat.not_lt_zero, Nat.zero_le, Nat.le_refl, ne_eq, reduceIte, reduceCtorEq]
    exact hnext
  · rw [B_27_4]
    simp (disch := omega) only [e_iconst, e_bipush, e_sipush, e_iload_n, e_iload, e_aload_n, e_aload, e_istore_n, e_istore, e_astore_n, e_astore, e_iinc, e_iadd, e_isub, e_imul, e_iand, e_ishr, e_idiv, e_i2c, e_dup_i, e_dup_r, e_dup2, e_pop, e_goto, e_nop, e_if_eq, e_if_ne, e_if_lt, e_if_ge, e_if_gt, e_if_le, e_icmp_eq, e_icmp_ne, e_icmp_lt, e_icmp_ge, e_icmp_gt, e_icmp_le, e_tsw, e_ret0, e_ret1, e_retn, e_getI, e_getZ, e_getR, e_getV, e_getC, e_putI, e_putZ, e_putF, e_gst0, e_gst1, e_sld, e_iald, e_cald, e_bald, e_iast, e_cast, e_aald, e_aast, e_alen, e_slen, e_blen, e_newa, e_newq, e_new, e_oinit, e_ctor, e_virt, e_stat, e_min, e_copy, e_ldc, List.cons_append, List.nil_append, List.append_nil, List.length_cons, List.length_nil, List.replicate_succ, List.replicate_zero, List.getElem?_cons_zero, List.getElem?_cons_succ, List.set_cons_zero, List.set_cons_succ, List.take_succ_cons, List.take_zero, List.drop_succ_cons, List.drop_zero, List.reverse_cons, List.reverse_nil, Option.toList_some, Option.toList_none, Nat.reduceSub, Nat.reduceAdd, Nat.reduceLeDiff, true_and, and_true, and_self, Option.some.injEq, exists_eq_left', Nat.zero_add, Value.int.injEq, Value.ref.injEq, List.cons.injEq, exists_and_left, and_assoc, exists_eq_left, List.all_cons, List.all_nil, m1_i, m1_r, Bool.and_self, Bool.and_true, bk_27_4, B_27_28, bk_27_28, o_le_r, if_pos, Nat.le_refl, if_pos, if_neg, not_true_eq_false, not_false_eq_true, or_true, true_or, or_false, false_or, false_and, and_false, Nat.reduceEqDiff, Nat.reduceLT, Nat.reduceMul, Nat.not_lt_zero, Nat.zero_le, Nat.le_refl, ne_eq, reduceIte, reduceCtorEq]
theorem m_lowest {K : mK} {R : Nat → Nat → Option Nat} {I : Nat → Nat → Int32} {a : Nat} {Q : Option Value → mH → Prop} (h : zS K R a) : EvM 28 [.ref a] (K, R, I) Q ↔ Q (some (.int (nI (fB (fun s => I (a + 6 + 4 * s) 3 == 0) 6 6)))) (K, R, I) := by
  obtain ⟨h0, h1, h2, h3, h4, h5, h6⟩ := id h
  refine EvM_iff ?_
  unfold EvM
  rw [B_28_0]
  simp (disch := omega) only [e_iconst, e_bipush, e_sipush, e_iload_n, e_iload, e_aload_n, e_aload, e_istore_n, e_istore, e_astore_n, e_astore, e_iinc, e_iadd, e_isub, e_imul, e_iand, e_ishr, e_idiv, e_i2c, e_dup_i, e_dup_r, e_dup2, e_pop, e_goto, e_nop, e_if_eq, e_if_ne, e_if_lt, e_if_ge, e_if_gt, e_if_le, e_icmp_eq, e_icmp_ne, e_icmp_lt, e_icmp_ge, e_icmp_gt, e_icmp_le, e_tsw, e_ret0, e_ret1, e_retn, e_getI, e_getZ, e_getR, e_getV, e_getC, e_putI, e_putZ, e_putF, e_gst0, e_gst1, e_sld, e_iald, e_cald, e_bald, e_iast, e_cast, e_aald, e_aast, e_alen, e_slen, e_blen, e_newa, e_newq, e_new, e_oinit, e_ctor, e_virt, e_stat, e_min, e_copy, e_ldc, List.cons_append, List.nil_append, List.append_nil, List.length_cons, List.length_nil, List.replicate_succ, List.replicate_zero, List.getElem?_cons_zero, List.getElem?_cons_succ, List.set_cons_zero, List.set_cons_succ, List.take_succ_cons, List.take_zero, List.drop_succ_cons, List.drop_zero, List.reverse_cons, List.reverse_nil, Option.toList_some, Option.toList_none, Nat.reduceSub, Nat.reduceAdd, Nat.reduceLeDiff, true_and, and_true, and_self, Option.some.injEq, exists_eq_left', Nat.zero_add, Value.int.injEq, Value.ref.injEq, List.cons.injEq, exists_and_left, and_assoc, exists_eq_left, List.all_cons, List.all_nil, m1_i, m1_r, Bool.and_self, Bool.and_true, N_28, bk_28_0, if_pos, if_neg, not_true_eq_false, not_false_eq_true, or_true, true_or, or_false, false_or, false_and, and_false, Nat.reduceEqDiff, Nat.reduceLT, Nat.reduceMul, Nat.not_lt_zero, Nat.zero_le, Nat.le_refl, ne_eq, reduceIte, reduceCtorEq]
  have key := loop_dn (n := 6) (P := fun k => fB (fun s => I (a + 6 + 4 * s) 3 == 0) 6 k = 6 → Ev 28 (mB 28 2) [.ref a, .int (nI k)] [] (K, R, I) (fun v k => v = some (.int (nI (fB (fun s => I (a + 6 + 4 * s) 3 == 0) 6 6))) ∧ k = (K, R, I))) ?_ ?_
  · exact key rfl
  · intro k hk hnext hfb
    obtain ⟨e1, e2⟩ := h6 k hk
    have hz := e2.1
    rw [B_28_2]
    simp (disch := omega) only [e_iconst, e_bipush, e_sipush, e_iload_n, e_iload, e_aload_n, e_aload, e_istore_n, e_istore, e_astore_n, e_astore, e_iinc, e_iadd, e_isub, e_imul, e_iand, e_ishr, e_idiv, e_i2c, e_dup_i, e_dup_r, e_dup2, e_pop, e_goto, e_nop, e_if_eq, e_if_ne, e_if_lt, e_if_ge, e_if_gt, e_if_le, e_icmp_eq, e_icmp_ne, e_icmp_lt, e_icmp_ge, e_icmp_gt, e_icmp_le, e_tsw, e_ret0, e_ret1, e_retn, e_getI, e_getZ, e_getR, e_getV, e_getC, e_putI, e_putZ, e_putF, e_gst0, e_gst1, e_sld, e_iald, e_cald, e_bald, e_iast, e_cast, e_aald, e_aast, e_alen, e_slen, e_blen, e_newa, e_newq, e_new, e_oinit, e_ctor, e_virt, e_stat, e_min, e_copy, e_ldc, List.cons_append, List.nil_append, List.append_nil, List.length_cons, List.length_nil, List.replicate_succ, List.replicate_zero, List.getElem?_cons_zero, List.getElem?_cons_succ, List.set_cons_zero, List.set_cons_succ, List.take_succ_cons, List.take_zero, List.drop_succ_cons, List.drop_zero, List.reverse_cons, List.reverse_nil, Option.toList_some, Option.toList_none, Nat.reduceSub, Nat.reduceAdd, Nat.reduceLeDiff, true_and, and_true, and_self, Option.some.injEq, exists_eq_left', Nat.zero_add, Value.int.injEq, Value.ref.injEq, List.cons.injEq, exists_and_left, and_assoc, exists_eq_left, List.all_cons, List.all_nil, m1_i, m1_r, Bool.and_self, Bool.and_true, bk_28_2, h0, h1, h2, e1, hz, o_le_r, if_neg, n_in, n_cl, o_add_l, true_or, or_true, if_pos, if_neg, not_true_eq_false, not_false_eq_true, or_true, true_or, or_false, false_or, false_and, and_false, Nat.reduceEqDiff, Nat.reduceLT, Nat.reduceMul, Nat.not_lt_zero, Nat.zero_le, Nat.le_refl, ne_eq, reduceIte, reduceCtorEq]
    by_cases c : I (a + 6 + 4 * k) 3 = 0
    · rw [if_neg (by simp [c])]
      have hs : fB (fun s => I (a + 6 + 4 * s) 3 == 0) 6 (k + 1) = k := by simp [fB, hfb, c]
      have hst : ∀ j, k + 1 ≤ j → j ≤ 6 → fB (fun s => I (a + 6 + 4 * s) 3 == 0) 6 j = k := by
        intro j
        induction j with
        | zero => intro h; omega
        | succ j ih =>
          intro hj1 hj2
          rcases Nat.lt_or_ge j (k + 1) with z | z
          · rw [show j = k by omega]; exact hs
          · rw [fB, ih z (by omega), if_neg (by omega)]
      rw [hst 6 (by omega) (Nat.le_refl _)]
    · rw [if_pos c, B_28_22]
      simp (disch := omega) only [e_iconst, e_bipush, e_sipush, e_iload_n, e_iload, e_aload_n, e_aload, e_istore_n, e_istore, e_astore_n, e_astore, e_iinc, e_iadd, e_isub, e_imul, e_iand, e_ishr, e_idiv, e_i2c, e_dup_i, e_dup_r, e_dup2, e_pop, e_goto, e_nop, e_if_eq, e_if_ne, e_if_lt, e_if_ge, e_if_gt, e_if_le, e_icmp_eq, e_icmp_ne, e_icmp_lt, e_icmp_ge, e_icmp_gt, e_icmp_le, e_tsw, e_ret0, e_ret1, e_retn, e_getI, e_getZ, e_getR, e_getV, e_getC, e_putI, e_putZ, e_putF, e_gst0, e_gst1, e_sld, e_iald, e_cald, e_bald, e_iast, e_cast, e_aald, e_aast, e_alen, e_slen, e_blen, e_newa, e_newq, e_new, e_oinit, e_ctor, e_virt, e_stat, e_min, e_copy, e_ldc, List.cons_append, List.nil_append, List.append_nil, List.length_cons, List.length_nil, List.replicate_succ, List.replicate_zero, List.getElem?_cons_zero, List.getElem?_cons_succ, List.set_cons_zero, List.set_cons_succ, List.take_succ_cons, List.take_zero, List.drop_succ_cons, List.drop_zero, List.reverse_cons, List.reverse_nil, Option.toList_some, Option.toList_none, Nat.reduceSub, Nat.reduceAdd, Nat.reduceLeDiff, true_and, and_true, and_self, Option.some.injEq, exists_eq_left', Nat.zero_add, Value.int.injEq, Value.ref.injEq, List.cons.injEq, exists_and_left, and_assoc, exists_eq_left, List.all_cons, List.all_nil, m1_i, m1_r, Bool.and_self, Bool.and_true, bk_28_22, o_add_l, if_pos, if_neg, not_true_eq_false, not_false_eq_true, or_true, true_or, or_false, false_or, false_and, and_false, Nat.reduceEqDiff, Nat.reduceLT, Nat.reduceMul, Nat.not_lt_zero, Nat.zero_le, Nat.le_refl, ne_eq, reduceIte, reduceCtorEq]
      exact hnext (by simp [fB, hfb, c])
  · intro hfb
    rw [B_28_2]
    simp (disch := omega) only [e_iconst, e_bipush, e_sipush, e_iload_n, e_iload, e_aload_n, e_aload, e_istore_n, e_istore, e_astore_n, e_astore, e_iinc, e_iadd, e_isub, e_imul, e_iand, e_ishr, e_idiv, e_i2c, e_dup_i, e_dup_r, e_dup2, e_pop, e_goto, e_nop, e_if_eq, e_if_ne, e_if_lt, e_if_ge, e_if_gt, e_if_le, e_icmp_eq, e_icmp_ne, e_icmp_lt, e_icmp_ge, e_icmp_gt, e_icmp_le, e_tsw, e_ret0, e_ret1, e_retn, e_getI, e_getZ, e_getR, e_getV, e_getC, e_putI, e_putZ, e_putF, e_gst0, e_gst1, e_sld, e_iald, e_cald, e_bald, e_iast, e_cast, e_aald, e_aast, e_alen, e_slen, e_blen, e_newa, e_newq, e_new, e_oinit, e_ctor, e_virt, e_stat, e_min, e_copy, e_ldc, List.cons_append, List.nil_append, List.append_nil, List.length_cons, List.length_nil, List.replicate_succ, List.replicate_zero, List.getElem?_cons_zero, List.getElem?_cons_succ, List.set_cons_zero, List.set_cons_succ, List.take_succ_cons, List.take_zero, List.drop_succ_cons, List.drop_zero, List.reverse_cons, List.reverse_nil, Option.toList_some, Option.toList_none, Nat.reduceSub, Nat.reduceAdd, Nat.reduceLeDiff, true_and, and_true, and_self, Option.some.injEq, exists_eq_left', Nat.zero_add, Value.int.injEq, Value.ref.injEq, List.cons.injEq, exists_and_left, and_assoc, exists_eq_left, List.all_cons, List.all_nil, m1_i, m1_r, Bool.and_self, Bool.and_true, bk_28_2, B_28_28, bk_28_28, o_le_r, if_pos, Nat.le_refl, if_pos, if_neg, not_true_eq_false, not_false_eq_true, or_true, true_or, or_false, false_or, false_and, and_false, Nat.reduceEqDiff, Nat.reduceLT, Nat.reduceMul, Nat.not_lt_zero, Nat.zero_le, Nat.le_refl, ne_eq, reduceIte, reduceCtorEq, hfb]
    exact rfl
/-- the history's array of states: four of the four places, in some order -/
def zH (K : mK) (R : Nat → Nat → Option Nat) (f : Nat → Nat) : Prop := K.2.2.1 31 = (1, 1) ∧ R 31 0 = some 32 ∧ K.2.2.1 32 = (5, 4) ∧ (∀ j, j < 4 → R 32 j = some (33 + 30 * f j)) ∧ (∀ j, j < 4 → f j < 4) ∧ (∀ i j, i < 4 → j < 4 → f i = f j → i = j) ∧ ∀ q, q < 4 → zS K R (33 + 30 * q)
theorem mSetR_ne {R : Nat → Nat → Option Nat} {a k b j : Nat} {x : Option Nat} (h : b ≠ a) : mSetR R a k x b j = R b j := if_neg (fun q => h q.1)
theorem zW_R {K : mK} {R : Nat → Nat → Option Nat} {a k : Nat} {x : Option Nat} {b : Nat} (h : zW K R b) (hab : a ≠ b) : zW K (mSetR R a k x) b := by
  obtain ⟨h0, h1, h2, h3, h4, h5, h6, h7⟩ := h
  exact ⟨h0, h1, h2, h3, by rw [mSetR_ne (Ne.symm hab)]; exact h4, by rw [mSetR_ne (Ne.symm hab)]; exact h5, by rw [mSetR_ne (Ne.symm hab)]; exact h6, h7⟩
theorem zL_R {K : mK} {R : Nat → Nat → Option Nat} {a k : Nat} {x : Option Nat} {b : Nat} (h : zL K R b) (hab : a ≠ b) : zL K (mSetR R a k x) b := by
  obtain ⟨h0, h1, h2, h3, h4, h5, h6, h7⟩ := h
  exact ⟨h0, h1, h2, h3, by rw [mSetR_ne (Ne.symm hab)]; exact h4, by rw [mSetR_ne (Ne.symm hab)]; exact h5, by rw [mSetR_ne (Ne.symm hab)]; exact h6, h7⟩
theorem zS_R {K : mK} {R : Nat → Nat → Option Nat} {k : Nat} {x : Option Nat} {b : Nat} (h : zS K R b) (hb : b + 30 ≤ 32 ∨ 32 < b) : zS K (mSetR R 32 k x) b := by
  obtain ⟨h0, h1, h2, h3, h4, h5, h6⟩ := h
  refine ⟨h0, by rw [mSetR_ne (by omega)]; exact h1, h2, by rw [mSetR_ne (by omega)]; exact h3, zL_R h4 (by omega), h5, fun s hs => ⟨by rw [mSetR_ne (by omega)]; exact (h6 s hs).1, zW_R (h6 s hs).2 (by omega)⟩⟩
/-- the references behind a turn of the history -/
def rTu (R : Nat → Nat → Option Nat) (k : Nat) : Nat → Nat → Option Nat := fun x j => if x = 32 ∧ j + 1 < k then R 32 (j + 1) else R x j
def rTt (R : Nat → Nat → Option Nat) : Nat → Nat → Option Nat := fun x j => if x = 32 ∧ j < 3 then R 32 (j + 1) else if x = 32 ∧ j = 3 then R 32 0 else R x j
theorem m_turn {K : mK} {R : Nat → Nat → Option Nat} {I : Nat → Nat → Int32} {f : Nat → Nat} {Q : Option Value → mH → Prop} (h : zH K R f) : EvM 10 [.ref 31] (K, R, I) Q ↔ Q none (K, rTt R, mSet I 31 1 3) := by
  obtain ⟨h0, h1, h2, h3, h4, h5, h6⟩ := id h
  have s0 := (h6 (f 0) (h4 0 (by omega))).1
  have s1 := (h6 (f 1) (h4 1 (by omega))).1
  have s2 := (h6 (f 2) (h4 2 (by omega))).1
  have s3 := (h6 (f 3) (h4 3 (by omega))).1
  have r0 := h3 0 (by omega)
  have r1 := h3 1 (by omega)
  have r2 := h3 2 (by omega)
  have r3 := h3 3 (by omega)
  refine EvM_iff ?_
  unfold EvM
  rw [B_10_0]
  have a1 : ∀ {Z : Nat → Nat → Option Nat} {k : Nat} {x : Option Nat}, mSetR Z 32 k x 31 0 = Z 31 0 := by intro Z k x; exact mSetR_ne (by omega)
  have a2 : ∀ {Z : Nat → Nat → Option Nat} {k j : Nat} {x : Option Nat}, j ≠ k → mSetR Z 32 k x 32 j = Z 32 j := by intro Z k j x hj; exact if_neg (fun q => hj q.2)
  simp (disch := omega) only [e_iconst, e_bipush, e_sipush, e_iload_n, e_iload, e_aload_n, e_aload, e_istore_n, e_istore, e_astore_n, e_astore, e_iinc, e_iadd, e_isub, e_imul, e_iand, e_ishr, e_idiv, e_i2c, e_dup_i, e_dup_r, e_dup2, e_pop, e_goto, e_nop, e_if_eq, e_if_ne, e_if_lt, e_if_ge, e_if_gt, e_if_le, e_icmp_eq, e_icmp_ne, e_icmp_lt, e_icmp_ge, e_icmp_gt, e_icmp_le, e_tsw, e_ret0, e_ret1, e_retn, e_getI, e_getZ, e_getR, e_getV, e_getC, e_putI, e_putZ, e_putF, e_gst0, e_gst1, e_sld, e_iald, e_cald, e_bald, e_iast, e_cast, e_aald, e_aast, e_alen, e_slen, e_blen, e_newa, e_newq, e_new, e_oinit, e_ctor, e_virt, e_stat, e_min, e_copy, e_ldc, List.cons_append, List.nil_append, List.append_nil, List.length_cons, List.length_nil, List.replicate_succ, List.replicate_zero, List.getElem?_cons_zero, List.getElem?_cons_succ, List.set_cons_zero, List.set_cons_succ, List.take_succ_cons, List.take_zero, List.drop_succ_cons, List.drop_zero, List.reverse_cons, List.reverse_nil, Option.toList_some, Option.toList_none, Nat.reduceSub, Nat.reduceAdd, Nat.reduceLeDiff, true_and, and_true, and_self, Option.some.injEq, exists_eq_left', Nat.zero_add, Value.int.injEq, Value.ref.injEq, List.cons.injEq, exists_and_left, and_assoc, exists_eq_left, List.all_cons, List.all_nil, m1_i, m1_r, Bool.and_self, Bool.and_true, N_10, bk_10_0, h0, h1, h2, r0, o_in, o_cl, true_or, or_true, if_pos, if_neg, not_true_eq_false, not_false_eq_true, or_true, true_or, or_false, false_or, false_and, and_false, Nat.reduceEqDiff, Nat.reduceLT, Nat.reduceMul, Nat.not_lt_zero, Nat.zero_le, Nat.le_refl, ne_eq, reduceIte, reduceCtorEq]
  rw [B_10_9]
  simp (disch := omega) only [e_iconst, e_bipush, e_sipush, e_iload_n, e_iload, e_aload_n, e_aload, e_istore_n, e_istore, e_astore_n, e_astore, e_iinc, e_iadd, e_isub, e_imul, e_iand, e_ishr, e_idiv, e_i2c, e_dup_i, e_dup_r, e_dup2, e_pop, e_goto, e_nop, e_if_eq, e_if_ne, e_if_lt, e_if_ge, e_if_gt, e_if_le, e_icmp_eq, e_icmp_ne, e_icmp_lt, e_icmp_ge, e_icmp_gt, e_icmp_le, e_tsw, e_ret0, e_ret1, e_retn, e_getI, e_getZ, e_getR, e_getV, e_getC, e_putI, e_putZ, e_putF, e_gst0, e_gst1, e_sld, e_iald, e_cald, e_bald, e_iast, e_cast, e_aald, e_aast, e_alen, e_slen, e_blen, e_newa, e_newq, e_new, e_oinit, e_ctor, e_virt, e_stat, e_min, e_copy, e_ldc, List.cons_append, List.nil_append, List.append_nil, List.length_cons, List.length_nil, List.replicate_succ, List.replicate_zero, List.getElem?_cons_zero, List.getElem?_cons_succ, List.set_cons_zero, List.set_cons_succ, List.take_succ_cons, List.take_zero, List.drop_succ_cons, List.drop_zero, List.reverse_cons, List.reverse_nil, Option.toList_some, Option.toList_none, Nat.reduceSub, Nat.reduceAdd, Nat.reduceLeDiff, true_and, and_true, and_self, Option.some.injEq, exists_eq_left', Nat.zero_add, Value.int.injEq, Value.ref.injEq, List.cons.injEq, exists_and_left, and_assoc, exists_eq_left, List.all_cons, List.all_nil, m1_i, m1_r, Bool.and_self, Bool.and_true, bk_10_9, h0, h1, h2, s1, r1, o_in, o_cl, o_le, o_sub_l, if_neg, Int32.reduceSub, Int32.reduceAdd, true_or, or_true, a1, if_pos, if_neg, not_true_eq_false, not_false_eq_true, or_true, true_or, or_false, false_or, false_and, and_false, Nat.reduceEqDiff, Nat.reduceLT, Nat.reduceMul, Nat.not_lt_zero, Nat.zero_le, Nat.le_refl, ne_eq, reduceIte, reduceCtorEq]
  rw [B_10_9]
  simp (disch := omega) only [e_iconst, e_bipush, e_sipush, e_iload_n, e_iload, e_aload_n, e_aload, e_istore_n, e_istore, e_astore_n, e_astore, e_iinc, e_iadd, e_isub, e_imul, e_iand, e_ishr, e_idiv, e_i2c, e_dup_i, e_dup_r, e_dup2, e_pop, e_goto, e_nop, e_if_eq, e_if_ne, e_if_lt, e_if_ge, e_if_gt, e_if_le, e_icmp_eq, e_icmp_ne, e_icmp_lt, e_icmp_ge, e_icmp_gt, e_icmp_le, e_tsw, e_ret0, e_ret1, e_retn, e_getI, e_getZ, e_getR, e_getV, e_getC, e_putI, e_putZ, e_putF, e_gst0, e_gst1, e_sld, e_iald, e_cald, e_bald, e_iast, e_cast, e_aald, e_aast, e_alen, e_slen, e_blen, e_newa, e_newq, e_new, e_oinit, e_ctor, e_virt, e_stat, e_min, e_copy, e_ldc, List.cons_append, List.nil_append, List.append_nil, List.length_cons, List.length_nil, List.replicate_succ, List.replicate_zero, List.getElem?_cons_zero, List.getElem?_cons_succ, List.set_cons_zero, List.set_cons_succ, List.take_succ_cons, List.take_zero, List.drop_succ_cons, List.drop_zero, List.reverse_cons, List.reverse_nil, Option.toList_some, Option.toList_none, Nat.reduceSub, Nat.reduceAdd, Nat.reduceLeDiff, true_and, and_true, and_self, Option.some.injEq, exists_eq_left', Nat.zero_add, Value.int.injEq, Value.ref.injEq, List.cons.injEq, exists_and_left, and_assoc, exists_eq_left, List.all_cons, List.all_nil, m1_i, m1_r, Bool.and_self, Bool.and_true, bk_10_9, h0, h1, h2, s2, r2, o_in, o_cl, o_le, if_neg, Int32.reduceSub, Int32.reduceAdd, true_or, or_true, a1, a2, if_pos, if_neg, not_true_eq_false, not_false_eq_true, or_true, true_or, or_false, false_or, false_and, and_false, Nat.reduceEqDiff, Nat.reduceLT, Nat.reduceMul, Nat.not_lt_zero, Nat.zero_le, Nat.le_refl, ne_eq, reduceIte, reduceCtorEq]
  rw [B_10_9]
  simp (disch := omega) only [e_iconst, e_bipush, e_sipush, e_iload_n, e_iload, e_aload_n, e_aload, e_istore_n, e_istore, e_astore_n, e_astore, e_iinc, e_iadd, e_isub, e_imul, e_iand, e_ishr, e_idiv, e_i2c, e_dup_i, e_dup_r, e_dup2, e_pop, e_goto, e_nop, e_if_eq, e_if_ne, e_if_lt, e_if_ge, e_if_gt, e_if_le, e_icmp_eq, e_icmp_ne, e_icmp_lt, e_icmp_ge, e_icmp_gt, e_icmp_le, e_tsw, e_ret0, e_ret1, e_retn, e_getI, e_getZ, e_getR, e_getV, e_getC, e_putI, e_putZ, e_putF, e_gst0, e_gst1, e_sld, e_iald, e_cald, e_bald, e_iast, e_cast, e_aald, e_aast, e_alen, e_slen, e_blen, e_newa, e_newq, e_new, e_oinit, e_ctor, e_virt, e_stat, e_min, e_copy, e_ldc, List.cons_append, List.nil_append, List.append_nil, List.length_cons, List.length_nil, List.replicate_succ, List.replicate_zero, List.getElem?_cons_zero, List.getElem?_cons_succ, List.set_cons_zero, List.set_cons_succ, List.take_succ_cons, List.take_zero, List.drop_succ_cons, List.drop_zero, List.reverse_cons, List.reverse_nil, Option.toList_some, Option.toList_none, Nat.reduceSub, Nat.reduceAdd, Nat.reduceLeDiff, true_and, and_true, and_self, Option.some.injEq, exists_eq_left', Nat.zero_add, Value.int.injEq, Value.ref.injEq, List.cons.injEq, exists_and_left, and_assoc, exists_eq_left, List.all_cons, List.all_nil, m1_i, m1_r, Bool.and_self, Bool.and_true, bk_10_9, h0, h1, h2, s3, r3, o_in, o_cl, o_le, if_neg, Int32.reduceSub, Int32.reduceAdd, true_or, or_true, a1, a2, if_pos, if_neg, not_true_eq_false, not_false_eq_true, or_true, true_or, or_false, false_or, false_and, and_false, Nat.reduceEqDiff, Nat.reduceLT, Nat.reduceMul, Nat.not_lt_zero, Nat.zero_le, Nat.le_refl, ne_eq, reduceIte, reduceCtorEq]
  rw [B_10_9]
  simp (disch := omega) only [e_iconst, e_bipush, e_sipush, e_iload_n, e_iload, e_aload_n, e_aload, e_istore_n, e_istore, e_astore_n, e_astore, e_iinc, e_iadd, e_isub, e_imul, e_iand, e_ishr, e_idiv, e_i2c, e_dup_i, e_dup_r, e_dup2, e_pop, e_goto, e_nop, e_if_eq, e_if_ne, e_if_lt, e_if_ge, e_if_gt, e_if_le, e_icmp_eq, e_icmp_ne, e_icmp_lt, e_icmp_ge, e_icmp_gt, e_icmp_le, e_tsw, e_ret0, e_ret1, e_retn, e_getI, e_getZ, e_getR, e_getV, e_getC, e_putI, e_putZ, e_putF, e_gst0, e_gst1, e_sld, e_iald, e_cald, e_bald, e_iast, e_cast, e_aald, e_aast, e_alen, e_slen, e_blen, e_newa, e_newq, e_new, e_oinit, e_ctor, e_virt, e_stat, e_min, e_copy, e_ldc, List.cons_append, List.nil_append, List.append_nil, List.length_cons, List.length_nil, List.replicate_succ, List.replicate_zero, List.getElem?_cons_zero, List.getElem?_cons_succ, List.set_cons_zero, List.set_cons_succ, List.take_succ_cons, List.take_zero, List.drop_succ_cons, List.drop_zero, List.reverse_cons, List.reverse_nil, Option.toList_some, Option.toList_none, Nat.reduceSub, Nat.reduceAdd, Nat.reduceLeDiff, true_and, and_true, and_self, Option.some.injEq, exists_eq_left', Nat.zero_add, Value.int.injEq, Value.ref.injEq, List.cons.injEq, exists_and_left, and_assoc, exists_eq_left, List.all_cons, List.all_nil, m1_i, m1_r, Bool.and_self, Bool.and_true, bk_10_9, B_10_34, bk_10_34, h0, h1, h2, s0, o_in, o_cl, o_le, if_pos, Int32.reduceSub, Int32.reduceAdd, true_or, or_true, a1, a2, if_pos, if_neg, not_true_eq_false, not_false_eq_true, or_true, true_or, or_false, false_or, false_and, and_false, Nat.reduceEqDiff, Nat.reduceLT, Nat.reduceMul, Nat.not_lt_zero, Nat.zero_le, Nat.le_refl, ne_eq, reduceIte, reduceCtorEq]
  congr 2
  funext x j
  simp only [mSetR, rTt]
  by_cases c : x = 32
  · subst c
    rcases (show j = 0 ∨ j = 1 ∨ j = 2 ∨ j = 3 ∨ 4 ≤ j by omega) with rfl | rfl | rfl | rfl | hj
    · simp [r1]
    · simp [r2]
    · simp [r3]
    · simp [r0]
    · rw [if_neg (by omega), if_neg (by omega), if_neg (by omega), if_neg (by omega), if_neg (by omega), if_neg (by omega)]
  · rw [if_neg (by omega), if_neg (by omega), if_neg (by omega), if_neg (by omega), if_neg (by omega), if_neg (by omega)]
/-- what a change of the row 32 keeps -/
theorem zW_c {K : mK} {R R' : Nat → Nat → Option Nat} {b : Nat} (hR : ∀ x, x ≠ 32 → R' x = R x) (h : zW K R b) (hb : b ≠ 32) : zW K R' b := by
  obtain ⟨h0, h1, h2, h3, h4, h5, h6, h7⟩ := h
  exact ⟨h0, h1, h2, h3, by rw [hR b hb]; exact h4, by rw [hR b hb]; exact h5, by rw [hR b hb]; exact h6, h7⟩
theorem zL_c {K : mK} {R R' : Nat → Nat → Option Nat} {b : Nat} (hR : ∀ x, x ≠ 32 → R' x = R x) (h : zL K R b) (hb : b ≠ 32) : zL K R' b := by
  obtain ⟨h0, h1, h2, h3, h4, h5, h6, h7⟩ := h
  exact ⟨h0, h1, h2, h3, by rw [hR b hb]; exact h4, by rw [hR b hb]; exact h5, by rw [hR b hb]; exact h6, h7⟩
theorem zS_c {K : mK} {R R' : Nat → Nat → Option Nat} {b : Nat} (hR : ∀ x, x ≠ 32 → R' x = R x) (h : zS K R b) (hb : b + 30 ≤ 32 ∨ 32 < b) : zS K R' b := by
  obtain ⟨h0, h1, h2, h3, h4, h5, h6⟩ := h
  exact ⟨h0, by rw [hR _ (by omega)]; exact h1, h2, by rw [hR _ (by omega)]; exact h3, zL_c hR h4 (by omega), h5, fun s hs => ⟨by rw [hR _ (by omega)]; exact (h6 s hs).1, zW_c hR (h6 s hs).2 (by omega)⟩⟩
theorem rTt_o {R : Nat → Nat → Option Nat} : ∀ x, x ≠ 32 → rTt R x = R x := by
  intro x hx
  funext j
  rw [rTt, if_neg (fun q => hx q.1), if_neg (fun q => hx q.1)]
def fTu (f : Nat → Nat) : Nat → Nat := fun j => if j = 3 then f 0 else f (j + 1)
theorem zH_turn {K : mK} {R : Nat → Nat → Option Nat} {f : Nat → Nat} (h : zH K R f) : zH K (rTt R) (fTu f) := by
  obtain ⟨h0, h1, h2, h3, h4, h5, h6⟩ := id h
  refine ⟨h0, by rw [rTt_o 31 (by omega)]; exact h1, h2, fun j hj => ?_, fun j hj => ?_, fun i j hi hj e => ?_, fun q hq => zS_c rTt_o (h6 q hq) (by omega)⟩
  · unfold rTt fTu
    by_cases c : j = 3
    · rw [if_neg (by omega), if_pos ⟨rfl, c⟩, if_pos c]; exact h3 0 (by omega)
    · rw [if_pos ⟨rfl, by omega⟩, if_neg c]; exact h3 (j + 1) (by omega)
  · unfold fTu
    split
    · exact h4 0 (by omega)
    · exact h4 (j + 1) (by omega)
  · unfold fTu at e
    by_cases c : i = 3 <;> by_cases c2 : j = 3
    · omega
    · rw [if_pos c, if_neg c2] at e
      have := h5 _ _ (by omega) (by omega) e
      omega
    · rw [if_neg c, if_pos c2] at e
      have := h5 _ _ (by omega) (by omega) e
      omega
    · rw [if_neg c, if_neg c2] at e
      have := h5 _ _ (by omega) (by omega) e
      omega
/-- the cells behind a remembering of the state 1 in the place q -/
def hRm (I : Nat → Nat → Int32) (q n : Nat) : Nat → Nat → Int32 := mSet (sCp I (33 + 30 * q) 1) 31 1 (nI (if n = 4 then 4 else n + 1))
theorem m_remember {K : mK} {R : Nat → Nat → Option Nat} {I : Nat → Nat → Int32} {f : Nat → Nat} {n : Nat} {Q : Option Value → mH → Prop} (h : zH K R f) (hs : zS K R 1) (hn : I 31 1 = nI n) (hn2 : n ≤ 4) (hb : ∀ s, s < 6 → ∃ p cl, p ≤ 1 ∧ cl ≤ 1 ∧ I (1 + 6 + 4 * s) 3 = nI p ∧ I (1 + 6 + 4 * s) 4 = nI cl) :
    EvM 9 [.ref 31, .ref 1] (K, R, I) Q ↔ Q none (K, (if n = 4 then rTt R else R), hRm I (if n = 4 then f 0 else f n) n) := by
  obtain ⟨h0, h1, h2, h3, h4, h5, h6⟩ := id h
  refine EvM_iff ?_
  unfold EvM
  rw [B_9_0]
  by_cases e : n = 4
  · subst e
    have q4 := h4 0 (by omega)
    have t0 := zH_turn h
    obtain ⟨g0, g1, g2, g3, g4, g5, g6⟩ := id t0
    have e3 : rTt R 32 3 = some (33 + 30 * f 0) := g3 3 (by omega)
    have hs' : zS K (rTt R) 1 := zS_c rTt_o hs (by omega)
    have hz := (g6 (f 0) q4).1
    simp (disch := omega) only [e_iconst, e_bipush, e_sipush, e_iload_n, e_iload, e_aload_n, e_aload, e_istore_n, e_istore, e_astore_n, e_astore, e_iinc, e_iadd, e_isub, e_imul, e_iand, e_ishr, e_idiv, e_i2c, e_dup_i, e_dup_r, e_dup2, e_pop, e_goto, e_nop, e_if_eq, e_if_ne, e_if_lt, e_if_ge, e_if_gt, e_if_le, e_icmp_eq, e_icmp_ne, e_icmp_lt, e_icmp_ge, e_icmp_gt, e_icmp_le, e_tsw, e_ret0, e_ret1, e_retn, e_getI, e_getZ, e_getR, e_getV, e_getC, e_putI, e_putZ, e_putF, e_gst0, e_gst1, e_sld, e_iald, e_cald, e_bald, e_iast, e_cast, e_aald, e_aast, e_alen, e_slen, e_blen, e_newa, e_newq, e_new, e_oinit, e_ctor, e_virt, e_stat, e_min, e_copy, e_ldc, List.cons_append, List.nil_append, List.append_nil, List.length_cons, List.length_nil, List.replicate_succ, List.replicate_zero, List.getElem?_cons_zero, List.getElem?_cons_succ, List.set_cons_zero, List.set_cons_succ, List.take_succ_cons, List.take_zero, List.drop_succ_cons, List.drop_zero, List.reverse_cons, List.reverse_nil, Option.toList_some, Option.toList_none, Nat.reduceSub, Nat.reduceAdd, Nat.reduceLeDiff, true_and, and_true, and_self, Option.some.injEq, exists_eq_left', Nat.zero_add, Value.int.injEq, Value.ref.injEq, List.cons.injEq, exists_and_left, and_assoc, exists_eq_left, List.all_cons, List.all_nil, m1_i, m1_r, Bool.and_self, Bool.and_true, N_9, bk_9_0, h0, hn, o_eq_l, C_10, m_turn h, if_pos, if_neg, not_true_eq_false, not_false_eq_true, or_true, true_or, or_false, false_or, false_and, and_false, Nat.reduceEqDiff, Nat.reduceLT, Nat.reduceMul, Nat.not_lt_zero, Nat.zero_le, Nat.le_refl, ne_eq, reduceIte, reduceCtorEq]
    rw [B_9_12]
    simp (disch := omega) only [e_iconst, e_bipush, e_sipush, e_iload_n, e_iload, e_aload_n, e_aload, e_istore_n, e_istore, e_astore_n, e_astore, e_iinc, e_iadd, e_isub, e_imul, e_iand, e_ishr, e_idiv, e_i2c, e_dup_i, e_dup_r, e_dup2, e_pop, e_goto, e_nop, e_if_eq, e_if_ne, e_if_lt, e_if_ge, e_if_gt, e_if_le, e_icmp_eq, e_icmp_ne, e_icmp_lt, e_icmp_ge, e_icmp_gt, e_icmp_le, e_tsw, e_ret0, e_ret1, e_retn, e_getI, e_getZ, e_getR, e_getV, e_getC, e_putI, e_putZ, e_putF, e_gst0, e_gst1, e_sld, e_iald, e_cald, e_bald, e_iast, e_cast, e_aald, e_aast, e_alen, e_slen, e_blen, e_newa, e_newq, e_new, e_oinit, e_ctor, e_virt, e_stat, e_min, e_copy, e_ldc, List.cons_append, List.nil_append, List.append_nil, List.length_cons, List.length_nil, List.replicate_succ, List.replicate_zero, List.getElem?_cons_zero, List.getElem?_cons_succ, List.set_cons_zero, List.set_cons_succ, List.take_succ_cons, List.take_zero, List.drop_succ_cons, List.drop_zero, List.reverse_cons, List.reverse_nil, Option.toList_some, Option.toList_none, Nat.reduceSub, Nat.reduceAdd, Nat.reduceLeDiff, true_and, and_true, and_self, Option.some.injEq, exists_eq_left', Nat.zero_add, Value.int.injEq, Value.ref.injEq, List.cons.injEq, exists_and_left, and_assoc, exists_eq_left, List.all_cons, List.all_nil, m1_i, m1_r, Bool.and_self, Bool.and_true, bk_9_12, g0, g1, g2, e3, hz, s_eq, o_in, o_cl, true_or, or_true, C_25, m_scopy (I := mSet I 31 1 3) (g6 (f 0) q4) hs' (by omega) (by intro s hs1; obtain ⟨p, cl, p1, p2, p3, p4⟩ := hb s hs1; exact ⟨p, cl, p1, p2, by rw [s_ne (by omega)]; exact p3, by rw [s_ne (by omega)]; exact p4⟩), if_pos, if_neg, not_true_eq_false, not_false_eq_true, or_true, true_or, or_false, false_or, false_and, and_false, Nat.reduceEqDiff, Nat.reduceLT, Nat.reduceMul, Nat.not_lt_zero, Nat.zero_le, Nat.le_refl, ne_eq, reduceIte, reduceCtorEq]
    have e4 : sCp (mSet I 31 1 3) (33 + 30 * f 0) 1 31 1 = 3 := by rw [sCp_o (by omega), s_eq]
    rw [e4]
    congr 2
    funext x j
    by_cases c : x = 31 ∧ j = 1
    · rw [hRm, s_eqj c, s_eqj c, if_pos rfl]; rfl
    · rw [hRm, s_ne c, s_ne c]
      simp only [sCp]
      have z1 : ∀ y, y < 31 → ∀ i, mSet I 31 1 3 y i = I y i := fun y hy i => s_ne (by omega)
      (repeat' split) <;> first | (exact z1 _ (by omega) _) | (exact s_ne c)
  · have q4 := h4 n (by omega)
    have e3 := h3 n (by omega)
    have hz := (h6 (f n) q4).1
    simp (disch := omega) only [e_iconst, e_bipush, e_sipush, e_iload_n, e_iload, e_aload_n, e_aload, e_istore_n, e_istore, e_astore_n, e_astore, e_iinc, e_iadd, e_isub, e_imul, e_iand, e_ishr, e_idiv, e_i2c, e_dup_i, e_dup_r, e_dup2, e_pop, e_goto, e_nop, e_if_eq, e_if_ne, e_if_lt, e_if_ge, e_if_gt, e_if_le, e_icmp_eq, e_icmp_ne, e_icmp_lt, e_icmp_ge, e_icmp_gt, e_icmp_le, e_tsw, e_ret0, e_ret1, e_retn, e_getI, e_getZ, e_getR, e_getV, e_getC, e_putI, e_putZ, e_putF, e_gst0, e_gst1, e_sld, e_iald, e_cald, e_bald, e_iast, e_cast, e_aald, e_aast, e_alen, e_slen, e_blen, e_newa, e_newq, e_new, e_oinit, e_ctor, e_virt, e_stat, e_min, e_copy, e_ldc, List.cons_append, List.nil_append, List.append_nil, List.length_cons, List.length_nil, List.replicate_succ, List.replicate_zero, List.getElem?_cons_zero, List.getElem?_cons_succ, List.set_cons_zero, List.set_cons_succ, List.take_succ_cons, List.take_zero, List.drop_succ_cons, List.drop_zero, List.reverse_cons, List.reverse_nil, Option.toList_some, Option.toList_none, Nat.reduceSub, Nat.reduceAdd, Nat.reduceLeDiff, true_and, and_true, and_self, Option.some.injEq, exists_eq_left', Nat.zero_add, Value.int.injEq, Value.ref.injEq, List.cons.injEq, exists_and_left, and_assoc, exists_eq_left, List.all_cons, List.all_nil, m1_i, m1_r, Bool.and_self, Bool.and_true, N_9, bk_9_0, h0, hn, o_eq_l, if_pos, e, if_pos, if_neg, not_true_eq_false, not_false_eq_true, or_true, true_or, or_false, false_or, false_and, and_false, Nat.reduceEqDiff, Nat.reduceLT, Nat.reduceMul, Nat.not_lt_zero, Nat.zero_le, Nat.le_refl, ne_eq, reduceIte, reduceCtorEq]
    rw [B_9_12]
    have e4 : sCp I (33 + 30 * f n) 1 31 1 = nI n := by rw [sCp_o (by omega)]; exact hn
    simp (disch := omega) only [e_iconst, e_bipush, e_sipush, e_iload_n, e_iload, e_aload_n, e_aload, e_istore_n, e_istore, e_astore_n, e_astore, e_iinc, e_iadd, e_isub, e_imul, e_iand, e_ishr, e_idiv, e_i2c, e_dup_i, e_dup_r, e_dup2, e_pop, e_goto, e_nop, e_if_eq, e_if_ne, e_if_lt, e_if_ge, e_if_gt, e_if_le, e_icmp_eq, e_icmp_ne, e_icmp_lt, e_icmp_ge, e_icmp_gt, e_icmp_le, e_tsw, e_ret0, e_ret1, e_retn, e_getI, e_getZ, e_getR, e_getV, e_getC, e_putI, e_putZ, e_putF, e_gst0, e_gst1, e_sld, e_iald, e_cald, e_bald, e_iast, e_cast, e_aald, e_aast, e_alen, e_slen, e_blen, e_newa, e_newq, e_new, e_oinit, e_ctor, e_virt, e_stat, e_min, e_copy, e_ldc, List.cons_append, List.nil_append, List.append_nil, List.length_cons, List.length_nil, List.replicate_succ, List.replicate_zero, List.getElem?_cons_zero, List.getElem?_cons_succ, List.set_cons_zero, List.set_cons_succ, List.take_succ_cons, List.take_zero, List.drop_succ_cons, List.drop_zero, List.reverse_cons, List.reverse_nil, Option.toList_some, Option.toList_none, Nat.reduceSub, Nat.reduceAdd, Nat.reduceLeDiff, true_and, and_true, and_self, Option.some.injEq, exists_eq_left', Nat.zero_add, Value.int.injEq, Value.ref.injEq, List.cons.injEq, exists_and_left, and_assoc, exists_eq_left, List.all_cons, List.all_nil, m1_i, m1_r, Bool.and_self, Bool.and_true, bk_9_12, h0, h1, h2, hn, e3, hz, n_in, n_cl, true_or, or_true, C_25, m_scopy (h6 (f n) q4) hs (by omega) hb, e4, o_add_l, if_pos, if_neg, not_true_eq_false, not_false_eq_true, or_true, true_or, or_false, false_or, false_and, and_false, Nat.reduceEqDiff, Nat.reduceLT, Nat.reduceMul, Nat.not_lt_zero, Nat.zero_le, Nat.le_refl, ne_eq, reduceIte, reduceCtorEq]
    rw [hRm, if_neg e]
theorem m_takeBack {K : mK} {R : Nat → Nat → Option Nat} {I : Nat → Nat → Int32} {f : Nat → Nat} {n : Nat} {Q : Option Value → mH → Prop} (h : zH K R f) (hs : zS K R 1) (hn : I 31 1 = nI n) (hn2 : n ≤ 4) (hb : 0 < n → ∀ s, s < 6 → ∃ p cl, p ≤ 1 ∧ cl ≤ 1 ∧ I (33 + 30 * f (n - 1) + 6 + 4 * s) 3 = nI p ∧ I (33 + 30 * f (n - 1) + 6 + 4 * s) 4 = nI cl) :
    EvM 11 [.ref 31, .ref 1] (K, R, I) Q ↔ Q (some (.int (if n = 0 then 0 else 1))) (K, R, if n = 0 then I else sCp (mSet I 31 1 (nI (n - 1))) 1 (33 + 30 * f (n - 1))) := by
  obtain ⟨h0, h1, h2, h3, h4, h5, h6⟩ := id h
  refine EvM_iff ?_
  unfold EvM
  rw [B_11_0]
  by_cases e : n = 0
  · subst e
    simp (disch := omega) only [e_iconst, e_bipush, e_sipush, e_iload_n, e_iload, e_aload_n, e_aload, e_istore_n, e_istore, e_astore_n, e_astore, e_iinc, e_iadd, e_isub, e_imul, e_iand, e_ishr, e_idiv, e_i2c, e_dup_i, e_dup_r, e_dup2, e_pop, e_goto, e_nop, e_if_eq, e_if_ne, e_if_lt, e_if_ge, e_if_gt, e_if_le, e_icmp_eq, e_icmp_ne, e_icmp_lt, e_icmp_ge, e_icmp_gt, e_icmp_le, e_tsw, e_ret0, e_ret1, e_retn, e_getI, e_getZ, e_getR, e_getV, e_getC, e_putI, e_putZ, e_putF, e_gst0, e_gst1, e_sld, e_iald, e_cald, e_bald, e_iast, e_cast, e_aald, e_aast, e_alen, e_slen, e_blen, e_newa, e_newq, e_new, e_oinit, e_ctor, e_virt, e_stat, e_min, e_copy, e_ldc, List.cons_append, List.nil_append, List.append_nil, List.length_cons, List.length_nil, List.replicate_succ, List.replicate_zero, List.getElem?_cons_zero, List.getElem?_cons_succ, List.set_cons_zero, List.set_cons_succ, List.take_succ_cons, List.take_zero, List.drop_succ_cons, List.drop_zero, List.reverse_cons, List.reverse_nil, Option.toList_some, Option.toList_none, Nat.reduceSub, Nat.reduceAdd, Nat.reduceLeDiff, true_and, and_true, and_self, Option.some.injEq, exists_eq_left', Nat.zero_add, Value.int.injEq, Value.ref.injEq, List.cons.injEq, exists_and_left, and_assoc, exists_eq_left, List.all_cons, List.all_nil, m1_i, m1_r, Bool.and_self, Bool.and_true, N_11, bk_11_0, h0, hn, o_eq_l, o_eq, if_pos, if_neg, not_true_eq_false, not_false_eq_true, or_true, true_or, or_false, false_or, false_and, and_false, Nat.reduceEqDiff, Nat.reduceLT, Nat.reduceMul, Nat.not_lt_zero, Nat.zero_le, Nat.le_refl, ne_eq, reduceIte, reduceCtorEq]
  · have q4 := h4 (n - 1) (by omega)
    have e3 := h3 (n - 1) (by omega)
    have hz := hs.1
    simp (disch := omega) only [e_iconst, e_bipush, e_sipush, e_iload_n, e_iload, e_aload_n, e_aload, e_istore_n, e_istore, e_astore_n, e_astore, e_iinc, e_iadd, e_isub, e_imul, e_iand, e_ishr, e_idiv, e_i2c, e_dup_i, e_dup_r, e_dup2, e_pop, e_goto, e_nop, e_if_eq, e_if_ne, e_if_lt, e_if_ge, e_if_gt, e_if_le, e_icmp_eq, e_icmp_ne, e_icmp_lt, e_icmp_ge, e_icmp_gt, e_icmp_le, e_tsw, e_ret0, e_ret1, e_retn, e_getI, e_getZ, e_getR, e_getV, e_getC, e_putI, e_putZ, e_putF, e_gst0, e_gst1, e_sld, e_iald, e_cald, e_bald, e_iast, e_cast, e_aald, e_aast, e_alen, e_slen, e_blen, e_newa, e_newq, e_new, e_oinit, e_ctor, e_virt, e_stat, e_min, e_copy, e_ldc, List.cons_append, List.nil_append, List.append_nil, List.length_cons, List.length_nil, List.replicate_succ, List.replicate_zero, List.getElem?_cons_zero, List.getElem?_cons_succ, List.set_cons_zero, List.set_cons_succ, List.take_succ_cons, List.take_zero, List.drop_succ_cons, List.drop_zero, List.reverse_cons, List.reverse_nil, Option.toList_some, Option.toList_none, Nat.reduceSub, Nat.reduceAdd, Nat.reduceLeDiff, true_and, and_true, and_self, Option.some.injEq, exists_eq_left', Nat.zero_add, Value.int.injEq, Value.ref.injEq, List.cons.injEq, exists_and_left, and_assoc, exists_eq_left, List.all_cons, List.all_nil, m1_i, m1_r, Bool.and_self, Bool.and_true, N_11, bk_11_0, h0, hn, o_eq_l, if_pos, e, if_pos, if_neg, not_true_eq_false, not_false_eq_true, or_true, true_or, or_false, false_or, false_and, and_false, Nat.reduceEqDiff, Nat.reduceLT, Nat.reduceMul, Nat.not_lt_zero, Nat.zero_le, Nat.le_refl, ne_eq, reduceIte, reduceCtorEq]
    rw [B_11_9]
    simp (disch := omega) only [e_iconst, e_bipush, e_sipush, e_iload_n, e_iload, e_aload_n, e_aload, e_istore_n, e_istore, e_astore_n, e_astore, e_iinc, e_iadd, e_isub, e_imul, e_iand, e_ishr, e_idiv, e_i2c, e_dup_i, e_dup_r, e_dup2, e_pop, e_goto, e_nop, e_if_eq, e_if_ne, e_if_lt, e_if_ge, e_if_gt, e_if_le, e_icmp_eq, e_icmp_ne, e_icmp_lt, e_icmp_ge, e_icmp_gt, e_icmp_le, e_tsw, e_ret0, e_ret1, e_retn, e_getI, e_getZ, e_getR, e_getV, e_getC, e_putI, e_putZ, e_putF, e_gst0, e_gst1, e_sld, e_iald, e_cald, e_bald, e_iast, e_cast, e_aald, e_aast, e_alen, e_slen, e_blen, e_newa, e_newq, e_new, e_oinit, e_ctor, e_virt, e_stat, e_min, e_copy, e_ldc, List.cons_append, List.nil_append, List.append_nil, List.length_cons, List.length_nil, List.replicate_succ, List.replicate_zero, List.getElem?_cons_zero, List.getElem?_cons_succ, List.set_cons_zero, List.set_cons_succ, List.take_succ_cons, List.take_zero, List.drop_succ_cons, List.drop_zero, List.reverse_cons, List.reverse_nil, Option.toList_some, Option.toList_none, Nat.reduceSub, Nat.reduceAdd, Nat.reduceLeDiff, true_and, and_true, and_self, Option.some.injEq, exists_eq_left', Nat.zero_add, Value.int.injEq, Value.ref.injEq, List.cons.injEq, exists_and_left, and_assoc, exists_eq_left, List.all_cons, List.all_nil, m1_i, m1_r, Bool.and_self, Bool.and_true, bk_11_9, h0, h1, h2, hn, e3, hz, n_in, n_cl, o_sub_l, s_eq, true_or, or_true, o_eq, C_25, m_scopy (I := mSet I 31 1 (nI (n - 1))) hs (h6 (f (n - 1)) q4) (by omega) (by intro s hs1; obtain ⟨p, cl, p1, p2, p3, p4⟩ := hb (by omega) s hs1; exact ⟨p, cl, p1, p2, by rw [s_ne (by omega)]; exact p3, by rw [s_ne (by omega)]; exact p4⟩), if_pos, if_neg, not_true_eq_false, not_false_eq_true, or_true, true_or, or_false, false_or, false_and, and_false, Nat.reduceEqDiff, Nat.reduceLT, Nat.reduceMul, Nat.not_lt_zero, Nat.zero_le, Nat.le_refl, ne_eq, reduceIte, reduceCtorEq]
end
section
/-! THE RELATION of the class's cells with its ghost, and what an act does to it -/
def zG (K : mK) (R : Nat → Nat → Option Nat) (f : Nat → Nat) : Prop :=
  zS K R 1 ∧ zS K R 153 ∧ zH K R f ∧ zW K R 190 ∧ zR K R 186 ∧ zR K R 188 ∧
  (K.2.2.1 0 = (1, 7) ∧ R 0 0 = some 1 ∧ R 0 1 = some 31 ∧ R 0 2 = some 153 ∧ R 0 4 = some 183 ∧ R 0 5 = some 185 ∧ R 0 6 = some 186 ∧ R 0 7 = some 188 ∧ R 0 8 = some 190) ∧
  (K.2.2.1 183 = (1, 5) ∧ R 183 0 = some 184 ∧ K.2.2.1 184 = (3, 50)) ∧ K.2.2.1 185 = (1, 0)
def rH (I : Nat → Nat → Int32) (f : Nat → Nat) (n : Nat) (H : Nat → Int32) : Prop := ∀ j, j < n → RC I (33 + 30 * f j) (fun x => H (626 * j + x))
def rT (I : Nat → Nat → Int32) (t : Nat) (T : Nat → Int32) : Prop := t ≤ 50 ∧ I 183 1 = nI t ∧ ∀ k, k < t → I 184 k = T k
/-- row, states in the history, their rows, the text's length, the text -/
abbrev gS : Type := (Nat → Int32) × Nat × (Nat → Int32) × Nat × (Nat → Int32)
def REL (K : mK) (R : Nat → Nat → Option Nat) (I : Nat → Nat → Int32) (v : Nat → Int32) (n : Nat) (H : Nat → Int32) (t : Nat) (T : Nat → Int32) : Prop :=
  ∃ f, zG K R f ∧ RC I 1 v ∧ n ≤ 4 ∧ I 31 1 = nI n ∧ rH I f n H ∧ I 0 3 = 0 ∧ rT I t T
theorem zG_turn {K : mK} {R : Nat → Nat → Option Nat} {f : Nat → Nat} (h : zG K R f) : zG K (rTt R) (fTu f) := by
  obtain ⟨h2, h3, h4, h5, ⟨q1, q2, q3, q4⟩, ⟨p1, p2, p3, p4⟩, ⟨a0, a1, a2, a3, a4, a5, a6, a7, a8⟩, ⟨b0, b1, b2⟩, c0⟩ := h
  have e : ∀ x, x ≠ 32 → rTt R x = R x := rTt_o
  refine ⟨zS_c e h2 (by omega), zS_c e h3 (by omega), zH_turn h4, zW_c e h5 (by omega), ⟨q1, q2, by rw [e _ (by omega)]; exact q3, q4⟩, ⟨p1, p2, by rw [e _ (by omega)]; exact p3, p4⟩, ⟨a0, ?_⟩, ⟨b0, by rw [e _ (by omega)]; exact b1, b2⟩, c0⟩
  rw [e 0 (by omega)]
  exact ⟨a1, a2, a3, a4, a5, a6, a7, a8⟩
def gTu (f : Nat → Nat) (n : Nat) : Nat → Nat := if n = 4 then fTu f else f
def nTu (n : Nat) : Nat := if n = 4 then 4 else n + 1
def RTu (R : Nat → Nat → Option Nat) (n : Nat) : Nat → Nat → Option Nat := if n = 4 then rTt R else R
def qTu (f : Nat → Nat) (n : Nat) : Nat := if n = 4 then f 0 else f n
theorem zG_tu {K : mK} {R : Nat → Nat → Option Nat} {f : Nat → Nat} {n : Nat} (h : zG K R f) : zG K (RTu R n) (gTu f n) := by
  unfold RTu gTu
  split
  · exact zG_turn h
  · exact h
theorem RC_fl {I : Nat → Nat → Int32} {a : Nat} {v : Nat → Int32} (h : RC I a v) : ∀ s, s < 6 → ∃ p cl, p ≤ 1 ∧ cl ≤ 1 ∧ I (a + 6 + 4 * s) 3 = nI p ∧ I (a + 6 + 4 * s) 4 = nI cl := by
  intro s hs
  obtain ⟨p, cl, c, ⟨f1, f2, f3, f4, f5, f6⟩, -⟩ := h.1 s hs
  exact ⟨p, cl, f4, f5, f1, f2⟩
/-- the class's remembering, with the relation -/
theorem a_remember {K : mK} {R : Nat → Nat → Option Nat} {I : Nat → Nat → Int32} {f : Nat → Nat} {n : Nat} {v : Nat → Int32} {Q : Option Value → mH → Prop} (g : zG K R f) (hv : RC I 1 v) (hn : I 31 1 = nI n) (hn2 : n ≤ 4) :
    EvM 9 [.ref 31, .ref 1] (K, R, I) Q ↔ Q none (K, RTu R n, hRm I (qTu f n) n) := m_remember g.2.2.1 g.1 hn hn2 (RC_fl hv)
theorem qTu_lt {K : mK} {R : Nat → Nat → Option Nat} {f : Nat → Nat} {n : Nat} (g : zG K R f) (hn2 : n ≤ 4) : qTu f n < 4 := by
  have h := g.2.2.1.2.2.2.2.1
  unfold qTu
  split
  · exact h 0 (by omega)
  · exact h n (by omega)
theorem hRm_o {I : Nat → Nat → Int32} {q n x j : Nat} (h : x < 33 + 30 * q ∨ 33 + 30 * q + 30 ≤ x) (h2 : x ≠ 31) : hRm I q n x j = I x j := by
  rw [hRm, s_ne (by omega), sCp_o h]
theorem hRm_31 {I : Nat → Nat → Int32} {q n : Nat} : hRm I q n 31 1 = nI (nTu n) := s_eq
theorem a_hist {K : mK} {R : Nat → Nat → Option Nat} {I : Nat → Nat → Int32} {f : Nat → Nat} {n : Nat} {H v : Nat → Int32} (g : zG K R f) (hv : RC I 1 v) (hn2 : n ≤ 4) (hH : rH I f n H) : rH (hRm I (qTu f n) n) (gTu f n) (nTu n) (vRec H v n) := by
  obtain ⟨-, -, ⟨-, -, -, -, z4, z5, -⟩, -⟩ := g
  intro j hj
  have old : ∀ i, i < n → (n = 4 → i ≠ 0) → ∀ w : Nat → Int32, (∀ x, x < 626 → w x = H (626 * i + x)) → RC (hRm I (qTu f n) n) (33 + 30 * f i) w := by
    intro i hi hi0 w hw
    refine RC_cong (hH i hi) (fun d j hd _ => ?_) hw
    have h1 := z4 i (by omega)
    have h2 : f i ≠ qTu f n := by
      unfold qTu
      split
      · rename_i e; intro q; exact hi0 e (z5 _ _ (by omega) (by omega) q)
      · rename_i e; intro q; have := z5 _ _ (by omega) (by omega) q; omega
    rw [hRm_o (by omega) (by omega)]
  have new : ∀ w : Nat → Int32, (∀ x, x < 626 → w x = v x) → RC (hRm I (qTu f n) n) (33 + 30 * qTu f n) w := by
    intro w hw
    refine RC_cong hv (fun d j hd hvd => ?_) hw
    rw [hRm, s_ne (by omega), sCp_in hd hvd]
  by_cases e : n = 4
  · subst e
    simp only [nTu, if_true] at hj
    simp only [gTu, if_true]
    by_cases e3 : j = 3
    · subst e3
      rw [show fTu f 3 = qTu f 4 by simp [fTu, qTu]]
      refine new _ (fun x hx => ?_)
      show vRec H v 4 (626 * 3 + x) = v x
      rw [vRec, if_pos rfl, if_neg (by omega), if_pos (by omega), show 626 * 3 + x - 1878 = x by omega]
    · rw [show fTu f j = f (j + 1) by simp [fTu, e3]]
      refine old (j + 1) (by omega) (by omega) _ (fun x hx => ?_)
      show vRec H v 4 (626 * j + x) = _
      rw [vRec, if_pos rfl, if_pos (by omega), show 626 * j + x + 626 = 626 * (j + 1) + x by omega]
  · simp only [nTu, if_neg e] at hj
    simp only [gTu, if_neg e]
    by_cases e3 : j = n
    · subst e3
      have q0 := new (fun x => vRec H v j (626 * j + x)) (fun x hx => by
        show vRec H v j (626 * j + x) = v x
        rw [vRec, if_neg e, if_pos (by omega), show 626 * j + x - 626 * j = x by omega])
      rw [show qTu f j = f j by simp [qTu, e]] at q0
      rw [show qTu f j = f j by simp [qTu, e]]
      exact q0
    · refine old j (by omega) (fun q => absurd q e) _ (fun x hx => ?_)
      show vRec H v n (626 * j + x) = _
      rw [vRec, if_neg e, if_neg (by omega)]
theorem RC_out {I I' : Nat → Nat → Int32} {a : Nat} {v : Nat → Int32} (h : RC I a v) (hI : ∀ x, a ≤ x → x < a + 30 → I' x = I x) : RC I' a v := RC_cong h (fun d j hd _ => by rw [hI _ (by omega) (by omega)]) (fun _ _ => rfl)
/-- the relation behind an act -/
theorem REL_act {K : mK} {R : Nat → Nat → Option Nat} {I I2 : Nat → Nat → Int32} {f : Nat → Nat} {n t : Nat} {v v' H T : Nat → Int32} (g : zG K R f) (hv : RC I 1 v) (hn2 : n ≤ 4) (hH : rH I f n H) (hP : I 0 3 = 0) (hT : rT I t T)
    (h2 : ∀ x, 31 ≤ x → x < 185 → I2 x = hRm I (qTu f n) n x) (h20 : I2 0 = I 0) (h2v : RC I2 1 v') : REL K (RTu R n) I2 v' (nTu n) (vRec H v n) t T := by
  have hq := qTu_lt g hn2
  have z4 := (zG_tu (n := n) g).2.2.1.2.2.2.2.1
  refine ⟨gTu f n, zG_tu g, h2v, ?_, ?_, ?_, ?_, ?_⟩
  · unfold nTu; split <;> omega
  · rw [h2 31 (by omega) (by omega)]; exact hRm_31
  · intro j hj
    have hj4 : j < 4 := by unfold nTu at hj; split at hj <;> omega
    have := z4 j hj4
    exact RC_out (a_hist g hv hn2 hH j hj) (fun x x1 x2 => h2 x (by omega) (by omega))
  · rw [h20]; exact hP
  · obtain ⟨t1, t2, t4⟩ := hT
    refine ⟨t1, ?_, fun k hk => ?_⟩
    · rw [h2 183 (by omega) (by omega), hRm_o (by omega) (by omega)]; exact t2
    · rw [h2 184 (by omega) (by omega), hRm_o (by omega) (by omega)]; exact t4 k hk
end
section
/-! THE OPS of the class, one by one, by the ghost. What they share -/
theorem in_rng {x : Int32} {n : Nat} (hn : n + 1 < 1000000) (h1 : ¬ x < 0) (h2 : ¬ nI n < x) : ∃ k, k ≤ n ∧ x = nI k := by
  rcases sp_cases x (n := n + 1) (by omega) with ⟨k, hk, rfl⟩ | q | q
  · exact ⟨k, by omega, rfl⟩
  · exact absurd q h1
  · refine absurd ?_ h2
    rw [Int32.lt_iff_toInt_lt, nI_toInt (by omega)]
    rw [Int32.le_iff_toInt_le, nI_toInt (by omega)] at q
    omega
theorem E_in (z : Nat) {as : List Value} {h : mH} {Q : Option Value → mH → Prop} : EvM z as h Q = Ev z (mB z 0) (as ++ List.replicate (mN z - as.length) .null) [] h Q := rfl
theorem s_no {I : Nat → Nat → Int32} {a k b : Nat} {x : Int32} (h : b ≠ a) : mSet I a k x b = I b := by
  funext j; exact if_neg (fun q => h q.1)
theorem s_row {I : Nat → Nat → Int32} {a k : Nat} {x : Int32} : mSet I a k x a = vU (I a) k x := by
  funext j
  simp [mSet, vU]
theorem hRm_w {I : Nat → Nat → Int32} {q n x : Nat} (h : x < 33 + 30 * q ∨ 33 + 30 * q + 30 ≤ x) (h2 : x ≠ 31) : hRm I q n x = I x := by
  funext j; exact hRm_o h h2
/-- cells that nobody looks at between the calls: 185 and on -/
def SCR (I J : Nat → Nat → Int32) : Prop := ∀ x, x < 185 → J x = I x
theorem SCR_id {I : Nat → Nat → Int32} : SCR I I := fun _ _ => rfl
theorem SCR_tr {I J L : Nat → Nat → Int32} (h : SCR I J) (h2 : SCR J L) : SCR I L := fun x hx => by rw [h2 x hx, h x hx]
theorem REL_scr {K : mK} {R : Nat → Nat → Option Nat} {I J : Nat → Nat → Int32} {v H T : Nat → Int32} {n t : Nat} (h : REL K R I v n H t T) (hs : SCR I J) : REL K R J v n H t T := by
  obtain ⟨f, g, hv, hn2, hn, hH, hP, t1, t2, t4⟩ := h
  have z4 := g.2.2.1.2.2.2.2.1
  refine ⟨f, g, RC_out hv (fun x x1 x2 => hs x (by omega)), hn2, ?_, ?_, ?_, t1, ?_, ?_⟩
  · rw [hs 31 (by omega)]; exact hn
  · intro j hj
    have := z4 j (by omega)
    exact RC_out (hH j hj) (fun x x1 x2 => hs x (by omega))
  · rw [hs 0 (by omega)]; exact hP
  · rw [hs 183 (by omega)]; exact t2
  · rw [hs 184 (by omega)]; exact t4
/-- a call that answers x and leaves the cells that count -/
def QO (c : Nat) (as : List Value) (K : mK) (R : Nat → Nat → Option Nat) (I : Nat → Nat → Int32) (x : Int32) : Prop := ∃ I1, EvM c (.ref 0 :: as) (K, R, I) (fun w k => w = some (.int x) ∧ k = (K, R, I1)) ∧ SCR I I1
/-- a call that answers x and leaves the ghost behind -/
def AO (c : Nat) (as : List Value) (K : mK) (R : Nat → Nat → Option Nat) (I : Nat → Nat → Int32) (x : Int32) (v : Nat → Int32) (n : Nat) (H : Nat → Int32) (t : Nat) (T : Nat → Int32) : Prop := ∃ R1 I1, EvM c (.ref 0 :: as) (K, R, I) (fun w k => w = some (.int x) ∧ k = (K, R1, I1)) ∧ REL K R1 I1 v n H t T
theorem QO_AO {c : Nat} {as : List Value} {K : mK} {R : Nat → Nat → Option Nat} {I : Nat → Nat → Int32} {x : Int32} {v H T : Nat → Int32} {n t : Nat} (h : REL K R I v n H t T) (q : QO c as K R I x) : AO c as K R I x v n H t T := by
  obtain ⟨I1, q1, q2⟩ := q
  exact ⟨R, I1, q1, REL_scr h q2⟩
/-- the log of the state 1 -/
def rL (I : Nat → Nat → Int32) (v : Nat → Int32) : Prop := ∃ n, n ≤ 10 ∧ I 3 3 = nI n ∧ v 595 = nI n ∧ ∀ e, e < n → I 4 e = v (596 + 3 * e) ∧ I 5 e = v (597 + 3 * e) ∧ I 6 e = v (598 + 3 * e)
theorem lAd_o {I : Nat → Nat → Int32} {a n x j : Nat} {kd sp nu : Int32} (h : ¬ (x = a ∧ j = 3) ∧ x ≠ a + 1 ∧ x ≠ a + 2 ∧ x ≠ a + 3) : lAd I a n kd sp nu x j = I x j := by
  obtain ⟨h1, h2, h3, h4⟩ := h
  by_cases e : n = 10 <;> simp (disch := omega) only [lAd, if_pos, if_neg, e, if_true, if_false]
theorem rL_add {I : Nat → Nat → Int32} {v : Nat → Int32} {n : Nat} {kd sp nu : Int32} (hn : n ≤ 10) (h3 : I 3 3 = nI n) (hv : v 595 = nI n) (he : ∀ e, e < n → I 4 e = v (596 + 3 * e) ∧ I 5 e = v (597 + 3 * e) ∧ I 6 e = v (598 + 3 * e)) : rL (lAd I 3 n kd sp nu) (vTl v n kd sp nu) := by
  by_cases e : n = 10
  · subst e
    refine ⟨10, Nat.le_refl _, by simp [lAd], by simp [vTl]; exact hv, fun e he2 => ?_⟩
    by_cases c : e = 9
    · subst c; simp [lAd, vTl]
    · have := he (e + 1) (by omega)
      have c2 : e < 9 := by omega
      simp (disch := omega) only [lAd, vTl, if_pos, if_neg]
      rw [show 596 + 3 * e + 3 = 596 + 3 * (e + 1) by omega, show 597 + 3 * e + 3 = 597 + 3 * (e + 1) by omega, show 598 + 3 * e + 3 = 598 + 3 * (e + 1) by omega]
      exact this
  · refine ⟨n + 1, by omega, ?_, ?_, fun e1 he2 => ?_⟩
    · simp [lAd, e]
    · unfold vTl
      rw [if_neg e, if_neg (by omega), if_neg (by omega), if_neg (by omega), if_pos rfl]
    · by_cases c : e1 = n
      · subst c
        simp (disch := omega) only [lAd, vTl, if_pos, if_neg]
        exact ⟨rfl, rfl, rfl⟩
      · have := he e1 (by omega)
        simp (disch := omega) only [lAd, vTl, if_pos, if_neg]
        exact this
/-- the state 1 with some wires changed -/
theorem RC_upd {I I2 : Nat → Nat → Int32} {v v' : Nat → Int32} (ch : Nat → Prop) (h : RC I 1 v) (hs : ∀ s, s < 6 → ch s → ∃ p cl c, rW I2 (7 + 4 * s) v' s p cl c) (ho : ∀ s, s < 6 → ¬ ch s → (∀ d, d < 4 → I2 (7 + 4 * s + d) = I (7 + 4 * s + d)) ∧ (∀ x, 98 * s ≤ x → x < 98 * s + 98 → v' x = v x)) (hE : rE I2 1 v') : RC I2 1 v' := by
  refine ⟨fun s hs1 => ?_, hE⟩
  rw [show 1 + 6 + 4 * s = 7 + 4 * s by omega]
  by_cases c : ch s
  · exact hs s hs1 c
  · obtain ⟨p, cl, c2, hw⟩ := h.1 s hs1
    rw [show 1 + 6 + 4 * s = 7 + 4 * s by omega] at hw
    exact ⟨p, cl, c2, rW_cong hw (fun d j hd _ _ => by rw [(ho s hs1 c).1 d hd]) (ho s hs1 c).2⟩
theorem rE_mk {I : Nat → Nat → Int32} {v : Nat → Int32} (h1 : I 1 2 = v 588) (h2 : I 1 3 = v 589) (h3 : I 1 4 = v 590) (h4 : I 1 5 = v 591) (h5 : I 1 6 = v 592) (h6 : I 1 7 = v 593) (h7 : I 1 8 = v 594) (h8 : ∃ ru, ru ≤ 2 ∧ v 588 = nI ru) (h9 : ∃ lm, 101 ≤ lm ∧ lm ≤ 200 ∧ v 589 = nI lm) (hL : rL I v) : rE I 1 v := ⟨h1, h2, h3, h4, h5, h6, h7, h8, h9, hL⟩
/-! a spool's number, or none -/
theorem m_isSp {s : Nat} {h : mH} {Q : Option Value → mH → Prop} (hs : s < 6) : EvM 81 [.int (nI s)] h Q ↔ Q (some (.int 1)) h := by
  rw [m_isSpool, if_neg (n_ne0 (by omega)), if_neg (by rw [show (6 : Int32) = nI 6 from rfl, n_le (by omega) (by omega)]; omega)]
theorem m_noSp {x : Int32} {h : mH} {Q : Option Value → mH → Prop} (q : x < 0 ∨ nI 6 ≤ x) : EvM 81 [.int x] h Q ↔ Q (some (.int 0)) h := by
  rw [m_isSpool]
  by_cases c : x < 0
  · rw [if_pos c]
  · have q2 : (6 : Int32) ≤ x := by
      rcases q with q | q
      · exact absurd q c
      · exact q
    rw [if_neg c, if_pos q2]
/-! the numbers of a wire in the ghost -/
def gp (v : Nat → Int32) (s : Nat) : Nat := (v (98 * s)).toNatClampNeg
def gl (v : Nat → Int32) (s : Nat) : Nat := (v (98 * s + 1)).toNatClampNeg
def gc (v : Nat → Int32) (s : Nat) : Nat := (v (98 * s + 2)).toNatClampNeg
def gn (v : Nat → Int32) (s : Nat) : Nat := gc v s + 1 + gl v s
def gln (v : Nat → Int32) : Nat := (v 595).toNatClampNeg
theorem g_vF {v : Nat → Int32} {s p cl c : Nat} (h : vF v s p cl c) : gp v s = p ∧ gl v s = cl ∧ gc v s = c := by
  obtain ⟨h1, h2, h3, h4, h5, h6⟩ := h
  unfold gp gl gc
  rw [h1, h2, h3]
  exact ⟨n_cl (by omega), n_cl (by omega), n_cl (by omega)⟩
end
section
/-! THE RULE AND THE LIMIT -/
/-- the class's state 1 with one number changed -/
theorem RC_num {I : Nat → Nat → Int32} {v : Nat → Int32} {q n k b : Nat} {x : Int32} (hv : RC I 1 v) (hk : (k = 2 ∧ b = 588 ∧ ∃ m, m ≤ 2 ∧ x = nI m) ∨ (k = 3 ∧ b = 589 ∧ ∃ m, 101 ≤ m ∧ m ≤ 200 ∧ x = nI m)) : RC (mSet (hRm I q n) 1 k x) 1 (vU v b x) := by
  have e0 : ∀ y j, y < 31 → hRm I q n y j = I y j := fun y j hy => hRm_o (by omega) (by omega)
  refine ⟨fun s hs => ?_, ?_⟩
  · obtain ⟨p, cl, c, hw⟩ := hv.1 s hs
    exact ⟨p, cl, c, rW_cong hw (fun d j hd _ _ => by rw [s_ne (by omega), e0 _ _ (by omega)]) (fun y y1 y2 => u_ne (by omega))⟩
  · obtain ⟨h1, h2, h3, h4, h5, h6, h7, h8, h9, m, h13, h14, h15, h16⟩ := hv.2
    have fin : ∃ n_1, n_1 ≤ 10 ∧ mSet (hRm I q n) 1 k x (1 + 2) 3 = nI n_1 ∧ vU v b x 595 = nI n_1 ∧ ∀ e, e < n_1 → mSet (hRm I q n) 1 k x (1 + 3) e = vU v b x (596 + 3 * e) ∧ mSet (hRm I q n) 1 k x (1 + 4) e = vU v b x (597 + 3 * e) ∧ mSet (hRm I q n) 1 k x (1 + 5) e = vU v b x (598 + 3 * e) := by
      refine ⟨m, h13, ?_, ?_, fun e he => ?_⟩
      · rw [s_ne (by omega), e0 _ _ (by omega)]; exact h14
      · rw [u_ne (by omega)]; exact h15
      · rw [s_ne (by omega), s_ne (by omega), s_ne (by omega), e0 _ _ (by omega), e0 _ _ (by omega), e0 _ _ (by omega), u_ne (by omega), u_ne (by omega), u_ne (by omega)]
        exact h16 e he
    rcases hk with ⟨rfl, rfl, hx⟩ | ⟨rfl, rfl, hx⟩
    · refine ⟨by rw [s_eq, u_eq], ?_, ?_, ?_, ?_, ?_, ?_, by rw [u_eq]; exact hx, by rw [u_ne (by omega)]; exact h9, fin⟩
      · rw [s_ne (by omega), e0 _ _ (by omega), u_ne (by omega)]; exact h2
      · rw [s_ne (by omega), e0 _ _ (by omega), u_ne (by omega)]; exact h3
      · rw [s_ne (by omega), e0 _ _ (by omega), u_ne (by omega)]; exact h4
      · rw [s_ne (by omega), e0 _ _ (by omega), u_ne (by omega)]; exact h5
      · rw [s_ne (by omega), e0 _ _ (by omega), u_ne (by omega)]; exact h6
      · rw [s_ne (by omega), e0 _ _ (by omega), u_ne (by omega)]; exact h7
    · refine ⟨?_, by rw [s_eq, u_eq], ?_, ?_, ?_, ?_, ?_, by rw [u_ne (by omega)]; exact h8, by rw [u_eq]; exact hx, fin⟩
      · rw [s_ne (by omega), e0 _ _ (by omega), u_ne (by omega)]; exact h1
      · rw [s_ne (by omega), e0 _ _ (by omega), u_ne (by omega)]; exact h3
      · rw [s_ne (by omega), e0 _ _ (by omega), u_ne (by omega)]; exact h4
      · rw [s_ne (by omega), e0 _ _ (by omega), u_ne (by omega)]; exact h5
      · rw [s_ne (by omega), e0 _ _ (by omega), u_ne (by omega)]; exact h6
      · rw [s_ne (by omega), e0 _ _ (by omega), u_ne (by omega)]; exact h7
theorem in_rng2 {x : Int32} {a n : Nat} (hn : n + 1 < 1000000) (ha : a < 1000000) (h1 : ¬ x < nI a) (h2 : ¬ nI n < x) : ∃ k, a ≤ k ∧ k ≤ n ∧ x = nI k := by
  have h0 : ¬ x < 0 := by
    intro h
    apply h1
    rw [Int32.lt_iff_toInt_lt] at h ⊢
    rw [nI_toInt (by omega)]
    rw [Int32.toInt_zero] at h
    omega
  obtain ⟨k, k1, rfl⟩ := in_rng hn h0 h2
  refine ⟨k, ?_, k1, rfl⟩
  rw [n_lt (by omega) (by omega)] at h1
  omega
set_option maxHeartbeats 4000000 in
theorem q_setRule {K : mK} {R : Nat → Nat → Option Nat} {I : Nat → Nat → Int32} {v H T : Nat → Int32} {n t : Nat} (hrel : REL K R I v n H t T) (k : Nat) (hk3 : k ≤ 3) :
    if k = 3 then QO 59 [.int (nI k)] K R I (-2) else if v 588 = nI k then QO 59 [.int (nI k)] K R I (-5) else AO 59 [.int (nI k)] K R I (v 588) (vU v 588 (nI k)) (nTu n) (vRec H v n) t T := by
  obtain ⟨f, g, hv, hn2, hn, hH, hP, hT⟩ := id hrel
  have q4 := qTu_lt g hn2
  obtain ⟨gs, -, gh, gw, gr, gr', ⟨a0, a1, a2, a3, a4, a5, a6, a7, a8⟩, ⟨b0, b1, b2⟩, cc0⟩ := id g
  have gs0 : K.2.2.1 1 = (1, 4) := gs.1
  have gs1 : R 1 0 = some 2 := gs.2.1
  have gs2 : K.2.2.1 2 = (4, 6) := gs.2.2.1
  have gs3 : R 1 1 = some 3 := gs.2.2.2.1
  have gs4 : zL K R 3 := gs.2.2.2.2.1
  have gW : ∀ s, s < 6 → zW K R (7 + 4 * s) := fun s hs => (gs.2.2.2.2.2.2 s hs).2
  have gR : ∀ s, s < 6 → R 2 s = some (7 + 4 * s) := fun s hs => (gs.2.2.2.2.2.2 s hs).1
  have gh0 := gh.1
  have gsl : K.2.2.1 3 = (1, 2) := gs4.1
  have gT := zG_tu (n := n) g
  have gst : zS K (RTu R n) 1 := gT.1
  have gt1 : RTu R n 1 0 = some 2 := gst.2.1
  have gt3 : RTu R n 1 1 = some 3 := gst.2.2.2.1
  have gt4 : zL K (RTu R n) 3 := gst.2.2.2.2.1
  have gWt : ∀ s, s < 6 → zW K (RTu R n) (7 + 4 * s) := fun s hs => (gst.2.2.2.2.2.2 s hs).2
  have gRt : ∀ s, s < 6 → RTu R n 2 s = some (7 + 4 * s) := fun s hs => (gst.2.2.2.2.2.2 s hs).1
  obtain ⟨-, a1t, a2t, a3t, a4t, a5t, a6t, a7t, a8t⟩ := gT.2.2.2.2.2.2.1
  have h588 := hv.2.1
  obtain ⟨ru, ru1, ru2⟩ := hv.2.2.2.2.2.2.2.2.1
  rw [ru2] at h588 ⊢
  by_cases c3 : k = 3
  · rw [if_pos c3]
    subst c3
    refine ⟨I, ?_, SCR_id⟩
    simp (disch := omega) only [e_iconst, e_bipush, e_sipush, e_iload_n, e_iload, e_aload_n, e_aload, e_istore_n, e_istore, e_astore_n, e_astore, e_iinc, e_iadd, e_isub, e_imul, e_iand, e_ishr, e_idiv, e_i2c, e_dup_i, e_dup_r, e_dup2, e_pop, e_goto, e_nop, e_if_eq, e_if_ne, e_if_lt, e_if_ge, e_if_gt, e_if_le, e_icmp_eq, e_icmp_ne, e_icmp_lt, e_icmp_ge, e_icmp_gt, e_icmp_le, e_tsw, e_ret0, e_ret1, e_retn, e_getI, e_getZ, e_getR, e_getV, e_getC, e_putI, e_putZ, e_putF, e_gst0, e_gst1, e_sld, e_iald, e_cald, e_bald, e_iast, e_cast, e_aald, e_aast, e_alen, e_slen, e_blen, e_newa, e_newq, e_new, e_oinit, e_ctor, e_virt, e_stat, e_min, e_copy, e_ldc, List.cons_append, List.nil_append, List.append_nil, List.length_cons, List.length_nil, List.replicate_succ, List.replicate_zero, List.getElem?_cons_zero, List.getElem?_cons_succ, List.set_cons_zero, List.set_cons_succ, List.take_succ_cons, List.take_zero, List.drop_succ_cons, List.drop_zero, List.reverse_cons, List.reverse_nil, Option.toList_some, Option.toList_none, Nat.reduceSub, Nat.reduceAdd, Nat.reduceLeDiff, true_and, and_true, and_self, Option.some.injEq, exists_eq_left', Nat.zero_add, Value.int.injEq, Value.ref.injEq, List.cons.injEq, exists_and_left, and_assoc, exists_eq_left, List.all_cons, List.all_nil, m1_i, m1_r, Bool.and_self, Bool.and_true, E_in 59, N_59, B_59_0, bk_59_0, B_59_9, bk_59_9, n_ne0, o_le_l, if_neg, if_pos, if_neg, not_true_eq_false, not_false_eq_true, or_true, true_or, or_false, false_or, false_and, and_false, Nat.reduceEqDiff, Nat.reduceLT, Nat.reduceMul, Nat.not_lt_zero, Nat.zero_le, Nat.le_refl, ne_eq, reduceIte, reduceCtorEq]
  rw [if_neg c3]
  by_cases c4 : ru = k
  · subst c4
    rw [if_pos rfl]
    refine ⟨I, ?_, SCR_id⟩
    simp (disch := omega) only [e_iconst, e_bipush, e_sipush, e_iload_n, e_iload, e_aload_n, e_aload, e_istore_n, e_istore, e_astore_n, e_astore, e_iinc, e_iadd, e_isub, e_imul, e_iand, e_ishr, e_idiv, e_i2c, e_dup_i, e_dup_r, e_dup2, e_pop, e_goto, e_nop, e_if_eq, e_if_ne, e_if_lt, e_if_ge, e_if_gt, e_if_le, e_icmp_eq, e_icmp_ne, e_icmp_lt, e_icmp_ge, e_icmp_gt, e_icmp_le, e_tsw, e_ret0, e_ret1, e_retn, e_getI, e_getZ, e_getR, e_getV, e_getC, e_putI, e_putZ, e_putF, e_gst0, e_gst1, e_sld, e_iald, e_cald, e_bald, e_iast, e_cast, e_aald, e_aast, e_alen, e_slen, e_blen, e_newa, e_newq, e_new, e_oinit, e_ctor, e_virt, e_stat, e_min, e_copy, e_ldc, List.cons_append, List.nil_append, List.append_nil, List.length_cons, List.length_nil, List.replicate_succ, List.replicate_zero, List.getElem?_cons_zero, List.getElem?_cons_succ, List.set_cons_zero, List.set_cons_succ, List.take_succ_cons, List.take_zero, List.drop_succ_cons, List.drop_zero, List.reverse_cons, List.reverse_nil, Option.toList_some, Option.toList_none, Nat.reduceSub, Nat.reduceAdd, Nat.reduceLeDiff, true_and, and_true, and_self, Option.some.injEq, exists_eq_left', Nat.zero_add, Value.int.injEq, Value.ref.injEq, List.cons.injEq, exists_and_left, and_assoc, exists_eq_left, List.all_cons, List.all_nil, m1_i, m1_r, Bool.and_self, Bool.and_true, E_in 59, N_59, B_59_0, bk_59_0, B_59_12, bk_59_12, n_ne0, o_le_l, if_pos, a0, a1, gs0, h588, if_pos, if_neg, not_true_eq_false, not_false_eq_true, or_true, true_or, or_false, false_or, false_and, and_false, Nat.reduceEqDiff, Nat.reduceLT, Nat.reduceMul, Nat.not_lt_zero, Nat.zero_le, Nat.le_refl, ne_eq, reduceIte, reduceCtorEq]
  · rw [if_neg (by rw [n_eq (by omega) (by omega)]; exact c4)]
    refine ⟨RTu R n, mSet (hRm I (qTu f n) n) 1 2 (nI k), ?_, ?_⟩
    · simp (disch := omega) only [e_iconst, e_bipush, e_sipush, e_iload_n, e_iload, e_aload_n, e_aload, e_istore_n, e_istore, e_astore_n, e_astore, e_iinc, e_iadd, e_isub, e_imul, e_iand, e_ishr, e_idiv, e_i2c, e_dup_i, e_dup_r, e_dup2, e_pop, e_goto, e_nop, e_if_eq, e_if_ne, e_if_lt, e_if_ge, e_if_gt, e_if_le, e_icmp_eq, e_icmp_ne, e_icmp_lt, e_icmp_ge, e_icmp_gt, e_icmp_le, e_tsw, e_ret0, e_ret1, e_retn, e_getI, e_getZ, e_getR, e_getV, e_getC, e_putI, e_putZ, e_putF, e_gst0, e_gst1, e_sld, e_iald, e_cald, e_bald, e_iast, e_cast, e_aald, e_aast, e_alen, e_slen, e_blen, e_newa, e_newq, e_new, e_oinit, e_ctor, e_virt, e_stat, e_min, e_copy, e_ldc, List.cons_append, List.nil_append, List.append_nil, List.length_cons, List.length_nil, List.replicate_succ, List.replicate_zero, List.getElem?_cons_zero, List.getElem?_cons_succ, List.set_cons_zero, List.set_cons_succ, List.take_succ_cons, List.take_zero, List.drop_succ_cons, List.drop_zero, List.reverse_cons, List.reverse_nil, Option.toList_some, Option.toList_none, Nat.reduceSub, Nat.reduceAdd, Nat.reduceLeDiff, true_and, and_true, and_self, Option.some.injEq, exists_eq_left', Nat.zero_add, Value.int.injEq, Value.ref.injEq, List.cons.injEq, exists_and_left, and_assoc, exists_eq_left, List.all_cons, List.all_nil, m1_i, m1_r, Bool.and_self, Bool.and_true, E_in 59, N_59, B_59_0, bk_59_0, B_59_12, bk_59_12, n_ne0, o_le_l, if_pos, a0, a1, gs0, h588, n_eq, c4, Ne.symm c4, if_pos, if_neg, not_true_eq_false, not_false_eq_true, or_true, true_or, or_false, false_or, false_and, and_false, Nat.reduceEqDiff, Nat.reduceLT, Nat.reduceMul, Nat.not_lt_zero, Nat.zero_le, Nat.le_refl, ne_eq, reduceIte, reduceCtorEq]
      rw [B_59_28]
      simp (disch := omega) only [e_iconst, e_bipush, e_sipush, e_iload_n, e_iload, e_aload_n, e_aload, e_istore_n, e_istore, e_astore_n, e_astore, e_iinc, e_iadd, e_isub, e_imul, e_iand, e_ishr, e_idiv, e_i2c, e_dup_i, e_dup_r, e_dup2, e_pop, e_goto, e_nop, e_if_eq, e_if_ne, e_if_lt, e_if_ge, e_if_gt, e_if_le, e_icmp_eq, e_icmp_ne, e_icmp_lt, e_icmp_ge, e_icmp_gt, e_icmp_le, e_tsw, e_ret0, e_ret1, e_retn, e_getI, e_getZ, e_getR, e_getV, e_getC, e_putI, e_putZ, e_putF, e_gst0, e_gst1, e_sld, e_iald, e_cald, e_bald, e_iast, e_cast, e_aald, e_aast, e_alen, e_slen, e_blen, e_newa, e_newq, e_new, e_oinit, e_ctor, e_virt, e_stat, e_min, e_copy, e_ldc, List.cons_append, List.nil_append, List.append_nil, List.length_cons, List.length_nil, List.replicate_succ, List.replicate_zero, List.getElem?_cons_zero, List.getElem?_cons_succ, List.set_cons_zero, List.set_cons_succ, List.take_succ_cons, List.take_zero, List.drop_succ_cons, List.drop_zero, List.reverse_cons, List.reverse_nil, Option.toList_some, Option.toList_none, Nat.reduceSub, Nat.reduceAdd, Nat.reduceLeDiff, true_and, and_true, and_self, Option.some.injEq, exists_eq_left', Nat.zero_add, Value.int.injEq, Value.ref.injEq, List.cons.injEq, exists_and_left, and_assoc, exists_eq_left, List.all_cons, List.all_nil, m1_i, m1_r, Bool.and_self, Bool.and_true, bk_59_28, C_9, a_remember g hv hn hn2, a0, a1, a2, a1t, gs0, gh0, if_pos, if_neg, not_true_eq_false, not_false_eq_true, or_true, true_or, or_false, false_or, false_and, and_false, Nat.reduceEqDiff, Nat.reduceLT, Nat.reduceMul, Nat.not_lt_zero, Nat.zero_le, Nat.le_refl, ne_eq, reduceIte, reduceCtorEq]
    · exact REL_act g hv hn2 hH hP hT (fun x x1 x2 => s_no (by omega)) (by rw [s_no (by omega), hRm_w (by omega) (by omega)]) (RC_num hv (Or.inl ⟨rfl, rfl, k, by omega, rfl⟩))
set_option maxHeartbeats 4000000 in
theorem q_setLimit {K : mK} {R : Nat → Nat → Option Nat} {I : Nat → Nat → Int32} {v H T : Nat → Int32} {n t : Nat} (hrel : REL K R I v n H t T) (k : Nat) (hk0 : 100 ≤ k) (hk3 : k ≤ 201) :
    if k = 100 ∨ k = 201 then QO 60 [.int (nI k)] K R I (-2) else if v 589 = nI k then QO 60 [.int (nI k)] K R I (-5) else AO 60 [.int (nI k)] K R I (v 589) (vU v 589 (nI k)) (nTu n) (vRec H v n) t T := by
  obtain ⟨f, g, hv, hn2, hn, hH, hP, hT⟩ := id hrel
  have q4 := qTu_lt g hn2
  obtain ⟨gs, -, gh, gw, gr, gr', ⟨a0, a1, a2, a3, a4, a5, a6, a7, a8⟩, ⟨b0, b1, b2⟩, cc0⟩ := id g
  have gs0 : K.2.2.1 1 = (1, 4) := gs.1
  have gs1 : R 1 0 = some 2 := gs.2.1
  have gs2 : K.2.2.1 2 = (4, 6) := gs.2.2.1
  have gs3 : R 1 1 = some 3 := gs.2.2.2.1
  have gs4 : zL K R 3 := gs.2.2.2.2.1
  have gW : ∀ s, s < 6 → zW K R (7 + 4 * s) := fun s hs => (gs.2.2.2.2.2.2 s hs).2
  have gR : ∀ s, s < 6 → R 2 s = some (7 + 4 * s) := fun s hs => (gs.2.2.2.2.2.2 s hs).1
  have gh0 := gh.1
  have gsl : K.2.2.1 3 = (1, 2) := gs4.1
  have gT := zG_tu (n := n) g
  have gst : zS K (RTu R n) 1 := gT.1
  have gt1 : RTu R n 1 0 = some 2 := gst.2.1
  have gt3 : RTu R n 1 1 = some 3 := gst.2.2.2.1
  have gt4 : zL K (RTu R n) 3 := gst.2.2.2.2.1
  have gWt : ∀ s, s < 6 → zW K (RTu R n) (7 + 4 * s) := fun s hs => (gst.2.2.2.2.2.2 s hs).2
  have gRt : ∀ s, s < 6 → RTu R n 2 s = some (7 + 4 * s) := fun s hs => (gst.2.2.2.2.2.2 s hs).1
  obtain ⟨-, a1t, a2t, a3t, a4t, a5t, a6t, a7t, a8t⟩ := gT.2.2.2.2.2.2.1
  have h589 := hv.2.2.1
  obtain ⟨ru, ru0, ru1, ru2⟩ := hv.2.2.2.2.2.2.2.2.2.1
  rw [ru2] at h589 ⊢
  by_cases c3 : k = 100 ∨ k = 201
  · rw [if_pos c3]
    refine ⟨I, ?_, SCR_id⟩
    rcases c3 with rfl | rfl
    · simp (disch := omega) only [e_iconst, e_bipush, e_sipush, e_iload_n, e_iload, e_aload_n, e_aload, e_istore_n, e_istore, e_astore_n, e_astore, e_iinc, e_iadd, e_isub, e_imul, e_iand, e_ishr, e_idiv, e_i2c, e_dup_i, e_dup_r, e_dup2, e_pop, e_goto, e_nop, e_if_eq, e_if_ne, e_if_lt, e_if_ge, e_if_gt, e_if_le, e_icmp_eq, e_icmp_ne, e_icmp_lt, e_icmp_ge, e_icmp_gt, e_icmp_le, e_tsw, e_ret0, e_ret1, e_retn, e_getI, e_getZ, e_getR, e_getV, e_getC, e_putI, e_putZ, e_putF, e_gst0, e_gst1, e_sld, e_iald, e_cald, e_bald, e_iast, e_cast, e_aald, e_aast, e_alen, e_slen, e_blen, e_newa, e_newq, e_new, e_oinit, e_ctor, e_virt, e_stat, e_min, e_copy, e_ldc, List.cons_append, List.nil_append, List.append_nil, List.length_cons, List.length_nil, List.replicate_succ, List.replicate_zero, List.getElem?_cons_zero, List.getElem?_cons_succ, List.set_cons_zero, List.set_cons_succ, List.take_succ_cons, List.take_zero, List.drop_succ_cons, List.drop_zero, List.reverse_cons, List.reverse_nil, Option.toList_some, Option.toList_none, Nat.reduceSub, Nat.reduceAdd, Nat.reduceLeDiff, true_and, and_true, and_self, Option.some.injEq, exists_eq_left', Nat.zero_add, Value.int.injEq, Value.ref.injEq, List.cons.injEq, exists_and_left, and_assoc, exists_eq_left, List.all_cons, List.all_nil, m1_i, m1_r, Bool.and_self, Bool.and_true, E_in 60, N_60, B_60_0, bk_60_0, B_60_13, bk_60_13, o_lt_l, o_le_l, if_pos, if_neg, if_pos, if_neg, not_true_eq_false, not_false_eq_true, or_true, true_or, or_false, false_or, false_and, and_false, Nat.reduceEqDiff, Nat.reduceLT, Nat.reduceMul, Nat.not_lt_zero, Nat.zero_le, Nat.le_refl, ne_eq, reduceIte, reduceCtorEq]
    · simp (disch := omega) only [e_iconst, e_bipush, e_sipush, e_iload_n, e_iload, e_aload_n, e_aload, e_istore_n, e_istore, e_astore_n, e_astore, e_iinc, e_iadd, e_isub, e_imul, e_iand, e_ishr, e_idiv, e_i2c, e_dup_i, e_dup_r, e_dup2, e_pop, e_goto, e_nop, e_if_eq, e_if_ne, e_if_lt, e_if_ge, e_if_gt, e_if_le, e_icmp_eq, e_icmp_ne, e_icmp_lt, e_icmp_ge, e_icmp_gt, e_icmp_le, e_tsw, e_ret0, e_ret1, e_retn, e_getI, e_getZ, e_getR, e_getV, e_getC, e_putI, e_putZ, e_putF, e_gst0, e_gst1, e_sld, e_iald, e_cald, e_bald, e_iast, e_cast, e_aald, e_aast, e_alen, e_slen, e_blen, e_newa, e_newq, e_new, e_oinit, e_ctor, e_virt, e_stat, e_min, e_copy, e_ldc, List.cons_append, List.nil_append, List.append_nil, List.length_cons, List.length_nil, List.replicate_succ, List.replicate_zero, List.getElem?_cons_zero, List.getElem?_cons_succ, List.set_cons_zero, List.set_cons_succ, List.take_succ_cons, List.take_zero, List.drop_succ_cons, List.drop_zero, List.reverse_cons, List.reverse_nil, Option.toList_some, Option.toList_none, Nat.reduceSub, Nat.reduceAdd, Nat.reduceLeDiff, true_and, and_true, and_self, Option.some.injEq, exists_eq_left', Nat.zero_add, Value.int.injEq, Value.ref.injEq, List.cons.injEq, exists_and_left, and_assoc, exists_eq_left, List.all_cons, List.all_nil, m1_i, m1_r, Bool.and_self, Bool.and_true, E_in 60, N_60, B_60_0, bk_60_0, B_60_13, bk_60_13, o_lt_l, o_le_l, if_pos, if_neg, if_pos, if_neg, not_true_eq_false, not_false_eq_true, or_true, true_or, or_false, false_or, false_and, and_false, Nat.reduceEqDiff, Nat.reduceLT, Nat.reduceMul, Nat.not_lt_zero, Nat.zero_le, Nat.le_refl, ne_eq, reduceIte, reduceCtorEq]
  rw [if_neg c3]
  by_cases c4 : ru = k
  · subst c4
    rw [if_pos rfl]
    refine ⟨I, ?_, SCR_id⟩
    simp (disch := omega) only [e_iconst, e_bipush, e_sipush, e_iload_n, e_iload, e_aload_n, e_aload, e_istore_n, e_istore, e_astore_n, e_astore, e_iinc, e_iadd, e_isub, e_imul, e_iand, e_ishr, e_idiv, e_i2c, e_dup_i, e_dup_r, e_dup2, e_pop, e_goto, e_nop, e_if_eq, e_if_ne, e_if_lt, e_if_ge, e_if_gt, e_if_le, e_icmp_eq, e_icmp_ne, e_icmp_lt, e_icmp_ge, e_icmp_gt, e_icmp_le, e_tsw, e_ret0, e_ret1, e_retn, e_getI, e_getZ, e_getR, e_getV, e_getC, e_putI, e_putZ, e_putF, e_gst0, e_gst1, e_sld, e_iald, e_cald, e_bald, e_iast, e_cast, e_aald, e_aast, e_alen, e_slen, e_blen, e_newa, e_newq, e_new, e_oinit, e_ctor, e_virt, e_stat, e_min, e_copy, e_ldc, List.cons_append, List.nil_append, List.append_nil, List.length_cons, List.length_nil, List.replicate_succ, List.replicate_zero, List.getElem?_cons_zero, List.getElem?_cons_succ, List.set_cons_zero, List.set_cons_succ, List.take_succ_cons, List.take_zero, List.drop_succ_cons, List.drop_zero, List.reverse_cons, List.reverse_nil, Option.toList_some, Option.toList_none, Nat.reduceSub, Nat.reduceAdd, Nat.reduceLeDiff, true_and, and_true, and_self, Option.some.injEq, exists_eq_left', Nat.zero_add, Value.int.injEq, Value.ref.injEq, List.cons.injEq, exists_and_left, and_assoc, exists_eq_left, List.all_cons, List.all_nil, m1_i, m1_r, Bool.and_self, Bool.and_true, E_in 60, N_60, B_60_0, bk_60_0, B_60_16, bk_60_16, o_lt_l, o_le_l, if_pos, if_neg, a0, a1, gs0, h589, if_pos, if_neg, not_true_eq_false, not_false_eq_true, or_true, true_or, or_false, false_or, false_and, and_false, Nat.reduceEqDiff, Nat.reduceLT, Nat.reduceMul, Nat.not_lt_zero, Nat.zero_le, Nat.le_refl, ne_eq, reduceIte, reduceCtorEq]
  · rw [if_neg (by rw [n_eq (by omega) (by omega)]; exact c4)]
    refine ⟨RTu R n, mSet (hRm I (qTu f n) n) 1 3 (nI k), ?_, ?_⟩
    · simp (disch := omega) only [e_iconst, e_bipush, e_sipush, e_iload_n, e_iload, e_aload_n, e_aload, e_istore_n, e_istore, e_astore_n, e_astore, e_iinc, e_iadd, e_isub, e_imul, e_iand, e_ishr, e_idiv, e_i2c, e_dup_i, e_dup_r, e_dup2, e_pop, e_goto, e_nop, e_if_eq, e_if_ne, e_if_lt, e_if_ge, e_if_gt, e_if_le, e_icmp_eq, e_icmp_ne, e_icmp_lt, e_icmp_ge, e_icmp_gt, e_icmp_le, e_tsw, e_ret0, e_ret1, e_retn, e_getI, e_getZ, e_getR, e_getV, e_getC, e_putI, e_putZ, e_putF, e_gst0, e_gst1, e_sld, e_iald, e_cald, e_bald, e_iast, e_cast, e_aald, e_aast, e_alen, e_slen, e_blen, e_newa, e_newq, e_new, e_oinit, e_ctor, e_virt, e_stat, e_min, e_copy, e_ldc, List.cons_append, List.nil_append, List.append_nil, List.length_cons, List.length_nil, List.replicate_succ, List.replicate_zero, List.getElem?_cons_zero, List.getElem?_cons_succ, List.set_cons_zero, List.set_cons_succ, List.take_succ_cons, List.take_zero, List.drop_succ_cons, List.drop_zero, List.reverse_cons, List.reverse_nil, Option.toList_some, Option.toList_none, Nat.reduceSub, Nat.reduceAdd, Nat.reduceLeDiff, true_and, and_true, and_self, Option.some.injEq, exists_eq_left', Nat.zero_add, Value.int.injEq, Value.ref.injEq, List.cons.injEq, exists_and_left, and_assoc, exists_eq_left, List.all_cons, List.all_nil, m1_i, m1_r, Bool.and_self, Bool.and_true, E_in 60, N_60, B_60_0, bk_60_0, B_60_16, bk_60_16, o_lt_l, o_le_l, if_pos, if_neg, a0, a1, gs0, h589, n_eq, c4, Ne.symm c4, if_pos, if_neg, not_true_eq_false, not_false_eq_true, or_true, true_or, or_false, false_or, false_and, and_false, Nat.reduceEqDiff, Nat.reduceLT, Nat.reduceMul, Nat.not_lt_zero, Nat.zero_le, Nat.le_refl, ne_eq, reduceIte, reduceCtorEq]
      rw [B_60_32]
      simp (disch := omega) only [e_iconst, e_bipush, e_sipush, e_iload_n, e_iload, e_aload_n, e_aload, e_istore_n, e_istore, e_astore_n, e_astore, e_iinc, e_iadd, e_isub, e_imul, e_iand, e_ishr, e_idiv, e_i2c, e_dup_i, e_dup_r, e_dup2, e_pop, e_goto, e_nop, e_if_eq, e_if_ne, e_if_lt, e_if_ge, e_if_gt, e_if_le, e_icmp_eq, e_icmp_ne, e_icmp_lt, e_icmp_ge, e_icmp_gt, e_icmp_le, e_tsw, e_ret0, e_ret1, e_retn, e_getI, e_getZ, e_getR, e_getV, e_getC, e_putI, e_putZ, e_putF, e_gst0, e_gst1, e_sld, e_iald, e_cald, e_bald, e_iast, e_cast, e_aald, e_aast, e_alen, e_slen, e_blen, e_newa, e_newq, e_new, e_oinit, e_ctor, e_virt, e_stat, e_min, e_copy, e_ldc, List.cons_append, List.nil_append, List.append_nil, List.length_cons, List.length_nil, List.replicate_succ, List.replicate_zero, List.getElem?_cons_zero, List.getElem?_cons_succ, List.set_cons_zero, List.set_cons_succ, List.take_succ_cons, List.take_zero, List.drop_succ_cons, List.drop_zero, List.reverse_cons, List.reverse_nil, Option.toList_some, Option.toList_none, Nat.reduceSub, Nat.reduceAdd, Nat.reduceLeDiff, true_and, and_true, and_self, Option.some.injEq, exists_eq_left', Nat.zero_add, Value.int.injEq, Value.ref.injEq, List.cons.injEq, exists_and_left, and_assoc, exists_eq_left, List.all_cons, List.all_nil, m1_i, m1_r, Bool.and_self, Bool.and_true, bk_60_32, C_9, a_remember g hv hn hn2, a0, a1, a2, a1t, gs0, gh0, if_pos, if_neg, not_true_eq_false, not_false_eq_true, or_true, true_or, or_false, false_or, false_and, and_false, Nat.reduceEqDiff, Nat.reduceLT, Nat.reduceMul, Nat.not_lt_zero, Nat.zero_le, Nat.le_refl, ne_eq, reduceIte, reduceCtorEq]
    · exact REL_act g hv hn2 hH hP hT (fun x x1 x2 => s_no (by omega)) (by rw [s_no (by omega), hRm_w (by omega) (by omega)]) (RC_num hv (Or.inr ⟨rfl, rfl, k, by omega, by omega, rfl⟩))
end
section
/-! THE SIMPLE OPS: counts, events, the text -/
theorem cnt_cg {P P' : Nat → Bool} : ∀ n, (∀ s, s < n → P s = P' s) → cnt P n = cnt P' n := by
  intro n
  induction n with
  | zero => intro _; rfl
  | succ n ih => intro h; simp only [cnt, ih (fun s hs => h s (by omega)), h n (by omega)]
theorem sm_cg {f f' : Nat → Int32} : ∀ n, (∀ s, s < n → f s = f' s) → sm f n = sm f' n := by
  intro n
  induction n with
  | zero => intro _; rfl
  | succ n ih => intro h; simp only [sm, ih (fun s hs => h s (by omega)), h n (by omega)]
/-- class and reference count the same -/
theorem RC_cnt {I : Nat → Nat → Int32} {a : Nat} {v : Nat → Int32} (h : RC I a v) : cnt (fun s => !(I (a + 6 + 4 * s) 3 == 0)) 6 = cnt (fun s => !(v (98 * s) == 0)) 6 := by
  refine cnt_cg 6 (fun s hs => ?_)
  obtain ⟨p, cl, c, ⟨f1, -⟩, ⟨g1, -⟩, -⟩ := h.1 s hs
  rw [f1, g1]
theorem RC_let {I : Nat → Nat → Int32} {a : Nat} {v : Nat → Int32} (h : RC I a v) : sm (fun s => I (a + 6 + 4 * s) 5) 6 = sm (fun s => if v (98 * s) = 0 then 0 else v (98 * s + 2)) 6 := by
  refine sm_cg 6 (fun s hs => ?_)
  obtain ⟨p, cl, c, ⟨f1, f2, f3, f4, -⟩, ⟨g1, g2, g3, -⟩, h3, -⟩ := h.1 s hs
  rw [f3, g1, g3]
  by_cases e : p = 0
  · subst e; rw [(h3 rfl).2]; rfl
  · have e2 : p = 1 := by omega
    subst e2; rw [if_neg (by rw [show (0 : Int32) = nI 0 from rfl, n_eq (by omega) (by omega)]; omega)]
theorem tgt_out {a n : Nat} {d : Int} {offs : Array Int} {x : Int32} (hn : n < 1000000) (hs : offs.size = n) (h : x < 0 ∨ nI n ≤ x) : mTgt a d 0 offs x = (a + d).toNat := by
  unfold mTgt
  rcases h with h | h
  · rw [if_pos (by rw [Int32.lt_iff_toInt_lt] at h; exact h)]
  · rw [Int32.le_iff_toInt_le, nI_toInt (by omega)] at h
    rw [if_neg (by omega), Array.getElem?_eq_none (by omega)]
/-- what count answers -/
def aCount (v : Nat → Int32) (n w : Nat) : Int32 := if w = 0 then nI (cnt (fun s => !(v (98 * s) == 0)) 6) else if w = 1 then sm (fun s => if v (98 * s) = 0 then 0 else v (98 * s + 2)) 6 else if w = 2 then v 590 else if w = 3 then v 591 else if w = 4 then v 592 else if w = 5 then v 593 else if w = 6 then v 594 else if w = 7 then v 588 else if w = 8 then v 589 else nI n
set_option maxHeartbeats 8000000 in
theorem q_count {K : mK} {R : Nat → Nat → Option Nat} {I : Nat → Nat → Int32} {v H T : Nat → Int32} {n t : Nat} (hrel : REL K R I v n H t T) (k : Nat) (hk : k < 10) : QO 80 [.int (nI k)] K R I (aCount v n k) := by
  obtain ⟨f, g, hv, hn2, hn, hH, hP, hT⟩ := id hrel
  have q4 := qTu_lt g hn2
  obtain ⟨gs, -, gh, gw, gr, gr', ⟨a0, a1, a2, a3, a4, a5, a6, a7, a8⟩, ⟨b0, b1, b2⟩, cc0⟩ := id g
  have gs0 : K.2.2.1 1 = (1, 4) := gs.1
  have gs1 : R 1 0 = some 2 := gs.2.1
  have gs2 : K.2.2.1 2 = (4, 6) := gs.2.2.1
  have gs3 : R 1 1 = some 3 := gs.2.2.2.1
  have gs4 : zL K R 3 := gs.2.2.2.2.1
  have gW : ∀ s, s < 6 → zW K R (7 + 4 * s) := fun s hs => (gs.2.2.2.2.2.2 s hs).2
  have gR : ∀ s, s < 6 → R 2 s = some (7 + 4 * s) := fun s hs => (gs.2.2.2.2.2.2 s hs).1
  have gh0 := gh.1
  have gsl : K.2.2.1 3 = (1, 2) := gs4.1
  have gT := zG_tu (n := n) g
  have gst : zS K (RTu R n) 1 := gT.1
  have gt1 : RTu R n 1 0 = some 2 := gst.2.1
  have gt3 : RTu R n 1 1 = some 3 := gst.2.2.2.1
  have gt4 : zL K (RTu R n) 3 := gst.2.2.2.2.1
  have gWt : ∀ s, s < 6 → zW K (RTu R n) (7 + 4 * s) := fun s hs => (gst.2.2.2.2.2.2 s hs).2
  have gRt : ∀ s, s < 6 → RTu R n 2 s = some (7 + 4 * s) := fun s hs => (gst.2.2.2.2.2.2 s hs).1
  obtain ⟨-, a1t, a2t, a3t, a4t, a5t, a6t, a7t, a8t⟩ := gT.2.2.2.2.2.2.1
  obtain ⟨e2, e3, e4, e5, e6, e7, e8, -⟩ := id hv.2
  have ec := RC_cnt hv
  have el := RC_let hv
  refine ⟨I, ?_, SCR_id⟩
  rcases (show k = 0 ∨ k = 1 ∨ k = 2 ∨ k = 3 ∨ k = 4 ∨ k = 5 ∨ k = 6 ∨ k = 7 ∨ k = 8 ∨ k = 9 by omega) with rfl | rfl | rfl | rfl | rfl | rfl | rfl | rfl | rfl | rfl
  · simp (disch := omega) only [e_iconst, e_bipush, e_sipush, e_iload_n, e_iload, e_aload_n, e_aload, e_istore_n, e_istore, e_astore_n, e_astore, e_iinc, e_iadd, e_isub, e_imul, e_iand, e_ishr, e_idiv, e_i2c, e_dup_i, e_dup_r, e_dup2, e_pop, e_goto, e_nop, e_if_eq, e_if_ne, e_if_lt, e_if_ge, e_if_gt, e_if_le, e_icmp_eq, e_icmp_ne, e_icmp_lt, e_icmp_ge, e_icmp_gt, e_icmp_le, e_tsw, e_ret0, e_ret1, e_retn, e_getI, e_getZ, e_getR, e_getV, e_getC, e_putI, e_putZ, e_putF, e_gst0, e_gst1, e_sld, e_iald, e_cald, e_bald, e_iast, e_cast, e_aald, e_aast, e_alen, e_slen, e_blen, e_newa, e_newq, e_new, e_oinit, e_ctor, e_virt, e_stat, e_min, e_copy, e_ldc, List.cons_append, List.nil_append, List.append_nil, List.length_cons, List.length_nil, List.replicate_succ, List.replicate_zero, List.getElem?_cons_zero, List.getElem?_cons_succ, List.set_cons_zero, List.set_cons_succ, List.take_succ_cons, List.take_zero, List.drop_succ_cons, List.drop_zero, List.reverse_cons, List.reverse_nil, Option.toList_some, Option.toList_none, Nat.reduceSub, Nat.reduceAdd, Nat.reduceLeDiff, true_and, and_true, and_self, Option.some.injEq, exists_eq_left', Nat.zero_add, Value.int.injEq, Value.ref.injEq, List.cons.injEq, exists_and_left, and_assoc, exists_eq_left, List.all_cons, List.all_nil, m1_i, m1_r, Bool.and_self, Bool.and_true, E_in 80, N_80, B_80_0, bk_80_0, show mTgt 1 147 0 #[59, 67, 75, 83, 91, 99, 107, 115, 123, 131, 139] (nI 0) = 60 from by decide, if_pos, if_neg, not_true_eq_false, not_false_eq_true, or_true, true_or, or_false, false_or, false_and, and_false, Nat.reduceEqDiff, Nat.reduceLT, Nat.reduceMul, Nat.not_lt_zero, Nat.zero_le, Nat.le_refl, ne_eq, reduceIte, reduceCtorEq]
    simp (disch := omega) only [e_iconst, e_bipush, e_sipush, e_iload_n, e_iload, e_aload_n, e_aload, e_istore_n, e_istore, e_astore_n, e_astore, e_iinc, e_iadd, e_isub, e_imul, e_iand, e_ishr, e_idiv, e_i2c, e_dup_i, e_dup_r, e_dup2, e_pop, e_goto, e_nop, e_if_eq, e_if_ne, e_if_lt, e_if_ge, e_if_gt, e_if_le, e_icmp_eq, e_icmp_ne, e_icmp_lt, e_icmp_ge, e_icmp_gt, e_icmp_le, e_tsw, e_ret0, e_ret1, e_retn, e_getI, e_getZ, e_getR, e_getV, e_getC, e_putI, e_putZ, e_putF, e_gst0, e_gst1, e_sld, e_iald, e_cald, e_bald, e_iast, e_cast, e_aald, e_aast, e_alen, e_slen, e_blen, e_newa, e_newq, e_new, e_oinit, e_ctor, e_virt, e_stat, e_min, e_copy, e_ldc, List.cons_append, List.nil_append, List.append_nil, List.length_cons, List.length_nil, List.replicate_succ, List.replicate_zero, List.getElem?_cons_zero, List.getElem?_cons_succ, List.set_cons_zero, List.set_cons_succ, List.take_succ_cons, List.take_zero, List.drop_succ_cons, List.drop_zero, List.reverse_cons, List.reverse_nil, Option.toList_some, Option.toList_none, Nat.reduceSub, Nat.reduceAdd, Nat.reduceLeDiff, true_and, and_true, and_self, Option.some.injEq, exists_eq_left', Nat.zero_add, Value.int.injEq, Value.ref.injEq, List.cons.injEq, exists_and_left, and_assoc, exists_eq_left, List.all_cons, List.all_nil, m1_i, m1_r, Bool.and_self, Bool.and_true, B_80_60, bk_80_60, a0, a1, a2, a4, b0, gs0, gh0, hn, e2, e3, e4, e5, e6, e7, e8, C_26, C_27, m_spools gs, m_letters gs, ec, el, if_pos, if_neg, not_true_eq_false, not_false_eq_true, or_true, true_or, or_false, false_or, false_and, and_false, Nat.reduceEqDiff, Nat.reduceLT, Nat.reduceMul, Nat.not_lt_zero, Nat.zero_le, Nat.le_refl, ne_eq, reduceIte, reduceCtorEq]
    try rfl
  · simp (disch := omega) only [e_iconst, e_bipush, e_sipush, e_iload_n, e_iload, e_aload_n, e_aload, e_istore_n, e_istore, e_astore_n, e_astore, e_iinc, e_iadd, e_isub, e_imul, e_iand, e_ishr, e_idiv, e_i2c, e_dup_i, e_dup_r, e_dup2, e_pop, e_goto, e_nop, e_if_eq, e_if_ne, e_if_lt, e_if_ge, e_if_gt, e_if_le, e_icmp_eq, e_icmp_ne, e_icmp_lt, e_icmp_ge, e_icmp_gt, e_icmp_le, e_tsw, e_ret0, e_ret1, e_retn, e_getI, e_getZ, e_getR, e_getV, e_getC, e_putI, e_putZ, e_putF, e_gst0, e_gst1, e_sld, e_iald, e_cald, e_bald, e_iast, e_cast, e_aald, e_aast, e_alen, e_slen, e_blen, e_newa, e_newq, e_new, e_oinit, e_ctor, e_virt, e_stat, e_min, e_copy, e_ldc, List.cons_append, List.nil_append, List.append_nil, List.length_cons, List.length_nil, List.replicate_succ, List.replicate_zero, List.getElem?_cons_zero, List.getElem?_cons_succ, List.set_cons_zero, List.set_cons_succ, List.take_succ_cons, List.take_zero, List.drop_succ_cons, List.drop_zero, List.reverse_cons, List.reverse_nil, Option.toList_some, Option.toList_none, Nat.reduceSub, Nat.reduceAdd, Nat.reduceLeDiff, true_and, and_true, and_self, Option.some.injEq, exists_eq_left', Nat.zero_add, Value.int.injEq, Value.ref.injEq, List.cons.injEq, exists_and_left, and_assoc, exists_eq_left, List.all_cons, List.all_nil, m1_i, m1_r, Bool.and_self, Bool.and_true, E_in 80, N_80, B_80_0, bk_80_0, show mTgt 1 147 0 #[59, 67, 75, 83, 91, 99, 107, 115, 123, 131, 139] (nI 1) = 68 from by decide, if_pos, if_neg, not_true_eq_false, not_false_eq_true, or_true, true_or, or_false, false_or, false_and, and_false, Nat.reduceEqDiff, Nat.reduceLT, Nat.reduceMul, Nat.not_lt_zero, Nat.zero_le, Nat.le_refl, ne_eq, reduceIte, reduceCtorEq]
    simp (disch := omega) only [e_iconst, e_bipush, e_sipush, e_iload_n, e_iload, e_aload_n, e_aload, e_istore_n, e_istore, e_astore_n, e_astore, e_iinc, e_iadd, e_isub, e_imul, e_iand, e_ishr, e_idiv, e_i2c, e_dup_i, e_dup_r, e_dup2, e_pop, e_goto, e_nop, e_if_eq, e_if_ne, e_if_lt, e_if_ge, e_if_gt, e_if_le, e_icmp_eq, e_icmp_ne, e_icmp_lt, e_icmp_ge, e_icmp_gt, e_icmp_le, e_tsw, e_ret0, e_ret1, e_retn, e_getI, e_getZ, e_getR, e_getV, e_getC, e_putI, e_putZ, e_putF, e_gst0, e_gst1, e_sld, e_iald, e_cald, e_bald, e_iast, e_cast, e_aald, e_aast, e_alen, e_slen, e_blen, e_newa, e_newq, e_new, e_oinit, e_ctor, e_virt, e_stat, e_min, e_copy, e_ldc, List.cons_append, List.nil_append, List.append_nil, List.length_cons, List.length_nil, List.replicate_succ, List.replicate_zero, List.getElem?_cons_zero, List.getElem?_cons_succ, List.set_cons_zero, List.set_cons_succ, List.take_succ_cons, List.take_zero, List.drop_succ_cons, List.drop_zero, List.reverse_cons, List.reverse_nil, Option.toList_some, Option.toList_none, Nat.reduceSub, Nat.reduceAdd, Nat.reduceLeDiff, true_and, and_true, and_self, Option.some.injEq, exists_eq_left', Nat.zero_add, Value.int.injEq, Value.ref.injEq, List.cons.injEq, exists_and_left, and_assoc, exists_eq_left, List.all_cons, List.all_nil, m1_i, m1_r, Bool.and_self, Bool.and_true, B_80_68, bk_80_68, a0, a1, a2, a4, b0, gs0, gh0, hn, e2, e3, e4, e5, e6, e7, e8, C_26, C_27, m_spools gs, m_letters gs, ec, el, if_pos, if_neg, not_true_eq_false, not_false_eq_true, or_true, true_or, or_false, false_or, false_and, and_false, Nat.reduceEqDiff, Nat.reduceLT, Nat.reduceMul, Nat.not_lt_zero, Nat.zero_le, Nat.le_refl, ne_eq, reduceIte, reduceCtorEq]
    try rfl
  · simp (disch := omega) only [e_iconst, e_bipush, e_sipush, e_iload_n, e_iload, e_aload_n, e_aload, e_istore_n, e_istore, e_astore_n, e_astore, e_iinc, e_iadd, e_isub, e_imul, e_iand, e_ishr, e_idiv, e_i2c, e_dup_i, e_dup_r, e_dup2, e_pop, e_goto, e_nop, e_if_eq, e_if_ne, e_if_lt, e_if_ge, e_if_gt, e_if_le, e_icmp_eq, e_icmp_ne, e_icmp_lt, e_icmp_ge, e_icmp_gt, e_icmp_le, e_tsw, e_ret0, e_ret1, e_retn, e_getI, e_getZ, e_getR, e_getV, e_getC, e_putI, e_putZ, e_putF, e_gst0, e_gst1, e_sld, e_iald, e_cald, e_bald, e_iast, e_cast, e_aald, e_aast, e_alen, e_slen, e_blen, e_newa, e_newq, e_new, e_oinit, e_ctor, e_virt, e_stat, e_min, e_copy, e_ldc, List.cons_append, List.nil_append, List.append_nil, List.length_cons, List.length_nil, List.replicate_succ, List.replicate_zero, List.getElem?_cons_zero, List.getElem?_cons_succ, List.set_cons_zero, List.set_cons_succ, List.take_succ_cons, List.take_zero, List.drop_succ_cons, List.drop_zero, List.reverse_cons, List.reverse_nil, Option.toList_some, Option.toList_none, Nat.reduceSub, Nat.reduceAdd, Nat.reduceLeDiff, true_and, and_true, and_self, Option.some.injEq, exists_eq_left', Nat.zero_add, Value.int.injEq, Value.ref.injEq, List.cons.injEq, exists_and_left, and_assoc, exists_eq_left, List.all_cons, List.all_nil, m1_i, m1_r, Bool.and_self, Bool.and_true, E_in 80, N_80, B_80_0, bk_80_0, show mTgt 1 147 0 #[59, 67, 75, 83, 91, 99, 107, 115, 123, 131, 139] (nI 2) = 76 from by decide, if_pos, if_neg, not_true_eq_false, not_false_eq_true, or_true, true_or, or_false, false_or, false_and, and_false, Nat.reduceEqDiff, Nat.reduceLT, Nat.reduceMul, Nat.not_lt_zero, Nat.zero_le, Nat.le_refl, ne_eq, reduceIte, reduceCtorEq]
    simp (disch := omega) only [e_iconst, e_bipush, e_sipush, e_iload_n, e_iload, e_aload_n, e_aload, e_istore_n, e_istore, e_astore_n, e_astore, e_iinc, e_iadd, e_isub, e_imul, e_iand, e_ishr, e_idiv, e_i2c, e_dup_i, e_dup_r, e_dup2, e_pop, e_goto, e_nop, e_if_eq, e_if_ne, e_if_lt, e_if_ge, e_if_gt, e_if_le, e_icmp_eq, e_icmp_ne, e_icmp_lt, e_icmp_ge, e_icmp_gt, e_icmp_le, e_tsw, e_ret0, e_ret1, e_retn, e_getI, e_getZ, e_getR, e_getV, e_getC, e_putI, e_putZ, e_putF, e_gst0, e_gst1, e_sld, e_iald, e_cald, e_bald, e_iast, e_cast, e_aald, e_aast, e_alen, e_slen, e_blen, e_newa, e_newq, e_new, e_oinit, e_ctor, e_virt, e_stat, e_min, e_copy, e_ldc, List.cons_append, List.nil_append, List.append_nil, List.length_cons, List.length_nil, List.replicate_succ, List.replicate_zero, List.getElem?_cons_zero, List.getElem?_cons_succ, List.set_cons_zero, List.set_cons_succ, List.take_succ_cons, List.take_zero, List.drop_succ_cons, List.drop_zero, List.reverse_cons, List.reverse_nil, Option.toList_some, Option.toList_none, Nat.reduceSub, Nat.reduceAdd, Nat.reduceLeDiff, true_and, and_true, and_self, Option.some.injEq, exists_eq_left', Nat.zero_add, Value.int.injEq, Value.ref.injEq, List.cons.injEq, exists_and_left, and_assoc, exists_eq_left, List.all_cons, List.all_nil, m1_i, m1_r, Bool.and_self, Bool.and_true, B_80_76, bk_80_76, a0, a1, a2, a4, b0, gs0, gh0, hn, e2, e3, e4, e5, e6, e7, e8, C_26, C_27, m_spools gs, m_letters gs, ec, el, if_pos, if_neg, not_true_eq_false, not_false_eq_true, or_true, true_or, or_false, false_or, false_and, and_false, Nat.reduceEqDiff, Nat.reduceLT, Nat.reduceMul, Nat.not_lt_zero, Nat.zero_le, Nat.le_refl, ne_eq, reduceIte, reduceCtorEq]
    try rfl
  · simp (disch := omega) only [e_iconst, e_bipush, e_sipush, e_iload_n, e_iload, e_aload_n, e_aload, e_istore_n, e_istore, e_astore_n, e_astore, e_iinc, e_iadd, e_isub, e_imul, e_iand, e_ishr, e_idiv, e_i2c, e_dup_i, e_dup_r, e_dup2, e_pop, e_goto, e_nop, e_if_eq, e_if_ne, e_if_lt, e_if_ge, e_if_gt, e_if_le, e_icmp_eq, e_icmp_ne, e_icmp_lt, e_icmp_ge, e_icmp_gt, e_icmp_le, e_tsw, e_ret0, e_ret1, e_retn, e_getI, e_getZ, e_getR, e_getV, e_getC, e_putI, e_putZ, e_putF, e_gst0, e_gst1, e_sld, e_iald, e_cald, e_bald, e_iast, e_cast, e_aald, e_aast, e_alen, e_slen, e_blen, e_newa, e_newq, e_new, e_oinit, e_ctor, e_virt, e_stat, e_min, e_copy, e_ldc, List.cons_append, List.nil_append, List.append_nil, List.length_cons, List.length_nil, List.replicate_succ, List.replicate_zero, List.getElem?_cons_zero, List.getElem?_cons_succ, List.set_cons_zero, List.set_cons_succ, List.take_succ_cons, List.take_zero, List.drop_succ_cons, List.drop_zero, List.reverse_cons, List.reverse_nil, Option.toList_some, Option.toList_none, Nat.reduceSub, Nat.reduceAdd, Nat.reduceLeDiff, true_and, and_true, and_self, Option.some.injEq, exists_eq_left', Nat.zero_add, Value.int.injEq, Value.ref.injEq, List.cons.injEq, exists_and_left, and_assoc, exists_eq_left, List.all_cons, List.all_nil, m1_i, m1_r, Bool.and_self, Bool.and_true, E_in 80, N_80, B_80_0, bk_80_0, show mTgt 1 147 0 #[59, 67, 75, 83, 91, 99, 107, 115, 123, 131, 139] (nI 3) = 84 from by decide, if_pos, if_neg, not_true_eq_false, not_false_eq_true, or_true, true_or, or_false, false_or, false_and, and_false, Nat.reduceEqDiff, Nat.reduceLT, Nat.reduceMul, Nat.not_lt_zero, Nat.zero_le, Nat.le_refl, ne_eq, reduceIte, reduceCtorEq]
    simp (disch := omega) only [e_iconst, e_bipush, e_sipush, e_iload_n, e_iload, e_aload_n, e_aload, e_istore_n, e_istore, e_astore_n, e_astore, e_iinc, e_iadd, e_isub, e_imul, e_iand, e_ishr, e_idiv, e_i2c, e_dup_i, e_dup_r, e_dup2, e_pop, e_goto, e_nop, e_if_eq, e_if_ne, e_if_lt, e_if_ge, e_if_gt, e_if_le, e_icmp_eq, e_icmp_ne, e_icmp_lt, e_icmp_ge, e_icmp_gt, e_icmp_le, e_tsw, e_ret0, e_ret1, e_retn, e_getI, e_getZ, e_getR, e_getV, e_getC, e_putI, e_putZ, e_putF, e_gst0, e_gst1, e_sld, e_iald, e_cald, e_bald, e_iast, e_cast, e_aald, e_aast, e_alen, e_slen, e_blen, e_newa, e_newq, e_new, e_oinit, e_ctor, e_virt, e_stat, e_min, e_copy, e_ldc, List.cons_append, List.nil_append, List.append_nil, List.length_cons, List.length_nil, List.replicate_succ, List.replicate_zero, List.getElem?_cons_zero, List.getElem?_cons_succ, List.set_cons_zero, List.set_cons_succ, List.take_succ_cons, List.take_zero, List.drop_succ_cons, List.drop_zero, List.reverse_cons, List.reverse_nil, Option.toList_some, Option.toList_none, Nat.reduceSub, Nat.reduceAdd, Nat.reduceLeDiff, true_and, and_true, and_self, Option.some.injEq, exists_eq_left', Nat.zero_add, Value.int.injEq, Value.ref.injEq, List.cons.injEq, exists_and_left, and_assoc, exists_eq_left, List.all_cons, List.all_nil, m1_i, m1_r, Bool.and_self, Bool.and_true, B_80_84, bk_80_84, a0, a1, a2, a4, b0, gs0, gh0, hn, e2, e3, e4, e5, e6, e7, e8, C_26, C_27, m_spools gs, m_letters gs, ec, el, if_pos, if_neg, not_true_eq_false, not_false_eq_true, or_true, true_or, or_false, false_or, false_and, and_false, Nat.reduceEqDiff, Nat.reduceLT, Nat.reduceMul, Nat.not_lt_zero, Nat.zero_le, Nat.le_refl, ne_eq, reduceIte, reduceCtorEq]
    try rfl
  · simp (disch := omega) only [e_iconst, e_bipush, e_sipush, e_iload_n, e_iload, e_aload_n, e_aload, e_istore_n, e_istore, e_astore_n, e_astore, e_iinc, e_iadd, e_isub, e_imul, e_iand, e_ishr, e_idiv, e_i2c, e_dup_i, e_dup_r, e_dup2, e_pop, e_goto, e_nop, e_if_eq, e_if_ne, e_if_lt, e_if_ge, e_if_gt, e_if_le, e_icmp_eq, e_icmp_ne, e_icmp_lt, e_icmp_ge, e_icmp_gt, e_icmp_le, e_tsw, e_ret0, e_ret1, e_retn, e_getI, e_getZ, e_getR, e_getV, e_getC, e_putI, e_putZ, e_putF, e_gst0, e_gst1, e_sld, e_iald, e_cald, e_bald, e_iast, e_cast, e_aald, e_aast, e_alen, e_slen, e_blen, e_newa, e_newq, e_new, e_oinit, e_ctor, e_virt, e_stat, e_min, e_copy, e_ldc, List.cons_append, List.nil_append, List.append_nil, List.length_cons, List.length_nil, List.replicate_succ, List.replicate_zero, List.getElem?_cons_zero, List.getElem?_cons_succ, List.set_cons_zero, List.set_cons_succ, List.take_succ_cons, List.take_zero, List.drop_succ_cons, List.drop_zero, List.reverse_cons, List.reverse_nil, Option.toList_some, Option.toList_none, Nat.reduceSub, Nat.reduceAdd, Nat.reduceLeDiff, true_and, and_true, and_self, Option.some.injEq, exists_eq_left', Nat.zero_add, Value.int.injEq, Value.ref.injEq, List.cons.injEq, exists_and_left, and_assoc, exists_eq_left, List.all_cons, List.all_nil, m1_i, m1_r, Bool.and_self, Bool.and_true, E_in 80, N_80, B_80_0, bk_80_0, show mTgt 1 147 0 #[59, 67, 75, 83, 91, 99, 107, 115, 123, 131, 139] (nI 4) = 92 from by decide, if_pos, if_neg, not_true_eq_false, not_false_eq_true, or_true, true_or, or_false, false_or, false_and, and_false, Nat.reduceEqDiff, Nat.reduceLT, Nat.reduceMul, Nat.not_lt_zero, Nat.zero_le, Nat.le_refl, ne_eq, reduceIte, reduceCtorEq]
    simp (disch := omega) only [e_iconst, e_bipush, e_sipush, e_iload_n, e_iload, e_aload_n, e_aload, e_istore_n, e_istore, e_astore_n, e_astore, e_iinc, e_iadd, e_isub, e_imul, e_iand, e_ishr, e_idiv, e_i2c, e_dup_i, e_dup_r, e_dup2, e_pop, e_goto, e_nop, e_if_eq, e_if_ne, e_if_lt, e_if_ge, e_if_gt, e_if_le, e_icmp_eq, e_icmp_ne, e_icmp_lt, e_icmp_ge, e_icmp_gt, e_icmp_le, e_tsw, e_ret0, e_ret1, e_retn, e_getI, e_getZ, e_getR, e_getV, e_getC, e_putI, e_putZ, e_putF, e_gst0, e_gst1, e_sld, e_iald, e_cald, e_bald, e_iast, e_cast, e_aald, e_aast, e_alen, e_slen, e_blen, e_newa, e_newq, e_new, e_oinit, e_ctor, e_virt, e_stat, e_min, e_copy, e_ldc, List.cons_append, List.nil_append, List.append_nil, List.length_cons, List.length_nil, List.replicate_succ, List.replicate_zero, List.getElem?_cons_zero, List.getElem?_cons_succ, List.set_cons_zero, List.set_cons_succ, List.take_succ_cons, List.take_zero, List.drop_succ_cons, List.drop_zero, List.reverse_cons, List.reverse_nil, Option.toList_some, Option.toList_none, Nat.reduceSub, Nat.reduceAdd, Nat.reduceLeDiff, true_and, and_true, and_self, Option.some.injEq, exists_eq_left', Nat.zero_add, Value.int.injEq, Value.ref.injEq, List.cons.injEq, exists_and_left, and_assoc, exists_eq_left, List.all_cons, List.all_nil, m1_i, m1_r, Bool.and_self, Bool.and_true, B_80_92, bk_80_92, a0, a1, a2, a4, b0, gs0, gh0, hn, e2, e3, e4, e5, e6, e7, e8, C_26, C_27, m_spools gs, m_letters gs, ec, el, if_pos, if_neg, not_true_eq_false, not_false_eq_true, or_true, true_or, or_false, false_or, false_and, and_false, Nat.reduceEqDiff, Nat.reduceLT, Nat.reduceMul, Nat.not_lt_zero, Nat.zero_le, Nat.le_refl, ne_eq, reduceIte, reduceCtorEq]
    try rfl
  · simp (disch := omega) only [e_iconst, e_bipush, e_sipush, e_iload_n, e_iload, e_aload_n, e_aload, e_istore_n, e_istore, e_astore_n, e_astore, e_iinc, e_iadd, e_isub, e_imul, e_iand, e_ishr, e_idiv, e_i2c, e_dup_i, e_dup_r, e_dup2, e_pop, e_goto, e_nop, e_if_eq, e_if_ne, e_if_lt, e_if_ge, e_if_gt, e_if_le, e_icmp_eq, e_icmp_ne, e_icmp_lt, e_icmp_ge, e_icmp_gt, e_icmp_le, e_tsw, e_ret0, e_ret1, e_retn, e_getI, e_getZ, e_getR, e_getV, e_getC, e_putI, e_putZ, e_putF, e_gst0, e_gst1, e_sld, e_iald, e_cald, e_bald, e_iast, e_cast, e_aald, e_aast, e_alen, e_slen, e_blen, e_newa, e_newq, e_new, e_oinit, e_ctor, e_virt, e_stat, e_min, e_copy, e_ldc, List.cons_append, List.nil_append, List.append_nil, List.length_cons, List.length_nil, List.replicate_succ, List.replicate_zero, List.getElem?_cons_zero, List.getElem?_cons_succ, List.set_cons_zero, List.set_cons_succ, List.take_succ_cons, List.take_zero, List.drop_succ_cons, List.drop_zero, List.reverse_cons, List.reverse_nil, Option.toList_some, Option.toList_none, Nat.reduceSub, Nat.reduceAdd, Nat.reduceLeDiff, true_and, and_true, and_self, Option.some.injEq, exists_eq_left', Nat.zero_add, Value.int.injEq, Value.ref.injEq, List.cons.injEq, exists_and_left, and_assoc, exists_eq_left, List.all_cons, List.all_nil, m1_i, m1_r, Bool.and_self, Bool.and_true, E_in 80, N_80, B_80_0, bk_80_0, show mTgt 1 147 0 #[59, 67, 75, 83, 91, 99, 107, 115, 123, 131, 139] (nI 5) = 100 from by decide, if_pos, if_neg, not_true_eq_false, not_false_eq_true, or_true, true_or, or_false, false_or, false_and, and_false, Nat.reduceEqDiff, Nat.reduceLT, Nat.reduceMul, Nat.not_lt_zero, Nat.zero_le, Nat.le_refl, ne_eq, reduceIte, reduceCtorEq]
    simp (disch := omega) only [e_iconst, e_bipush, e_sipush, e_iload_n, e_iload, e_aload_n, e_aload, e_istore_n, e_istore, e_astore_n, e_astore, e_iinc, e_iadd, e_isub, e_imul, e_iand, e_ishr, e_idiv, e_i2c, e_dup_i, e_dup_r, e_dup2, e_pop, e_goto, e_nop, e_if_eq, e_if_ne, e_if_lt, e_if_ge, e_if_gt, e_if_le, e_icmp_eq, e_icmp_ne, e_icmp_lt, e_icmp_ge, e_icmp_gt, e_icmp_le, e_tsw, e_ret0, e_ret1, e_retn, e_getI, e_getZ, e_getR, e_getV, e_getC, e_putI, e_putZ, e_putF, e_gst0, e_gst1, e_sld, e_iald, e_cald, e_bald, e_iast, e_cast, e_aald, e_aast, e_alen, e_slen, e_blen, e_newa, e_newq, e_new, e_oinit, e_ctor, e_virt, e_stat, e_min, e_copy, e_ldc, List.cons_append, List.nil_append, List.append_nil, List.length_cons, List.length_nil, List.replicate_succ, List.replicate_zero, List.getElem?_cons_zero, List.getElem?_cons_succ, List.set_cons_zero, List.set_cons_succ, List.take_succ_cons, List.take_zero, List.drop_succ_cons, List.drop_zero, List.reverse_cons, List.reverse_nil, Option.toList_some, Option.toList_none, Nat.reduceSub, Nat.reduceAdd, Nat.reduceLeDiff, true_and, and_true, and_self, Option.some.injEq, exists_eq_left', Nat.zero_add, Value.int.injEq, Value.ref.injEq, List.cons.injEq, exists_and_left, and_assoc, exists_eq_left, List.all_cons, List.all_nil, m1_i, m1_r, Bool.and_self, Bool.and_true, B_80_100, bk_80_100, a0, a1, a2, a4, b0, gs0, gh0, hn, e2, e3, e4, e5, e6, e7, e8, C_26, C_27, m_spools gs, m_letters gs, ec, el, if_pos, if_neg, not_true_eq_false, not_false_eq_true, or_true, true_or, or_false, false_or, false_and, and_false, Nat.reduceEqDiff, Nat.reduceLT, Nat.reduceMul, Nat.not_lt_zero, Nat.zero_le, Nat.le_refl, ne_eq, reduceIte, reduceCtorEq]
    try rfl
  · simp (disch := omega) only [e_iconst, e_bipush, e_sipush, e_iload_n, e_iload, e_aload_n, e_aload, e_istore_n, e_istore, e_astore_n, e_astore, e_iinc, e_iadd, e_isub, e_imul, e_iand, e_ishr, e_idiv, e_i2c, e_dup_i, e_dup_r, e_dup2, e_pop, e_goto, e_nop, e_if_eq, e_if_ne, e_if_lt, e_if_ge, e_if_gt, e_if_le, e_icmp_eq, e_icmp_ne, e_icmp_lt, e_icmp_ge, e_icmp_gt, e_icmp_le, e_tsw, e_ret0, e_ret1, e_retn, e_getI, e_getZ, e_getR, e_getV, e_getC, e_putI, e_putZ, e_putF, e_gst0, e_gst1, e_sld, e_iald, e_cald, e_bald, e_iast, e_cast, e_aald, e_aast, e_alen, e_slen, e_blen, e_newa, e_newq, e_new, e_oinit, e_ctor, e_virt, e_stat, e_min, e_copy, e_ldc, List.cons_append, List.nil_append, List.append_nil, List.length_cons, List.length_nil, List.replicate_succ, List.replicate_zero, List.getElem?_cons_zero, List.getElem?_cons_succ, List.set_cons_zero, List.set_cons_succ, List.take_succ_cons, List.take_zero, List.drop_succ_cons, List.drop_zero, List.reverse_cons, List.reverse_nil, Option.toList_some, Option.toList_none, Nat.reduceSub, Nat.reduceAdd, Nat.reduceLeDiff, true_and, and_true, and_self, Option.some.injEq, exists_eq_left', Nat.zero_add, Value.int.injEq, Value.ref.injEq, List.cons.injEq, exists_and_left, and_assoc, exists_eq_left, List.all_cons, List.all_nil, m1_i, m1_r, Bool.and_self, Bool.and_true, E_in 80, N_80, B_80_0, bk_80_0, show mTgt 1 147 0 #[59, 67, 75, 83, 91, 99, 107, 115, 123, 131, 139] (nI 6) = 108 from by decide, if_pos, if_neg, not_true_eq_false, not_false_eq_true, or_true, true_or, or_false, false_or, false_and, and_false, Nat.reduceEqDiff, Nat.reduceLT, Nat.reduceMul, Nat.not_lt_zero, Nat.zero_le, Nat.le_refl, ne_eq, reduceIte, reduceCtorEq]
    simp (disch := omega) only [e_iconst, e_bipush, e_sipush, e_iload_n, e_iload, e_aload_n, e_aload, e_istore_n, e_istore, e_astore_n, e_astore, e_iinc, e_iadd, e_isub, e_imul, e_iand, e_ishr, e_idiv, e_i2c, e_dup_i, e_dup_r, e_dup2, e_pop, e_goto, e_nop, e_if_eq, e_if_ne, e_if_lt, e_if_ge, e_if_gt, e_if_le, e_icmp_eq, e_icmp_ne, e_icmp_lt, e_icmp_ge, e_icmp_gt, e_icmp_le, e_tsw, e_ret0, e_ret1, e_retn, e_getI, e_getZ, e_getR, e_getV, e_getC, e_putI, e_putZ, e_putF, e_gst0, e_gst1, e_sld, e_iald, e_cald, e_bald, e_iast, e_cast, e_aald, e_aast, e_alen, e_slen, e_blen, e_newa, e_newq, e_new, e_oinit, e_ctor, e_virt, e_stat, e_min, e_copy, e_ldc, List.cons_append, List.nil_append, List.append_nil, List.length_cons, List.length_nil, List.replicate_succ, List.replicate_zero, List.getElem?_cons_zero, List.getElem?_cons_succ, List.set_cons_zero, List.set_cons_succ, List.take_succ_cons, List.take_zero, List.drop_succ_cons, List.drop_zero, List.reverse_cons, List.reverse_nil, Option.toList_some, Option.toList_none, Nat.reduceSub, Nat.reduceAdd, Nat.reduceLeDiff, true_and, and_true, and_self, Option.some.injEq, exists_eq_left', Nat.zero_add, Value.int.injEq, Value.ref.injEq, List.cons.injEq, exists_and_left, and_assoc, exists_eq_left, List.all_cons, List.all_nil, m1_i, m1_r, Bool.and_self, Bool.and_true, B_80_108, bk_80_108, a0, a1, a2, a4, b0, gs0, gh0, hn, e2, e3, e4, e5, e6, e7, e8, C_26, C_27, m_spools gs, m_letters gs, ec, el, if_pos, if_neg, not_true_eq_false, not_false_eq_true, or_true, true_or, or_false, false_or, false_and, and_false, Nat.reduceEqDiff, Nat.reduceLT, Nat.reduceMul, Nat.not_lt_zero, Nat.zero_le, Nat.le_refl, ne_eq, reduceIte, reduceCtorEq]
    try rfl
  · simp (disch := omega) only [e_iconst, e_bipush, e_sipush, e_iload_n, e_iload, e_aload_n, e_aload, e_istore_n, e_istore, e_astore_n, e_astore, e_iinc, e_iadd, e_isub, e_imul, e_iand, e_ishr, e_idiv, e_i2c, e_dup_i, e_dup_r, e_dup2, e_pop, e_goto, e_nop, e_if_eq, e_if_ne, e_if_lt, e_if_ge, e_if_gt, e_if_le, e_icmp_eq, e_icmp_ne, e_icmp_lt, e_icmp_ge, e_icmp_gt, e_icmp_le, e_tsw, e_ret0, e_ret1, e_retn, e_getI, e_getZ, e_getR, e_getV, e_getC, e_putI, e_putZ, e_putF, e_gst0, e_gst1, e_sld, e_iald, e_cald, e_bald, e_iast, e_cast, e_aald, e_aast, e_alen, e_slen, e_blen, e_newa, e_newq, e_new, e_oinit, e_ctor, e_virt, e_stat, e_min, e_copy, e_ldc, List.cons_append, List.nil_append, List.append_nil, List.length_cons, List.length_nil, List.replicate_succ, List.replicate_zero, List.getElem?_cons_zero, List.getElem?_cons_succ, List.set_cons_zero, List.set_cons_succ, List.take_succ_cons, List.take_zero, List.drop_succ_cons, List.drop_zero, List.reverse_cons, List.reverse_nil, Option.toList_some, Option.toList_none, Nat.reduceSub, Nat.reduceAdd, Nat.reduceLeDiff, true_and, and_true, and_self, Option.some.injEq, exists_eq_left', Nat.zero_add, Value.int.injEq, Value.ref.injEq, List.cons.injEq, exists_and_left, and_assoc, exists_eq_left, List.all_cons, List.all_nil, m1_i, m1_r, Bool.and_self, Bool.and_true, E_in 80, N_80, B_80_0, bk_80_0, show mTgt 1 147 0 #[59, 67, 75, 83, 91, 99, 107, 115, 123, 131, 139] (nI 7) = 116 from by decide, if_pos, if_neg, not_true_eq_false, not_false_eq_true, or_true, true_or, or_false, false_or, false_and, and_false, Nat.reduceEqDiff, Nat.reduceLT, Nat.reduceMul, Nat.not_lt_zero, Nat.zero_le, Nat.le_refl, ne_eq, reduceIte, reduceCtorEq]
    simp (disch := omega) only [e_iconst, e_bipush, e_sipush, e_iload_n, e_iload, e_aload_n, e_aload, e_istore_n, e_istore, e_astore_n, e_astore, e_iinc, e_iadd, e_isub, e_imul, e_iand, e_ishr, e_idiv, e_i2c, e_dup_i, e_dup_r, e_dup2, e_pop, e_goto, e_nop, e_if_eq, e_if_ne, e_if_lt, e_if_ge, e_if_gt, e_if_le, e_icmp_eq, e_icmp_ne, e_icmp_lt, e_icmp_ge, e_icmp_gt, e_icmp_le, e_tsw, e_ret0, e_ret1, e_retn, e_getI, e_getZ, e_getR, e_getV, e_getC, e_putI, e_putZ, e_putF, e_gst0, e_gst1, e_sld, e_iald, e_cald, e_bald, e_iast, e_cast, e_aald, e_aast, e_alen, e_slen, e_blen, e_newa, e_newq, e_new, e_oinit, e_ctor, e_virt, e_stat, e_min, e_copy, e_ldc, List.cons_append, List.nil_append, List.append_nil, List.length_cons, List.length_nil, List.replicate_succ, List.replicate_zero, List.getElem?_cons_zero, List.getElem?_cons_succ, List.set_cons_zero, List.set_cons_succ, List.take_succ_cons, List.take_zero, List.drop_succ_cons, List.drop_zero, List.reverse_cons, List.reverse_nil, Option.toList_some, Option.toList_none, Nat.reduceSub, Nat.reduceAdd, Nat.reduceLeDiff, true_and, and_true, and_self, Option.some.injEq, exists_eq_left', Nat.zero_add, Value.int.injEq, Value.ref.injEq, List.cons.injEq, exists_and_left, and_assoc, exists_eq_left, List.all_cons, List.all_nil, m1_i, m1_r, Bool.and_self, Bool.and_true, B_80_116, bk_80_116, a0, a1, a2, a4, b0, gs0, gh0, hn, e2, e3, e4, e5, e6, e7, e8, C_26, C_27, m_spools gs, m_letters gs, ec, el, if_pos, if_neg, not_true_eq_false, not_false_eq_true, or_true, true_or, or_false, false_or, false_and, and_false, Nat.reduceEqDiff, Nat.reduceLT, Nat.reduceMul, Nat.not_lt_zero, Nat.zero_le, Nat.le_refl, ne_eq, reduceIte, reduceCtorEq]
    try rfl
  · simp (disch := omega) only [e_iconst, e_bipush, e_sipush, e_iload_n, e_iload, e_aload_n, e_aload, e_istore_n, e_istore, e_astore_n, e_astore, e_iinc, e_iadd, e_isub, e_imul, e_iand, e_ishr, e_idiv, e_i2c, e_dup_i, e_dup_r, e_dup2, e_pop, e_goto, e_nop, e_if_eq, e_if_ne, e_if_lt, e_if_ge, e_if_gt, e_if_le, e_icmp_eq, e_icmp_ne, e_icmp_lt, e_icmp_ge, e_icmp_gt, e_icmp_le, e_tsw, e_ret0, e_ret1, e_retn, e_getI, e_getZ, e_getR, e_getV, e_getC, e_putI, e_putZ, e_putF, e_gst0, e_gst1, e_sld, e_iald, e_cald, e_bald, e_iast, e_cast, e_aald, e_aast, e_alen, e_slen, e_blen, e_newa, e_newq, e_new, e_oinit, e_ctor, e_virt, e_stat, e_min, e_copy, e_ldc, List.cons_append, List.nil_append, List.append_nil, List.length_cons, List.length_nil, List.replicate_succ, List.replicate_zero, List.getElem?_cons_zero, List.getElem?_cons_succ, List.set_cons_zero, List.set_cons_succ, List.take_succ_cons, List.take_zero, List.drop_succ_cons, List.drop_zero, List.reverse_cons, List.reverse_nil, Option.toList_some, Option.toList_none, Nat.reduceSub, Nat.reduceAdd, Nat.reduceLeDiff, true_and, and_true, and_self, Option.some.injEq, exists_eq_left', Nat.zero_add, Value.int.injEq, Value.ref.injEq, List.cons.injEq, exists_and_left, and_assoc, exists_eq_left, List.all_cons, List.all_nil, m1_i, m1_r, Bool.and_self, Bool.and_true, E_in 80, N_80, B_80_0, bk_80_0, show mTgt 1 147 0 #[59, 67, 75, 83, 91, 99, 107, 115, 123, 131, 139] (nI 8) = 124 from by decide, if_pos, if_neg, not_true_eq_false, not_false_eq_true, or_true, true_or, or_false, false_or, false_and, and_false, Nat.reduceEqDiff, Nat.reduceLT, Nat.reduceMul, Nat.not_lt_zero, Nat.zero_le, Nat.le_refl, ne_eq, reduceIte, reduceCtorEq]
    simp (disch := omega) only [e_iconst, e_bipush, e_sipush, e_iload_n, e_iload, e_aload_n, e_aload, e_istore_n, e_istore, e_astore_n, e_astore, e_iinc, e_iadd, e_isub, e_imul, e_iand, e_ishr, e_idiv, e_i2c, e_dup_i, e_dup_r, e_dup2, e_pop, e_goto, e_nop, e_if_eq, e_if_ne, e_if_lt, e_if_ge, e_if_gt, e_if_le, e_icmp_eq, e_icmp_ne, e_icmp_lt, e_icmp_ge, e_icmp_gt, e_icmp_le, e_tsw, e_ret0, e_ret1, e_retn, e_getI, e_getZ, e_getR, e_getV, e_getC, e_putI, e_putZ, e_putF, e_gst0, e_gst1, e_sld, e_iald, e_cald, e_bald, e_iast, e_cast, e_aald, e_aast, e_alen, e_slen, e_blen, e_newa, e_newq, e_new, e_oinit, e_ctor, e_virt, e_stat, e_min, e_copy, e_ldc, List.cons_append, List.nil_append, List.append_nil, List.length_cons, List.length_nil, List.replicate_succ, List.replicate_zero, List.getElem?_cons_zero, List.getElem?_cons_succ, List.set_cons_zero, List.set_cons_succ, List.take_succ_cons, List.take_zero, List.drop_succ_cons, List.drop_zero, List.reverse_cons, List.reverse_nil, Option.toList_some, Option.toList_none, Nat.reduceSub, Nat.reduceAdd, Nat.reduceLeDiff, true_and, and_true, and_self, Option.some.injEq, exists_eq_left', Nat.zero_add, Value.int.injEq, Value.ref.injEq, List.cons.injEq, exists_and_left, and_assoc, exists_eq_left, List.all_cons, List.all_nil, m1_i, m1_r, Bool.and_self, Bool.and_true, B_80_124, bk_80_124, a0, a1, a2, a4, b0, gs0, gh0, hn, e2, e3, e4, e5, e6, e7, e8, C_26, C_27, m_spools gs, m_letters gs, ec, el, if_pos, if_neg, not_true_eq_false, not_false_eq_true, or_true, true_or, or_false, false_or, false_and, and_false, Nat.reduceEqDiff, Nat.reduceLT, Nat.reduceMul, Nat.not_lt_zero, Nat.zero_le, Nat.le_refl, ne_eq, reduceIte, reduceCtorEq]
    try rfl
  · simp (disch := omega) only [e_iconst, e_bipush, e_sipush, e_iload_n, e_iload, e_aload_n, e_aload, e_istore_n, e_istore, e_astore_n, e_astore, e_iinc, e_iadd, e_isub, e_imul, e_iand, e_ishr, e_idiv, e_i2c, e_dup_i, e_dup_r, e_dup2, e_pop, e_goto, e_nop, e_if_eq, e_if_ne, e_if_lt, e_if_ge, e_if_gt, e_if_le, e_icmp_eq, e_icmp_ne, e_icmp_lt, e_icmp_ge, e_icmp_gt, e_icmp_le, e_tsw, e_ret0, e_ret1, e_retn, e_getI, e_getZ, e_getR, e_getV, e_getC, e_putI, e_putZ, e_putF, e_gst0, e_gst1, e_sld, e_iald, e_cald, e_bald, e_iast, e_cast, e_aald, e_aast, e_alen, e_slen, e_blen, e_newa, e_newq, e_new, e_oinit, e_ctor, e_virt, e_stat, e_min, e_copy, e_ldc, List.cons_append, List.nil_append, List.append_nil, List.length_cons, List.length_nil, List.replicate_succ, List.replicate_zero, List.getElem?_cons_zero, List.getElem?_cons_succ, List.set_cons_zero, List.set_cons_succ, List.take_succ_cons, List.take_zero, List.drop_succ_cons, List.drop_zero, List.reverse_cons, List.reverse_nil, Option.toList_some, Option.toList_none, Nat.reduceSub, Nat.reduceAdd, Nat.reduceLeDiff, true_and, and_true, and_self, Option.some.injEq, exists_eq_left', Nat.zero_add, Value.int.injEq, Value.ref.injEq, List.cons.injEq, exists_and_left, and_assoc, exists_eq_left, List.all_cons, List.all_nil, m1_i, m1_r, Bool.and_self, Bool.and_true, E_in 80, N_80, B_80_0, bk_80_0, show mTgt 1 147 0 #[59, 67, 75, 83, 91, 99, 107, 115, 123, 131, 139] (nI 9) = 132 from by decide, if_pos, if_neg, not_true_eq_false, not_false_eq_true, or_true, true_or, or_false, false_or, false_and, and_false, Nat.reduceEqDiff, Nat.reduceLT, Nat.reduceMul, Nat.not_lt_zero, Nat.zero_le, Nat.le_refl, ne_eq, reduceIte, reduceCtorEq]
    simp (disch := omega) only [e_iconst, e_bipush, e_sipush, e_iload_n, e_iload, e_aload_n, e_aload, e_istore_n, e_istore, e_astore_n, e_astore, e_iinc, e_iadd, e_isub, e_imul, e_iand, e_ishr, e_idiv, e_i2c, e_dup_i, e_dup_r, e_dup2, e_pop, e_goto, e_nop, e_if_eq, e_if_ne, e_if_lt, e_if_ge, e_if_gt, e_if_le, e_icmp_eq, e_icmp_ne, e_icmp_lt, e_icmp_ge, e_icmp_gt, e_icmp_le, e_tsw, e_ret0, e_ret1, e_retn, e_getI, e_getZ, e_getR, e_getV, e_getC, e_putI, e_putZ, e_putF, e_gst0, e_gst1, e_sld, e_iald, e_cald, e_bald, e_iast, e_cast, e_aald, e_aast, e_alen, e_slen, e_blen, e_newa, e_newq, e_new, e_oinit, e_ctor, e_virt, e_stat, e_min, e_copy, e_ldc, List.cons_append, List.nil_append, List.append_nil, List.length_cons, List.length_nil, List.replicate_succ, List.replicate_zero, List.getElem?_cons_zero, List.getElem?_cons_succ, List.set_cons_zero, List.set_cons_succ, List.take_succ_cons, List.take_zero, List.drop_succ_cons, List.drop_zero, List.reverse_cons, List.reverse_nil, Option.toList_some, Option.toList_none, Nat.reduceSub, Nat.reduceAdd, Nat.reduceLeDiff, true_and, and_true, and_self, Option.some.injEq, exists_eq_left', Nat.zero_add, Value.int.injEq, Value.ref.injEq, List.cons.injEq, exists_and_left, and_assoc, exists_eq_left, List.all_cons, List.all_nil, m1_i, m1_r, Bool.and_self, Bool.and_true, B_80_132, bk_80_132, a0, a1, a2, a4, b0, gs0, gh0, hn, e2, e3, e4, e5, e6, e7, e8, C_26, C_27, m_spools gs, m_letters gs, ec, el, if_pos, if_neg, not_true_eq_false, not_false_eq_true, or_true, true_or, or_false, false_or, false_and, and_false, Nat.reduceEqDiff, Nat.reduceLT, Nat.reduceMul, Nat.not_lt_zero, Nat.zero_le, Nat.le_refl, ne_eq, reduceIte, reduceCtorEq]
    try rfl
/-- what event answers -/
def aEvent (v : Nat → Int32) (e w : Nat) : Int32 := if e < gln v then v (596 + 3 * (gln v - 1 - e) + w) else -5
set_option maxHeartbeats 8000000 in
theorem q_event {K : mK} {R : Nat → Nat → Option Nat} {I : Nat → Nat → Int32} {v H T : Nat → Int32} {n t : Nat} (hrel : REL K R I v n H t T) (e k : Nat) (he : e < 10) (hk : k ≤ 2) : QO 79 [.int (nI e), .int (nI k)] K R I (aEvent v e k) := by
  obtain ⟨f, g, hv, hn2, hn, hH, hP, hT⟩ := id hrel
  have q4 := qTu_lt g hn2
  obtain ⟨gs, -, gh, gw, gr, gr', ⟨a0, a1, a2, a3, a4, a5, a6, a7, a8⟩, ⟨b0, b1, b2⟩, cc0⟩ := id g
  have gs0 : K.2.2.1 1 = (1, 4) := gs.1
  have gs1 : R 1 0 = some 2 := gs.2.1
  have gs2 : K.2.2.1 2 = (4, 6) := gs.2.2.1
  have gs3 : R 1 1 = some 3 := gs.2.2.2.1
  have gs4 : zL K R 3 := gs.2.2.2.2.1
  have gW : ∀ s, s < 6 → zW K R (7 + 4 * s) := fun s hs => (gs.2.2.2.2.2.2 s hs).2
  have gR : ∀ s, s < 6 → R 2 s = some (7 + 4 * s) := fun s hs => (gs.2.2.2.2.2.2 s hs).1
  have gh0 := gh.1
  have gsl : K.2.2.1 3 = (1, 2) := gs4.1
  have gT := zG_tu (n := n) g
  have gst : zS K (RTu R n) 1 := gT.1
  have gt1 : RTu R n 1 0 = some 2 := gst.2.1
  have gt3 : RTu R n 1 1 = some 3 := gst.2.2.2.1
  have gt4 : zL K (RTu R n) 3 := gst.2.2.2.2.1
  have gWt : ∀ s, s < 6 → zW K (RTu R n) (7 + 4 * s) := fun s hs => (gst.2.2.2.2.2.2 s hs).2
  have gRt : ∀ s, s < 6 → RTu R n 2 s = some (7 + 4 * s) := fun s hs => (gst.2.2.2.2.2.2 s hs).1
  obtain ⟨-, a1t, a2t, a3t, a4t, a5t, a6t, a7t, a8t⟩ := gT.2.2.2.2.2.2.1
  obtain ⟨-, -, -, -, -, -, -, -, -, l, l1, l2, l3, l4⟩ := id hv.2
  have c5 : (0 : Int32) ≤ nI e := nI_pos' (by omega)
  have gl1 : gln v = l := by unfold gln; rw [l3]; exact n_cl (by omega)
  refine ⟨I, ?_, SCR_id⟩
  unfold aEvent
  rw [gl1]
  by_cases c : e < l
  · rw [if_pos c]
    obtain ⟨x1, x2, x3⟩ := l4 (l - 1 - e) (by omega)
    simp (disch := omega) only [e_iconst, e_bipush, e_sipush, e_iload_n, e_iload, e_aload_n, e_aload, e_istore_n, e_istore, e_astore_n, e_astore, e_iinc, e_iadd, e_isub, e_imul, e_iand, e_ishr, e_idiv, e_i2c, e_dup_i, e_dup_r, e_dup2, e_pop, e_goto, e_nop, e_if_eq, e_if_ne, e_if_lt, e_if_ge, e_if_gt, e_if_le, e_icmp_eq, e_icmp_ne, e_icmp_lt, e_icmp_ge, e_icmp_gt, e_icmp_le, e_tsw, e_ret0, e_ret1, e_retn, e_getI, e_getZ, e_getR, e_getV, e_getC, e_putI, e_putZ, e_putF, e_gst0, e_gst1, e_sld, e_iald, e_cald, e_bald, e_iast, e_cast, e_aald, e_aast, e_alen, e_slen, e_blen, e_newa, e_newq, e_new, e_oinit, e_ctor, e_virt, e_stat, e_min, e_copy, e_ldc, List.cons_append, List.nil_append, List.append_nil, List.length_cons, List.length_nil, List.replicate_succ, List.replicate_zero, List.getElem?_cons_zero, List.getElem?_cons_succ, List.set_cons_zero, List.set_cons_succ, List.take_succ_cons, List.take_zero, List.drop_succ_cons, List.drop_zero, List.reverse_cons, List.reverse_nil, Option.toList_some, Option.toList_none, Nat.reduceSub, Nat.reduceAdd, Nat.reduceLeDiff, true_and, and_true, and_self, Option.some.injEq, exists_eq_left', Nat.zero_add, Value.int.injEq, Value.ref.injEq, List.cons.injEq, exists_and_left, and_assoc, exists_eq_left, List.all_cons, List.all_nil, m1_i, m1_r, Bool.and_self, Bool.and_true, E_in 79, N_79, B_79_0, bk_79_0, n_ne0, o_le_l, if_neg, if_pos, if_pos, if_neg, not_true_eq_false, not_false_eq_true, or_true, true_or, or_false, false_or, false_and, and_false, Nat.reduceEqDiff, Nat.reduceLT, Nat.reduceMul, Nat.not_lt_zero, Nat.zero_le, Nat.le_refl, ne_eq, reduceIte, reduceCtorEq]
    simp (disch := omega) only [e_iconst, e_bipush, e_sipush, e_iload_n, e_iload, e_aload_n, e_aload, e_istore_n, e_istore, e_astore_n, e_astore, e_iinc, e_iadd, e_isub, e_imul, e_iand, e_ishr, e_idiv, e_i2c, e_dup_i, e_dup_r, e_dup2, e_pop, e_goto, e_nop, e_if_eq, e_if_ne, e_if_lt, e_if_ge, e_if_gt, e_if_le, e_icmp_eq, e_icmp_ne, e_icmp_lt, e_icmp_ge, e_icmp_gt, e_icmp_le, e_tsw, e_ret0, e_ret1, e_retn, e_getI, e_getZ, e_getR, e_getV, e_getC, e_putI, e_putZ, e_putF, e_gst0, e_gst1, e_sld, e_iald, e_cald, e_bald, e_iast, e_cast, e_aald, e_aast, e_alen, e_slen, e_blen, e_newa, e_newq, e_new, e_oinit, e_ctor, e_virt, e_stat, e_min, e_copy, e_ldc, List.cons_append, List.nil_append, List.append_nil, List.length_cons, List.length_nil, List.replicate_succ, List.replicate_zero, List.getElem?_cons_zero, List.getElem?_cons_succ, List.set_cons_zero, List.set_cons_succ, List.take_succ_cons, List.take_zero, List.drop_succ_cons, List.drop_zero, List.reverse_cons, List.reverse_nil, Option.toList_some, Option.toList_none, Nat.reduceSub, Nat.reduceAdd, Nat.reduceLeDiff, true_and, and_true, and_self, Option.some.injEq, exists_eq_left', Nat.zero_add, Value.int.injEq, Value.ref.injEq, List.cons.injEq, exists_and_left, and_assoc, exists_eq_left, List.all_cons, List.all_nil, m1_i, m1_r, Bool.and_self, Bool.and_true, B_79_16, bk_79_16, a0, a1, gs0, gs3, gsl, C_16, m_logTell gs4 l2 l1 c5, n_le, n_cl, if_neg, if_pos, if_neg, not_true_eq_false, not_false_eq_true, or_true, true_or, or_false, false_or, false_and, and_false, Nat.reduceEqDiff, Nat.reduceLT, Nat.reduceMul, Nat.not_lt_zero, Nat.zero_le, Nat.le_refl, ne_eq, reduceIte, reduceCtorEq]
    rcases (show k = 0 ∨ k = 1 ∨ k = 2 by omega) with rfl | rfl | rfl
    · rw [if_pos (by rfl)]; exact x1
    · rw [if_neg (by decide), if_pos (by rfl)]; rw [show 596 + 3 * (l - 1 - e) + 1 = 597 + 3 * (l - 1 - e) by omega]; exact x2
    · rw [if_neg (by decide), if_neg (by decide)]; rw [show 596 + 3 * (l - 1 - e) + 2 = 598 + 3 * (l - 1 - e) by omega]; exact x3
  · rw [if_neg c]
    have q2 : nI l ≤ nI e := by rw [n_le (by omega) (by omega)]; omega
    simp (disch := omega) only [e_iconst, e_bipush, e_sipush, e_iload_n, e_iload, e_aload_n, e_aload, e_istore_n, e_istore, e_astore_n, e_astore, e_iinc, e_iadd, e_isub, e_imul, e_iand, e_ishr, e_idiv, e_i2c, e_dup_i, e_dup_r, e_dup2, e_pop, e_goto, e_nop, e_if_eq, e_if_ne, e_if_lt, e_if_ge, e_if_gt, e_if_le, e_icmp_eq, e_icmp_ne, e_icmp_lt, e_icmp_ge, e_icmp_gt, e_icmp_le, e_tsw, e_ret0, e_ret1, e_retn, e_getI, e_getZ, e_getR, e_getV, e_getC, e_putI, e_putZ, e_putF, e_gst0, e_gst1, e_sld, e_iald, e_cald, e_bald, e_iast, e_cast, e_aald, e_aast, e_alen, e_slen, e_blen, e_newa, e_newq, e_new, e_oinit, e_ctor, e_virt, e_stat, e_min, e_copy, e_ldc, List.cons_append, List.nil_append, List.append_nil, List.length_cons, List.length_nil, List.replicate_succ, List.replicate_zero, List.getElem?_cons_zero, List.getElem?_cons_succ, List.set_cons_zero, List.set_cons_succ, List.take_succ_cons, List.take_zero, List.drop_succ_cons, List.drop_zero, List.reverse_cons, List.reverse_nil, Option.toList_some, Option.toList_none, Nat.reduceSub, Nat.reduceAdd, Nat.reduceLeDiff, true_and, and_true, and_self, Option.some.injEq, exists_eq_left', Nat.zero_add, Value.int.injEq, Value.ref.injEq, List.cons.injEq, exists_and_left, and_assoc, exists_eq_left, List.all_cons, List.all_nil, m1_i, m1_r, Bool.and_self, Bool.and_true, E_in 79, N_79, B_79_0, bk_79_0, n_ne0, o_le_l, if_neg, if_pos, if_pos, if_neg, not_true_eq_false, not_false_eq_true, or_true, true_or, or_false, false_or, false_and, and_false, Nat.reduceEqDiff, Nat.reduceLT, Nat.reduceMul, Nat.not_lt_zero, Nat.zero_le, Nat.le_refl, ne_eq, reduceIte, reduceCtorEq]
    simp (disch := omega) only [e_iconst, e_bipush, e_sipush, e_iload_n, e_iload, e_aload_n, e_aload, e_istore_n, e_istore, e_astore_n, e_astore, e_iinc, e_iadd, e_isub, e_imul, e_iand, e_ishr, e_idiv, e_i2c, e_dup_i, e_dup_r, e_dup2, e_pop, e_goto, e_nop, e_if_eq, e_if_ne, e_if_lt, e_if_ge, e_if_gt, e_if_le, e_icmp_eq, e_icmp_ne, e_icmp_lt, e_icmp_ge, e_icmp_gt, e_icmp_le, e_tsw, e_ret0, e_ret1, e_retn, e_getI, e_getZ, e_getR, e_getV, e_getC, e_putI, e_putZ, e_putF, e_gst0, e_gst1, e_sld, e_iald, e_cald, e_bald, e_iast, e_cast, e_aald, e_aast, e_alen, e_slen, e_blen, e_newa, e_newq, e_new, e_oinit, e_ctor, e_virt, e_stat, e_min, e_copy, e_ldc, List.cons_append, List.nil_append, List.append_nil, List.length_cons, List.length_nil, List.replicate_succ, List.replicate_zero, List.getElem?_cons_zero, List.getElem?_cons_succ, List.set_cons_zero, List.set_cons_succ, List.take_succ_cons, List.take_zero, List.drop_succ_cons, List.drop_zero, List.reverse_cons, List.reverse_nil, Option.toList_some, Option.toList_none, Nat.reduceSub, Nat.reduceAdd, Nat.reduceLeDiff, true_and, and_true, and_self, Option.some.injEq, exists_eq_left', Nat.zero_add, Value.int.injEq, Value.ref.injEq, List.cons.injEq, exists_and_left, and_assoc, exists_eq_left, List.all_cons, List.all_nil, m1_i, m1_r, Bool.and_self, Bool.and_true, B_79_16, bk_79_16, a0, a1, gs0, gs3, gsl, C_16, m_logTell gs4 l2 l1 c5, q2, if_pos, if_neg, not_true_eq_false, not_false_eq_true, or_true, true_or, or_false, false_or, false_and, and_false, Nat.reduceEqDiff, Nat.reduceLT, Nat.reduceMul, Nat.not_lt_zero, Nat.zero_le, Nat.le_refl, ne_eq, reduceIte, reduceCtorEq]
theorem n_16 {ch : Nat} (h : ch < 65536) : ((nI ch).toUInt32 % 65536).toInt32 = nI ch := by
  apply Int32.toBitVec_inj.mp
  show (BitVec.ofNat 32 ch) % 65536#32 = BitVec.ofNat 32 ch
  apply BitVec.eq_of_toNat_eq
  rw [BitVec.toNat_umod, BitVec.toNat_ofNat, BitVec.toNat_ofNat]
  simp only [Nat.reducePow, Nat.reduceMod]
  omega
theorem REL_text {K : mK} {R : Nat → Nat → Option Nat} {I J : Nat → Nat → Int32} {v H T T' : Nat → Int32} {n t t' : Nat} (h : REL K R I v n H t T) (hs : ∀ x, x < 183 → J x = I x) (h2 : t' ≤ 50) (h3 : J 183 1 = nI t') (h4 : ∀ k, k < t' → J 184 k = T' k) : REL K R J v n H t' T' := by
  obtain ⟨f, g, hv, hn2, hn, hH, hP, -⟩ := h
  have z4 := g.2.2.1.2.2.2.2.1
  refine ⟨f, g, RC_out hv (fun x x1 x2 => hs x (by omega)), hn2, ?_, ?_, ?_, h2, h3, h4⟩
  · rw [hs 31 (by omega)]; exact hn
  · intro j hj
    have := z4 j (by omega)
    exact RC_out (hH j hj) (fun x x1 x2 => hs x (by omega))
  · rw [hs 0 (by omega)]; exact hP
set_option maxHeartbeats 8000000 in
theorem q_clearText {K : mK} {R : Nat → Nat → Option Nat} {I : Nat → Nat → Int32} {v H T : Nat → Int32} {n t : Nat} (hrel : REL K R I v n H t T) : AO 67 [] K R I (nI t) v n H 0 T := by
  obtain ⟨f, g, hv, hn2, hn, hH, hP, hT⟩ := id hrel
  have q4 := qTu_lt g hn2
  obtain ⟨gs, -, gh, gw, gr, gr', ⟨a0, a1, a2, a3, a4, a5, a6, a7, a8⟩, ⟨b0, b1, b2⟩, cc0⟩ := id g
  have gs0 : K.2.2.1 1 = (1, 4) := gs.1
  have gs1 : R 1 0 = some 2 := gs.2.1
  have gs2 : K.2.2.1 2 = (4, 6) := gs.2.2.1
  have gs3 : R 1 1 = some 3 := gs.2.2.2.1
  have gs4 : zL K R 3 := gs.2.2.2.2.1
  have gW : ∀ s, s < 6 → zW K R (7 + 4 * s) := fun s hs => (gs.2.2.2.2.2.2 s hs).2
  have gR : ∀ s, s < 6 → R 2 s = some (7 + 4 * s) := fun s hs => (gs.2.2.2.2.2.2 s hs).1
  have gh0 := gh.1
  have gsl : K.2.2.1 3 = (1, 2) := gs4.1
  have gT := zG_tu (n := n) g
  have gst : zS K (RTu R n) 1 := gT.1
  have gt1 : RTu R n 1 0 = some 2 := gst.2.1
  have gt3 : RTu R n 1 1 = some 3 := gst.2.2.2.1
  have gt4 : zL K (RTu R n) 3 := gst.2.2.2.2.1
  have gWt : ∀ s, s < 6 → zW K (RTu R n) (7 + 4 * s) := fun s hs => (gst.2.2.2.2.2.2 s hs).2
  have gRt : ∀ s, s < 6 → RTu R n 2 s = some (7 + 4 * s) := fun s hs => (gst.2.2.2.2.2.2 s hs).1
  obtain ⟨-, a1t, a2t, a3t, a4t, a5t, a6t, a7t, a8t⟩ := gT.2.2.2.2.2.2.1
  obtain ⟨t1, t2, t4⟩ := hT
  refine ⟨R, mSet I 183 1 0, ?_, REL_text hrel (fun x hx => s_no (by omega)) (by omega) s_eq (fun k hk => absurd hk (by omega))⟩
  simp (disch := omega) only [e_iconst, e_bipush, e_sipush, e_iload_n, e_iload, e_aload_n, e_aload, e_istore_n, e_istore, e_astore_n, e_astore, e_iinc, e_iadd, e_isub, e_imul, e_iand, e_ishr, e_idiv, e_i2c, e_dup_i, e_dup_r, e_dup2, e_pop, e_goto, e_nop, e_if_eq, e_if_ne, e_if_lt, e_if_ge, e_if_gt, e_if_le, e_icmp_eq, e_icmp_ne, e_icmp_lt, e_icmp_ge, e_icmp_gt, e_icmp_le, e_tsw, e_ret0, e_ret1, e_retn, e_getI, e_getZ, e_getR, e_getV, e_getC, e_putI, e_putZ, e_putF, e_gst0, e_gst1, e_sld, e_iald, e_cald, e_bald, e_iast, e_cast, e_aald, e_aast, e_alen, e_slen, e_blen, e_newa, e_newq, e_new, e_oinit, e_ctor, e_virt, e_stat, e_min, e_copy, e_ldc, List.cons_append, List.nil_append, List.append_nil, List.length_cons, List.length_nil, List.replicate_succ, List.replicate_zero, List.getElem?_cons_zero, List.getElem?_cons_succ, List.set_cons_zero, List.set_cons_succ, List.take_succ_cons, List.take_zero, List.drop_succ_cons, List.drop_zero, List.reverse_cons, List.reverse_nil, Option.toList_some, Option.toList_none, Nat.reduceSub, Nat.reduceAdd, Nat.reduceLeDiff, true_and, and_true, and_self, Option.some.injEq, exists_eq_left', Nat.zero_add, Value.int.injEq, Value.ref.injEq, List.cons.injEq, exists_and_left, and_assoc, exists_eq_left, List.all_cons, List.all_nil, m1_i, m1_r, Bool.and_self, Bool.and_true, E_in 67, N_67, B_67_0, bk_67_0, a0, a4, b0, t2, if_pos, if_neg, not_true_eq_false, not_false_eq_true, or_true, true_or, or_false, false_or, false_and, and_false, Nat.reduceEqDiff, Nat.reduceLT, Nat.reduceMul, Nat.not_lt_zero, Nat.zero_le, Nat.le_refl, ne_eq, reduceIte, reduceCtorEq]
set_option maxHeartbeats 8000000 in
theorem q_type {K : mK} {R : Nat → Nat → Option Nat} {I : Nat → Nat → Int32} {v H T : Nat → Int32} {n t : Nat} (hrel : REL K R I v n H t T) (ch : Nat) (hch : ch < 65536) (ht : t < 50) : AO 66 [.int (nI ch)] K R I (nI (t + 1)) v n H (t + 1) (vU T t (nI ch)) := by
  obtain ⟨f, g, hv, hn2, hn, hH, hP, hT⟩ := id hrel
  have q4 := qTu_lt g hn2
  obtain ⟨gs, -, gh, gw, gr, gr', ⟨a0, a1, a2, a3, a4, a5, a6, a7, a8⟩, ⟨b0, b1, b2⟩, cc0⟩ := id g
  have gs0 : K.2.2.1 1 = (1, 4) := gs.1
  have gs1 : R 1 0 = some 2 := gs.2.1
  have gs2 : K.2.2.1 2 = (4, 6) := gs.2.2.1
  have gs3 : R 1 1 = some 3 := gs.2.2.2.1
  have gs4 : zL K R 3 := gs.2.2.2.2.1
  have gW : ∀ s, s < 6 → zW K R (7 + 4 * s) := fun s hs => (gs.2.2.2.2.2.2 s hs).2
  have gR : ∀ s, s < 6 → R 2 s = some (7 + 4 * s) := fun s hs => (gs.2.2.2.2.2.2 s hs).1
  have gh0 := gh.1
  have gsl : K.2.2.1 3 = (1, 2) := gs4.1
  have gT := zG_tu (n := n) g
  have gst : zS K (RTu R n) 1 := gT.1
  have gt1 : RTu R n 1 0 = some 2 := gst.2.1
  have gt3 : RTu R n 1 1 = some 3 := gst.2.2.2.1
  have gt4 : zL K (RTu R n) 3 := gst.2.2.2.2.1
  have gWt : ∀ s, s < 6 → zW K (RTu R n) (7 + 4 * s) := fun s hs => (gst.2.2.2.2.2.2 s hs).2
  have gRt : ∀ s, s < 6 → RTu R n 2 s = some (7 + 4 * s) := fun s hs => (gst.2.2.2.2.2.2 s hs).1
  obtain ⟨-, a1t, a2t, a3t, a4t, a5t, a6t, a7t, a8t⟩ := gT.2.2.2.2.2.2.1
  obtain ⟨t1, t2, t4⟩ := hT
  have c16 := n_16 hch
  refine ⟨R, mSet (mSet I 184 t (nI ch)) 183 1 (nI (t + 1)), ?_, REL_text hrel (fun x hx => by rw [s_no (by omega), s_no (by omega)]) (by omega) s_eq (fun k hk => ?_)⟩
  · simp (disch := omega) only [e_iconst, e_bipush, e_sipush, e_iload_n, e_iload, e_aload_n, e_aload, e_istore_n, e_istore, e_astore_n, e_astore, e_iinc, e_iadd, e_isub, e_imul, e_iand, e_ishr, e_idiv, e_i2c, e_dup_i, e_dup_r, e_dup2, e_pop, e_goto, e_nop, e_if_eq, e_if_ne, e_if_lt, e_if_ge, e_if_gt, e_if_le, e_icmp_eq, e_icmp_ne, e_icmp_lt, e_icmp_ge, e_icmp_gt, e_icmp_le, e_tsw, e_ret0, e_ret1, e_retn, e_getI, e_getZ, e_getR, e_getV, e_getC, e_putI, e_putZ, e_putF, e_gst0, e_gst1, e_sld, e_iald, e_cald, e_bald, e_iast, e_cast, e_aald, e_aast, e_alen, e_slen, e_blen, e_newa, e_newq, e_new, e_oinit, e_ctor, e_virt, e_stat, e_min, e_copy, e_ldc, List.cons_append, List.nil_append, List.append_nil, List.length_cons, List.length_nil, List.replicate_succ, List.replicate_zero, List.getElem?_cons_zero, List.getElem?_cons_succ, List.set_cons_zero, List.set_cons_succ, List.take_succ_cons, List.take_zero, List.drop_succ_cons, List.drop_zero, List.reverse_cons, List.reverse_nil, Option.toList_some, Option.toList_none, Nat.reduceSub, Nat.reduceAdd, Nat.reduceLeDiff, true_and, and_true, and_self, Option.some.injEq, exists_eq_left', Nat.zero_add, Value.int.injEq, Value.ref.injEq, List.cons.injEq, exists_and_left, and_assoc, exists_eq_left, List.all_cons, List.all_nil, m1_i, m1_r, Bool.and_self, Bool.and_true, E_in 66, N_66, B_66_0, bk_66_0, C_32, E_in 32, N_32, B_32_0, bk_32_0, B_32_11, bk_32_11, a0, a4, b0, b1, b2, t2, o_lt_l, if_pos, n_in, n_cl, o_add_l, s_ne, s_eq, c16, o_eq, if_pos, if_neg, not_true_eq_false, not_false_eq_true, or_true, true_or, or_false, false_or, false_and, and_false, Nat.reduceEqDiff, Nat.reduceLT, Nat.reduceMul, Nat.not_lt_zero, Nat.zero_le, Nat.le_refl, ne_eq, reduceIte, reduceCtorEq]
    simp (disch := omega) only [e_iconst, e_bipush, e_sipush, e_iload_n, e_iload, e_aload_n, e_aload, e_istore_n, e_istore, e_astore_n, e_astore, e_iinc, e_iadd, e_isub, e_imul, e_iand, e_ishr, e_idiv, e_i2c, e_dup_i, e_dup_r, e_dup2, e_pop, e_goto, e_nop, e_if_eq, e_if_ne, e_if_lt, e_if_ge, e_if_gt, e_if_le, e_icmp_eq, e_icmp_ne, e_icmp_lt, e_icmp_ge, e_icmp_gt, e_icmp_le, e_tsw, e_ret0, e_ret1, e_retn, e_getI, e_getZ, e_getR, e_getV, e_getC, e_putI, e_putZ, e_putF, e_gst0, e_gst1, e_sld, e_iald, e_cald, e_bald, e_iast, e_cast, e_aald, e_aast, e_alen, e_slen, e_blen, e_newa, e_newq, e_new, e_oinit, e_ctor, e_virt, e_stat, e_min, e_copy, e_ldc, List.cons_append, List.nil_append, List.append_nil, List.length_cons, List.length_nil, List.replicate_succ, List.replicate_zero, List.getElem?_cons_zero, List.getElem?_cons_succ, List.set_cons_zero, List.set_cons_succ, List.take_succ_cons, List.take_zero, List.drop_succ_cons, List.drop_zero, List.reverse_cons, List.reverse_nil, Option.toList_some, Option.toList_none, Nat.reduceSub, Nat.reduceAdd, Nat.reduceLeDiff, true_and, and_true, and_self, Option.some.injEq, exists_eq_left', Nat.zero_add, Value.int.injEq, Value.ref.injEq, List.cons.injEq, exists_and_left, and_assoc, exists_eq_left, List.all_cons, List.all_nil, m1_i, m1_r, Bool.and_self, Bool.and_true, B_66_14, bk_66_14, a0, a4, b0, s_eq, if_pos, if_neg, not_true_eq_false, not_false_eq_true, or_true, true_or, or_false, false_or, false_and, and_false, Nat.reduceEqDiff, Nat.reduceLT, Nat.reduceMul, Nat.not_lt_zero, Nat.zero_le, Nat.le_refl, ne_eq, reduceIte, reduceCtorEq]
  · rw [s_ne (by omega)]
    by_cases c : k = t
    · subst c; rw [s_eq, u_eq]
    · rw [s_ne (by omega), u_ne c]; exact t4 k (by omega)
set_option maxHeartbeats 8000000 in
theorem q_undo0 {K : mK} {R : Nat → Nat → Option Nat} {I : Nat → Nat → Int32} {v H T : Nat → Int32} {n t : Nat} (hrel : REL K R I v n H t T) (e : n = 0) : QO 70 [] K R I (-5) := by
  obtain ⟨f, g, hv, hn2, hn, hH, hP, hT⟩ := id hrel
  have q4 := qTu_lt g hn2
  obtain ⟨gs, -, gh, gw, gr, gr', ⟨a0, a1, a2, a3, a4, a5, a6, a7, a8⟩, ⟨b0, b1, b2⟩, cc0⟩ := id g
  have gs0 : K.2.2.1 1 = (1, 4) := gs.1
  have gs1 : R 1 0 = some 2 := gs.2.1
  have gs2 : K.2.2.1 2 = (4, 6) := gs.2.2.1
  have gs3 : R 1 1 = some 3 := gs.2.2.2.1
  have gs4 : zL K R 3 := gs.2.2.2.2.1
  have gW : ∀ s, s < 6 → zW K R (7 + 4 * s) := fun s hs => (gs.2.2.2.2.2.2 s hs).2
  have gR : ∀ s, s < 6 → R 2 s = some (7 + 4 * s) := fun s hs => (gs.2.2.2.2.2.2 s hs).1
  have gh0 := gh.1
  have gsl : K.2.2.1 3 = (1, 2) := gs4.1
  have gT := zG_tu (n := n) g
  have gst : zS K (RTu R n) 1 := gT.1
  have gt1 : RTu R n 1 0 = some 2 := gst.2.1
  have gt3 : RTu R n 1 1 = some 3 := gst.2.2.2.1
  have gt4 : zL K (RTu R n) 3 := gst.2.2.2.2.1
  have gWt : ∀ s, s < 6 → zW K (RTu R n) (7 + 4 * s) := fun s hs => (gst.2.2.2.2.2.2 s hs).2
  have gRt : ∀ s, s < 6 → RTu R n 2 s = some (7 + 4 * s) := fun s hs => (gst.2.2.2.2.2.2 s hs).1
  obtain ⟨-, a1t, a2t, a3t, a4t, a5t, a6t, a7t, a8t⟩ := gT.2.2.2.2.2.2.1
  refine ⟨I, ?_, SCR_id⟩
  simp (disch := omega) only [e_iconst, e_bipush, e_sipush, e_iload_n, e_iload, e_aload_n, e_aload, e_istore_n, e_istore, e_astore_n, e_astore, e_iinc, e_iadd, e_isub, e_imul, e_iand, e_ishr, e_idiv, e_i2c, e_dup_i, e_dup_r, e_dup2, e_pop, e_goto, e_nop, e_if_eq, e_if_ne, e_if_lt, e_if_ge, e_if_gt, e_if_le, e_icmp_eq, e_icmp_ne, e_icmp_lt, e_icmp_ge, e_icmp_gt, e_icmp_le, e_tsw, e_ret0, e_ret1, e_retn, e_getI, e_getZ, e_getR, e_getV, e_getC, e_putI, e_putZ, e_putF, e_gst0, e_gst1, e_sld, e_iald, e_cald, e_bald, e_iast, e_cast, e_aald, e_aast, e_alen, e_slen, e_blen, e_newa, e_newq, e_new, e_oinit, e_ctor, e_virt, e_stat, e_min, e_copy, e_ldc, List.cons_append, List.nil_append, List.append_nil, List.length_cons, List.length_nil, List.replicate_succ, List.replicate_zero, List.getElem?_cons_zero, List.getElem?_cons_succ, List.set_cons_zero, List.set_cons_succ, List.take_succ_cons, List.take_zero, List.drop_succ_cons, List.drop_zero, List.reverse_cons, List.reverse_nil, Option.toList_some, Option.toList_none, Nat.reduceSub, Nat.reduceAdd, Nat.reduceLeDiff, true_and, and_true, and_self, Option.some.injEq, exists_eq_left', Nat.zero_add, Value.int.injEq, Value.ref.injEq, List.cons.injEq, exists_and_left, and_assoc, exists_eq_left, List.all_cons, List.all_nil, m1_i, m1_r, Bool.and_self, Bool.and_true, E_in 70, N_70, B_70_0, bk_70_0, a0, a1, a2, gh0, C_11, m_takeBack gh gs hn hn2 (fun q => absurd q (by omega)), if_pos, o_eq, if_pos, if_neg, not_true_eq_false, not_false_eq_true, or_true, true_or, or_false, false_or, false_and, and_false, Nat.reduceEqDiff, Nat.reduceLT, Nat.reduceMul, Nat.not_lt_zero, Nat.zero_le, Nat.le_refl, ne_eq, reduceIte, reduceCtorEq]
set_option maxHeartbeats 8000000 in
theorem q_undo {K : mK} {R : Nat → Nat → Option Nat} {I : Nat → Nat → Int32} {v H T : Nat → Int32} {n t : Nat} (hrel : REL K R I v n H t T) (e : ¬ n = 0) : AO 70 [] K R I (nI (n - 1)) (fun x => H (626 * (n - 1) + x)) (n - 1) H t T := by
  obtain ⟨f, g, hv, hn2, hn, hH, hP, hT⟩ := id hrel
  have q4 := qTu_lt g hn2
  obtain ⟨gs, -, gh, gw, gr, gr', ⟨a0, a1, a2, a3, a4, a5, a6, a7, a8⟩, ⟨b0, b1, b2⟩, cc0⟩ := id g
  have gs0 : K.2.2.1 1 = (1, 4) := gs.1
  have gs1 : R 1 0 = some 2 := gs.2.1
  have gs2 : K.2.2.1 2 = (4, 6) := gs.2.2.1
  have gs3 : R 1 1 = some 3 := gs.2.2.2.1
  have gs4 : zL K R 3 := gs.2.2.2.2.1
  have gW : ∀ s, s < 6 → zW K R (7 + 4 * s) := fun s hs => (gs.2.2.2.2.2.2 s hs).2
  have gR : ∀ s, s < 6 → R 2 s = some (7 + 4 * s) := fun s hs => (gs.2.2.2.2.2.2 s hs).1
  have gh0 := gh.1
  have gsl : K.2.2.1 3 = (1, 2) := gs4.1
  have gT := zG_tu (n := n) g
  have gst : zS K (RTu R n) 1 := gT.1
  have gt1 : RTu R n 1 0 = some 2 := gst.2.1
  have gt3 : RTu R n 1 1 = some 3 := gst.2.2.2.1
  have gt4 : zL K (RTu R n) 3 := gst.2.2.2.2.1
  have gWt : ∀ s, s < 6 → zW K (RTu R n) (7 + 4 * s) := fun s hs => (gst.2.2.2.2.2.2 s hs).2
  have gRt : ∀ s, s < 6 → RTu R n 2 s = some (7 + 4 * s) := fun s hs => (gst.2.2.2.2.2.2 s hs).1
  obtain ⟨-, a1t, a2t, a3t, a4t, a5t, a6t, a7t, a8t⟩ := gT.2.2.2.2.2.2.1
  have z4 := gh.2.2.2.2.1 (n - 1) (by omega)
  have e1 : sCp (mSet I 31 1 (nI (n - 1))) 1 (33 + 30 * f (n - 1)) 31 1 = nI (n - 1) := by rw [sCp_o (by omega), s_eq]
  have jp : ∀ x, x = 0 ∨ 32 ≤ x → sCp (mSet I 31 1 (nI (n - 1))) 1 (33 + 30 * f (n - 1)) x = I x := fun x hx => by
    funext j; rw [sCp_o (by omega), s_ne (by omega)]
  refine ⟨R, sCp (mSet I 31 1 (nI (n - 1))) 1 (33 + 30 * f (n - 1)), ?_, f, g, ?_, by omega, e1, fun j hj => ?_, ?_, ?_⟩
  · simp (disch := omega) only [e_iconst, e_bipush, e_sipush, e_iload_n, e_iload, e_aload_n, e_aload, e_istore_n, e_istore, e_astore_n, e_astore, e_iinc, e_iadd, e_isub, e_imul, e_iand, e_ishr, e_idiv, e_i2c, e_dup_i, e_dup_r, e_dup2, e_pop, e_goto, e_nop, e_if_eq, e_if_ne, e_if_lt, e_if_ge, e_if_gt, e_if_le, e_icmp_eq, e_icmp_ne, e_icmp_lt, e_icmp_ge, e_icmp_gt, e_icmp_le, e_tsw, e_ret0, e_ret1, e_retn, e_getI, e_getZ, e_getR, e_getV, e_getC, e_putI, e_putZ, e_putF, e_gst0, e_gst1, e_sld, e_iald, e_cald, e_bald, e_iast, e_cast, e_aald, e_aast, e_alen, e_slen, e_blen, e_newa, e_newq, e_new, e_oinit, e_ctor, e_virt, e_stat, e_min, e_copy, e_ldc, List.cons_append, List.nil_append, List.append_nil, List.length_cons, List.length_nil, List.replicate_succ, List.replicate_zero, List.getElem?_cons_zero, List.getElem?_cons_succ, List.set_cons_zero, List.set_cons_succ, List.take_succ_cons, List.take_zero, List.drop_succ_cons, List.drop_zero, List.reverse_cons, List.reverse_nil, Option.toList_some, Option.toList_none, Nat.reduceSub, Nat.reduceAdd, Nat.reduceLeDiff, true_and, and_true, and_self, Option.some.injEq, exists_eq_left', Nat.zero_add, Value.int.injEq, Value.ref.injEq, List.cons.injEq, exists_and_left, and_assoc, exists_eq_left, List.all_cons, List.all_nil, m1_i, m1_r, Bool.and_self, Bool.and_true, E_in 70, N_70, B_70_0, bk_70_0, B_70_17, bk_70_17, a0, a1, a2, gh0, e, C_11, m_takeBack gh gs hn hn2 (fun _ => RC_fl (hH (n - 1) (by omega))), o_eq, e1, if_pos, if_neg, not_true_eq_false, not_false_eq_true, or_true, true_or, or_false, false_or, false_and, and_false, Nat.reduceEqDiff, Nat.reduceLT, Nat.reduceMul, Nat.not_lt_zero, Nat.zero_le, Nat.le_refl, ne_eq, reduceIte, reduceCtorEq]
  · refine RC_cong (hH (n - 1) (by omega)) (fun d j hd hvd => ?_) (fun x hx => rfl)
    rw [sCp_in hd hvd, s_ne (by omega)]
  · have z5 := gh.2.2.2.2.1 j (by omega)
    exact RC_out (hH j (by omega)) (fun x x1 x2 => jp x (by omega))
  · rw [jp 0 (by omega)]; exact hP
  · obtain ⟨t1, t2, t4⟩ := hT
    exact ⟨t1, by rw [jp _ (by omega)]; exact t2, fun k hk => by rw [jp _ (by omega)]; exact t4 k hk⟩
set_option maxHeartbeats 8000000 in
theorem q_restore {K : mK} {R : Nat → Nat → Option Nat} {I : Nat → Nat → Int32} {v H T : Nat → Int32} {n t : Nat} (hrel : REL K R I v n H t T) : QO 71 [] K R I (-5) := by
  obtain ⟨f, g, hv, hn2, hn, hH, hP, hT⟩ := id hrel
  have q4 := qTu_lt g hn2
  obtain ⟨gs, -, gh, gw, gr, gr', ⟨a0, a1, a2, a3, a4, a5, a6, a7, a8⟩, ⟨b0, b1, b2⟩, cc0⟩ := id g
  have gs0 : K.2.2.1 1 = (1, 4) := gs.1
  have gs1 : R 1 0 = some 2 := gs.2.1
  have gs2 : K.2.2.1 2 = (4, 6) := gs.2.2.1
  have gs3 : R 1 1 = some 3 := gs.2.2.2.1
  have gs4 : zL K R 3 := gs.2.2.2.2.1
  have gW : ∀ s, s < 6 → zW K R (7 + 4 * s) := fun s hs => (gs.2.2.2.2.2.2 s hs).2
  have gR : ∀ s, s < 6 → R 2 s = some (7 + 4 * s) := fun s hs => (gs.2.2.2.2.2.2 s hs).1
  have gh0 := gh.1
  have gsl : K.2.2.1 3 = (1, 2) := gs4.1
  have gT := zG_tu (n := n) g
  have gst : zS K (RTu R n) 1 := gT.1
  have gt1 : RTu R n 1 0 = some 2 := gst.2.1
  have gt3 : RTu R n 1 1 = some 3 := gst.2.2.2.1
  have gt4 : zL K (RTu R n) 3 := gst.2.2.2.2.1
  have gWt : ∀ s, s < 6 → zW K (RTu R n) (7 + 4 * s) := fun s hs => (gst.2.2.2.2.2.2 s hs).2
  have gRt : ∀ s, s < 6 → RTu R n 2 s = some (7 + 4 * s) := fun s hs => (gst.2.2.2.2.2.2 s hs).1
  obtain ⟨-, a1t, a2t, a3t, a4t, a5t, a6t, a7t, a8t⟩ := gT.2.2.2.2.2.2.1
  refine ⟨I, ?_, SCR_id⟩
  simp (disch := omega) only [e_iconst, e_bipush, e_sipush, e_iload_n, e_iload, e_aload_n, e_aload, e_istore_n, e_istore, e_astore_n, e_astore, e_iinc, e_iadd, e_isub, e_imul, e_iand, e_ishr, e_idiv, e_i2c, e_dup_i, e_dup_r, e_dup2, e_pop, e_goto, e_nop, e_if_eq, e_if_ne, e_if_lt, e_if_ge, e_if_gt, e_if_le, e_icmp_eq, e_icmp_ne, e_icmp_lt, e_icmp_ge, e_icmp_gt, e_icmp_le, e_tsw, e_ret0, e_ret1, e_retn, e_getI, e_getZ, e_getR, e_getV, e_getC, e_putI, e_putZ, e_putF, e_gst0, e_gst1, e_sld, e_iald, e_cald, e_bald, e_iast, e_cast, e_aald, e_aast, e_alen, e_slen, e_blen, e_newa, e_newq, e_new, e_oinit, e_ctor, e_virt, e_stat, e_min, e_copy, e_ldc, List.cons_append, List.nil_append, List.append_nil, List.length_cons, List.length_nil, List.replicate_succ, List.replicate_zero, List.getElem?_cons_zero, List.getElem?_cons_succ, List.set_cons_zero, List.set_cons_succ, List.take_succ_cons, List.take_zero, List.drop_succ_cons, List.drop_zero, List.reverse_cons, List.reverse_nil, Option.toList_some, Option.toList_none, Nat.reduceSub, Nat.reduceAdd, Nat.reduceLeDiff, true_and, and_true, and_self, Option.some.injEq, exists_eq_left', Nat.zero_add, Value.int.injEq, Value.ref.injEq, List.cons.injEq, exists_and_left, and_assoc, exists_eq_left, List.all_cons, List.all_nil, m1_i, m1_r, Bool.and_self, Bool.and_true, E_in 71, N_71, B_71_0, bk_71_0, a0, hP, if_pos, if_neg, not_true_eq_false, not_false_eq_true, or_true, true_or, or_false, false_or, false_and, and_false, Nat.reduceEqDiff, Nat.reduceLT, Nat.reduceMul, Nat.not_lt_zero, Nat.zero_le, Nat.le_refl, ne_eq, reduceIte, reduceCtorEq]
end
section
/-! close -/
theorem okG_n {n : Nat} (h : 2000 ≤ n) (h2 : n ≤ 9000) : okG (nI n) (nI n) := ⟨n, n, rfl, rfl, h, h2, Nat.le_refl _, by omega⟩
theorem okG_5 : okG 5000 5000 := okG_n (n := 5000) (by omega) (by omega)
theorem hRm_l {I : Nat → Nat → Int32} {q n x : Nat} (h : x < 31) : hRm I q n x = I x := hRm_w (by omega) (by omega)
/-- the ghost behind close -/
def wClose (v : Nat → Int32) (s : Nat) : Nat → Int32 := vTl (vU (vU (vU (vU v (98 * s + 1) 1) (98 * s + (4 + (gc v s + 1))) 5000) (98 * s + (36 + (gc v s + 1))) 5000) 591 (v 591 + 5000)) (gln v) 5 (nI s) (nI (gc v s))
set_option maxHeartbeats 8000000 in
theorem q_close {K : mK} {R : Nat → Nat → Option Nat} {I : Nat → Nat → Int32} {v H T : Nat → Int32} {n t : Nat} (hrel : REL K R I v n H t T) (s : Nat) (hs : s < 6) : if gp v s = 0 then QO 64 [.int (nI s)] K R I (-4) else if gl v s = 1 then QO 64 [.int (nI s)] K R I (-5) else AO 64 [.int (nI s)] K R I (nI (gc v s)) (wClose v s) (nTu n) (vRec H v n) t T := by
  obtain ⟨f, g, hv, hn2, hn, hH, hP, hT⟩ := id hrel
  have q4 := qTu_lt g hn2
  obtain ⟨gs, -, gh, gw, gr, gr', ⟨a0, a1, a2, a3, a4, a5, a6, a7, a8⟩, ⟨b0, b1, b2⟩, cc0⟩ := id g
  have gs0 : K.2.2.1 1 = (1, 4) := gs.1
  have gs1 : R 1 0 = some 2 := gs.2.1
  have gs2 : K.2.2.1 2 = (4, 6) := gs.2.2.1
  have gs3 : R 1 1 = some 3 := gs.2.2.2.1
  have gs4 : zL K R 3 := gs.2.2.2.2.1
  have gW : ∀ s, s < 6 → zW K R (7 + 4 * s) := fun s hs => (gs.2.2.2.2.2.2 s hs).2
  have gR : ∀ s, s < 6 → R 2 s = some (7 + 4 * s) := fun s hs => (gs.2.2.2.2.2.2 s hs).1
  have gh0 := gh.1
  have gsl : K.2.2.1 3 = (1, 2) := gs4.1
  have gT := zG_tu (n := n) g
  have gst : zS K (RTu R n) 1 := gT.1
  have gt1 : RTu R n 1 0 = some 2 := gst.2.1
  have gt3 : RTu R n 1 1 = some 3 := gst.2.2.2.1
  have gt4 : zL K (RTu R n) 3 := gst.2.2.2.2.1
  have gWt : ∀ s, s < 6 → zW K (RTu R n) (7 + 4 * s) := fun s hs => (gst.2.2.2.2.2.2 s hs).2
  have gRt : ∀ s, s < 6 → RTu R n 2 s = some (7 + 4 * s) := fun s hs => (gst.2.2.2.2.2.2 s hs).1
  obtain ⟨-, a1t, a2t, a3t, a4t, a5t, a6t, a7t, a8t⟩ := gT.2.2.2.2.2.2.1
  obtain ⟨p, cl, c, hw⟩ := hv.1 s hs
  rw [show 1 + 6 + 4 * s = 7 + 4 * s by omega] at hw
  obtain ⟨wf, vf, k0, k1, k2, k3, k4, k5⟩ := id hw
  obtain ⟨f1, f2, f3, f4, f5, f6⟩ := id wf
  obtain ⟨v1, v2, v3, -⟩ := id vf
  have zw := gW s hs
  have zwt := gWt s hs
  have rw := gR s hs
  have rwt := gRt s hs
  have zw0 : K.2.2.1 (7 + 4 * s) = (1, 6) := zw.1
  obtain ⟨e2, e3, e4, e5, e6, e7, e8, e9, e10, ln, l1, l2, l3, l4⟩ := id hv.2
  have gl1 : gln v = ln := by unfold gln; rw [l3]; exact n_cl (by omega)
  obtain ⟨g1, g2, g3⟩ := g_vF vf
  unfold wClose
  rw [g1, g2, g3, gl1]
  rcases (show p = 0 ∨ p = 1 by omega) with rfl | rfl
  · rw [if_pos rfl]
    refine ⟨I, ?_, SCR_id⟩
    simp (disch := omega) only [e_iconst, e_bipush, e_sipush, e_iload_n, e_iload, e_aload_n, e_aload, e_istore_n, e_istore, e_astore_n, e_astore, e_iinc, e_iadd, e_isub, e_imul, e_iand, e_ishr, e_idiv, e_i2c, e_dup_i, e_dup_r, e_dup2, e_pop, e_goto, e_nop, e_if_eq, e_if_ne, e_if_lt, e_if_ge, e_if_gt, e_if_le, e_icmp_eq, e_icmp_ne, e_icmp_lt, e_icmp_ge, e_icmp_gt, e_icmp_le, e_tsw, e_ret0, e_ret1, e_retn, e_getI, e_getZ, e_getR, e_getV, e_getC, e_putI, e_putZ, e_putF, e_gst0, e_gst1, e_sld, e_iald, e_cald, e_bald, e_iast, e_cast, e_aald, e_aast, e_alen, e_slen, e_blen, e_newa, e_newq, e_new, e_oinit, e_ctor, e_virt, e_stat, e_min, e_copy, e_ldc, List.cons_append, List.nil_append, List.append_nil, List.length_cons, List.length_nil, List.replicate_succ, List.replicate_zero, List.getElem?_cons_zero, List.getElem?_cons_succ, List.set_cons_zero, List.set_cons_succ, List.take_succ_cons, List.take_zero, List.drop_succ_cons, List.drop_zero, List.reverse_cons, List.reverse_nil, Option.toList_some, Option.toList_none, Nat.reduceSub, Nat.reduceAdd, Nat.reduceLeDiff, true_and, and_true, and_self, Option.some.injEq, exists_eq_left', Nat.zero_add, Value.int.injEq, Value.ref.injEq, List.cons.injEq, exists_and_left, and_assoc, exists_eq_left, List.all_cons, List.all_nil, m1_i, m1_r, Bool.and_self, Bool.and_true, E_in 64, N_64, B_64_0, bk_64_0, C_81, m_isSp hs, o_eq, if_pos, if_neg, not_true_eq_false, not_false_eq_true, or_true, true_or, or_false, false_or, false_and, and_false, Nat.reduceEqDiff, Nat.reduceLT, Nat.reduceMul, Nat.not_lt_zero, Nat.zero_le, Nat.le_refl, ne_eq, reduceIte, reduceCtorEq]
    simp (disch := omega) only [e_iconst, e_bipush, e_sipush, e_iload_n, e_iload, e_aload_n, e_aload, e_istore_n, e_istore, e_astore_n, e_astore, e_iinc, e_iadd, e_isub, e_imul, e_iand, e_ishr, e_idiv, e_i2c, e_dup_i, e_dup_r, e_dup2, e_pop, e_goto, e_nop, e_if_eq, e_if_ne, e_if_lt, e_if_ge, e_if_gt, e_if_le, e_icmp_eq, e_icmp_ne, e_icmp_lt, e_icmp_ge, e_icmp_gt, e_icmp_le, e_tsw, e_ret0, e_ret1, e_retn, e_getI, e_getZ, e_getR, e_getV, e_getC, e_putI, e_putZ, e_putF, e_gst0, e_gst1, e_sld, e_iald, e_cald, e_bald, e_iast, e_cast, e_aald, e_aast, e_alen, e_slen, e_blen, e_newa, e_newq, e_new, e_oinit, e_ctor, e_virt, e_stat, e_min, e_copy, e_ldc, List.cons_append, List.nil_append, List.append_nil, List.length_cons, List.length_nil, List.replicate_succ, List.replicate_zero, List.getElem?_cons_zero, List.getElem?_cons_succ, List.set_cons_zero, List.set_cons_succ, List.take_succ_cons, List.take_zero, List.drop_succ_cons, List.drop_zero, List.reverse_cons, List.reverse_nil, Option.toList_some, Option.toList_none, Nat.reduceSub, Nat.reduceAdd, Nat.reduceLeDiff, true_and, and_true, and_self, Option.some.injEq, exists_eq_left', Nat.zero_add, Value.int.injEq, Value.ref.injEq, List.cons.injEq, exists_and_left, and_assoc, exists_eq_left, List.all_cons, List.all_nil, m1_i, m1_r, Bool.and_self, Bool.and_true, B_64_9, bk_64_9, a0, a1, gs0, gs1, gs2, zw0, rw, n_in, n_cl, true_or, or_true, f1, o_eq_l, if_pos, if_neg, not_true_eq_false, not_false_eq_true, or_true, true_or, or_false, false_or, false_and, and_false, Nat.reduceEqDiff, Nat.reduceLT, Nat.reduceMul, Nat.not_lt_zero, Nat.zero_le, Nat.le_refl, ne_eq, reduceIte, reduceCtorEq]
  rw [if_neg (by omega)]
  rcases (show cl = 1 ∨ cl = 0 by omega) with rfl | rfl
  · rw [if_pos rfl]
    refine ⟨I, ?_, SCR_id⟩
    simp (disch := omega) only [e_iconst, e_bipush, e_sipush, e_iload_n, e_iload, e_aload_n, e_aload, e_istore_n, e_istore, e_astore_n, e_astore, e_iinc, e_iadd, e_isub, e_imul, e_iand, e_ishr, e_idiv, e_i2c, e_dup_i, e_dup_r, e_dup2, e_pop, e_goto, e_nop, e_if_eq, e_if_ne, e_if_lt, e_if_ge, e_if_gt, e_if_le, e_icmp_eq, e_icmp_ne, e_icmp_lt, e_icmp_ge, e_icmp_gt, e_icmp_le, e_tsw, e_ret0, e_ret1, e_retn, e_getI, e_getZ, e_getR, e_getV, e_getC, e_putI, e_putZ, e_putF, e_gst0, e_gst1, e_sld, e_iald, e_cald, e_bald, e_iast, e_cast, e_aald, e_aast, e_alen, e_slen, e_blen, e_newa, e_newq, e_new, e_oinit, e_ctor, e_virt, e_stat, e_min, e_copy, e_ldc, List.cons_append, List.nil_append, List.append_nil, List.length_cons, List.length_nil, List.replicate_succ, List.replicate_zero, List.getElem?_cons_zero, List.getElem?_cons_succ, List.set_cons_zero, List.set_cons_succ, List.take_succ_cons, List.take_zero, List.drop_succ_cons, List.drop_zero, List.reverse_cons, List.reverse_nil, Option.toList_some, Option.toList_none, Nat.reduceSub, Nat.reduceAdd, Nat.reduceLeDiff, true_and, and_true, and_self, Option.some.injEq, exists_eq_left', Nat.zero_add, Value.int.injEq, Value.ref.injEq, List.cons.injEq, exists_and_left, and_assoc, exists_eq_left, List.all_cons, List.all_nil, m1_i, m1_r, Bool.and_self, Bool.and_true, E_in 64, N_64, B_64_0, bk_64_0, C_81, m_isSp hs, o_eq, if_pos, if_neg, not_true_eq_false, not_false_eq_true, or_true, true_or, or_false, false_or, false_and, and_false, Nat.reduceEqDiff, Nat.reduceLT, Nat.reduceMul, Nat.not_lt_zero, Nat.zero_le, Nat.le_refl, ne_eq, reduceIte, reduceCtorEq]
    simp (disch := omega) only [e_iconst, e_bipush, e_sipush, e_iload_n, e_iload, e_aload_n, e_aload, e_istore_n, e_istore, e_astore_n, e_astore, e_iinc, e_iadd, e_isub, e_imul, e_iand, e_ishr, e_idiv, e_i2c, e_dup_i, e_dup_r, e_dup2, e_pop, e_goto, e_nop, e_if_eq, e_if_ne, e_if_lt, e_if_ge, e_if_gt, e_if_le, e_icmp_eq, e_icmp_ne, e_icmp_lt, e_icmp_ge, e_icmp_gt, e_icmp_le, e_tsw, e_ret0, e_ret1, e_retn, e_getI, e_getZ, e_getR, e_getV, e_getC, e_putI, e_putZ, e_putF, e_gst0, e_gst1, e_sld, e_iald, e_cald, e_bald, e_iast, e_cast, e_aald, e_aast, e_alen, e_slen, e_blen, e_newa, e_newq, e_new, e_oinit, e_ctor, e_virt, e_stat, e_min, e_copy, e_ldc, List.cons_append, List.nil_append, List.append_nil, List.length_cons, List.length_nil, List.replicate_succ, List.replicate_zero, List.getElem?_cons_zero, List.getElem?_cons_succ, List.set_cons_zero, List.set_cons_succ, List.take_succ_cons, List.take_zero, List.drop_succ_cons, List.drop_zero, List.reverse_cons, List.reverse_nil, Option.toList_some, Option.toList_none, Nat.reduceSub, Nat.reduceAdd, Nat.reduceLeDiff, true_and, and_true, and_self, Option.some.injEq, exists_eq_left', Nat.zero_add, Value.int.injEq, Value.ref.injEq, List.cons.injEq, exists_and_left, and_assoc, exists_eq_left, List.all_cons, List.all_nil, m1_i, m1_r, Bool.and_self, Bool.and_true, B_64_9, bk_64_9, B_64_29, bk_64_29, a0, a1, gs0, gs1, gs2, zw0, rw, n_in, n_cl, true_or, or_true, f1, f2, o_eq_l, if_pos, if_neg, if_pos, if_neg, not_true_eq_false, not_false_eq_true, or_true, true_or, or_false, false_or, false_and, and_false, Nat.reduceEqDiff, Nat.reduceLT, Nat.reduceMul, Nat.not_lt_zero, Nat.zero_le, Nat.le_refl, ne_eq, reduceIte, reduceCtorEq]
  rw [if_neg (by omega)]
  refine ⟨RTu R n, lAd (mSet (mSet (mSet (mSet (mSet (hRm I (qTu f n) n) (7 + 4 * s) 4 1) (7 + 4 * s + 1) (c + 1) 5000) (7 + 4 * s + 2) (c + 1) 5000) (7 + 4 * s + 3) (c + 1) (-1)) 1 5 (v 591 + 5000)) 3 ln 5 (nI s) (nI c), ?_, ?_⟩
  · simp (disch := omega) only [e_iconst, e_bipush, e_sipush, e_iload_n, e_iload, e_aload_n, e_aload, e_istore_n, e_istore, e_astore_n, e_astore, e_iinc, e_iadd, e_isub, e_imul, e_iand, e_ishr, e_idiv, e_i2c, e_dup_i, e_dup_r, e_dup2, e_pop, e_goto, e_nop, e_if_eq, e_if_ne, e_if_lt, e_if_ge, e_if_gt, e_if_le, e_icmp_eq, e_icmp_ne, e_icmp_lt, e_icmp_ge, e_icmp_gt, e_icmp_le, e_tsw, e_ret0, e_ret1, e_retn, e_getI, e_getZ, e_getR, e_getV, e_getC, e_putI, e_putZ, e_putF, e_gst0, e_gst1, e_sld, e_iald, e_cald, e_bald, e_iast, e_cast, e_aald, e_aast, e_alen, e_slen, e_blen, e_newa, e_newq, e_new, e_oinit, e_ctor, e_virt, e_stat, e_min, e_copy, e_ldc, List.cons_append, List.nil_append, List.append_nil, List.length_cons, List.length_nil, List.replicate_succ, List.replicate_zero, List.getElem?_cons_zero, List.getElem?_cons_succ, List.set_cons_zero, List.set_cons_succ, List.take_succ_cons, List.take_zero, List.drop_succ_cons, List.drop_zero, List.reverse_cons, List.reverse_nil, Option.toList_some, Option.toList_none, Nat.reduceSub, Nat.reduceAdd, Nat.reduceLeDiff, true_and, and_true, and_self, Option.some.injEq, exists_eq_left', Nat.zero_add, Value.int.injEq, Value.ref.injEq, List.cons.injEq, exists_and_left, and_assoc, exists_eq_left, List.all_cons, List.all_nil, m1_i, m1_r, Bool.and_self, Bool.and_true, E_in 64, N_64, B_64_0, bk_64_0, C_81, m_isSp hs, o_eq, if_pos, if_neg, not_true_eq_false, not_false_eq_true, or_true, true_or, or_false, false_or, false_and, and_false, Nat.reduceEqDiff, Nat.reduceLT, Nat.reduceMul, Nat.not_lt_zero, Nat.zero_le, Nat.le_refl, ne_eq, reduceIte, reduceCtorEq]
    simp (disch := omega) only [e_iconst, e_bipush, e_sipush, e_iload_n, e_iload, e_aload_n, e_aload, e_istore_n, e_istore, e_astore_n, e_astore, e_iinc, e_iadd, e_isub, e_imul, e_iand, e_ishr, e_idiv, e_i2c, e_dup_i, e_dup_r, e_dup2, e_pop, e_goto, e_nop, e_if_eq, e_if_ne, e_if_lt, e_if_ge, e_if_gt, e_if_le, e_icmp_eq, e_icmp_ne, e_icmp_lt, e_icmp_ge, e_icmp_gt, e_icmp_le, e_tsw, e_ret0, e_ret1, e_retn, e_getI, e_getZ, e_getR, e_getV, e_getC, e_putI, e_putZ, e_putF, e_gst0, e_gst1, e_sld, e_iald, e_cald, e_bald, e_iast, e_cast, e_aald, e_aast, e_alen, e_slen, e_blen, e_newa, e_newq, e_new, e_oinit, e_ctor, e_virt, e_stat, e_min, e_copy, e_ldc, List.cons_append, List.nil_append, List.append_nil, List.length_cons, List.length_nil, List.replicate_succ, List.replicate_zero, List.getElem?_cons_zero, List.getElem?_cons_succ, List.set_cons_zero, List.set_cons_succ, List.take_succ_cons, List.take_zero, List.drop_succ_cons, List.drop_zero, List.reverse_cons, List.reverse_nil, Option.toList_some, Option.toList_none, Nat.reduceSub, Nat.reduceAdd, Nat.reduceLeDiff, true_and, and_true, and_self, Option.some.injEq, exists_eq_left', Nat.zero_add, Value.int.injEq, Value.ref.injEq, List.cons.injEq, exists_and_left, and_assoc, exists_eq_left, List.all_cons, List.all_nil, m1_i, m1_r, Bool.and_self, Bool.and_true, B_64_9, bk_64_9, B_64_29, bk_64_29, a0, a1, gs0, gs1, gs2, zw0, rw, n_in, n_cl, true_or, or_true, f1, f2, o_eq_l, if_pos, if_neg, if_pos, if_neg, not_true_eq_false, not_false_eq_true, or_true, true_or, or_false, false_or, false_and, and_false, Nat.reduceEqDiff, Nat.reduceLT, Nat.reduceMul, Nat.not_lt_zero, Nat.zero_le, Nat.le_refl, ne_eq, reduceIte, reduceCtorEq]
    rw [B_64_39]
    simp (disch := omega) only [e_iconst, e_bipush, e_sipush, e_iload_n, e_iload, e_aload_n, e_aload, e_istore_n, e_istore, e_astore_n, e_astore, e_iinc, e_iadd, e_isub, e_imul, e_iand, e_ishr, e_idiv, e_i2c, e_dup_i, e_dup_r, e_dup2, e_pop, e_goto, e_nop, e_if_eq, e_if_ne, e_if_lt, e_if_ge, e_if_gt, e_if_le, e_icmp_eq, e_icmp_ne, e_icmp_lt, e_icmp_ge, e_icmp_gt, e_icmp_le, e_tsw, e_ret0, e_ret1, e_retn, e_getI, e_getZ, e_getR, e_getV, e_getC, e_putI, e_putZ, e_putF, e_gst0, e_gst1, e_sld, e_iald, e_cald, e_bald, e_iast, e_cast, e_aald, e_aast, e_alen, e_slen, e_blen, e_newa, e_newq, e_new, e_oinit, e_ctor, e_virt, e_stat, e_min, e_copy, e_ldc, List.cons_append, List.nil_append, List.append_nil, List.length_cons, List.length_nil, List.replicate_succ, List.replicate_zero, List.getElem?_cons_zero, List.getElem?_cons_succ, List.set_cons_zero, List.set_cons_succ, List.take_succ_cons, List.take_zero, List.drop_succ_cons, List.drop_zero, List.reverse_cons, List.reverse_nil, Option.toList_some, Option.toList_none, Nat.reduceSub, Nat.reduceAdd, Nat.reduceLeDiff, true_and, and_true, and_self, Option.some.injEq, exists_eq_left', Nat.zero_add, Value.int.injEq, Value.ref.injEq, List.cons.injEq, exists_and_left, and_assoc, exists_eq_left, List.all_cons, List.all_nil, m1_i, m1_r, Bool.and_self, Bool.and_true, bk_64_39, a0, a1, a2, a1t, gs0, gh0, C_9, a_remember g hv hn hn2, if_pos, if_neg, not_true_eq_false, not_false_eq_true, or_true, true_or, or_false, false_or, false_and, and_false, Nat.reduceEqDiff, Nat.reduceLT, Nat.reduceMul, Nat.not_lt_zero, Nat.zero_le, Nat.le_refl, ne_eq, reduceIte, reduceCtorEq]
    simp (disch := omega) only [e_iconst, e_bipush, e_sipush, e_iload_n, e_iload, e_aload_n, e_aload, e_istore_n, e_istore, e_astore_n, e_astore, e_iinc, e_iadd, e_isub, e_imul, e_iand, e_ishr, e_idiv, e_i2c, e_dup_i, e_dup_r, e_dup2, e_pop, e_goto, e_nop, e_if_eq, e_if_ne, e_if_lt, e_if_ge, e_if_gt, e_if_le, e_icmp_eq, e_icmp_ne, e_icmp_lt, e_icmp_ge, e_icmp_gt, e_icmp_le, e_tsw, e_ret0, e_ret1, e_retn, e_getI, e_getZ, e_getR, e_getV, e_getC, e_putI, e_putZ, e_putF, e_gst0, e_gst1, e_sld, e_iald, e_cald, e_bald, e_iast, e_cast, e_aald, e_aast, e_alen, e_slen, e_blen, e_newa, e_newq, e_new, e_oinit, e_ctor, e_virt, e_stat, e_min, e_copy, e_ldc, List.cons_append, List.nil_append, List.append_nil, List.length_cons, List.length_nil, List.replicate_succ, List.replicate_zero, List.getElem?_cons_zero, List.getElem?_cons_succ, List.set_cons_zero, List.set_cons_succ, List.take_succ_cons, List.take_zero, List.drop_succ_cons, List.drop_zero, List.reverse_cons, List.reverse_nil, Option.toList_some, Option.toList_none, Nat.reduceSub, Nat.reduceAdd, Nat.reduceLeDiff, true_and, and_true, and_self, Option.some.injEq, exists_eq_left', Nat.zero_add, Value.int.injEq, Value.ref.injEq, List.cons.injEq, exists_and_left, and_assoc, exists_eq_left, List.all_cons, List.all_nil, m1_i, m1_r, Bool.and_self, Bool.and_true, C_44, m_putEnd zwt (show hRm I (qTu f n) n (7 + 4 * s) 5 = nI c by rw [hRm_l (by omega)]; exact f3) f6, a0, a1t, gs0, zw0, gt3, gsl, C_14, s_ne, hRm_o, e5, f3, if_pos, if_neg, not_true_eq_false, not_false_eq_true, or_true, true_or, or_false, false_or, false_and, and_false, Nat.reduceEqDiff, Nat.reduceLT, Nat.reduceMul, Nat.not_lt_zero, Nat.zero_le, Nat.le_refl, ne_eq, reduceIte, reduceCtorEq]
    rw [m_logAdd gt4 (n := ln) ?_ l1]
    · simp (disch := omega) only [e_iconst, e_bipush, e_sipush, e_iload_n, e_iload, e_aload_n, e_aload, e_istore_n, e_istore, e_astore_n, e_astore, e_iinc, e_iadd, e_isub, e_imul, e_iand, e_ishr, e_idiv, e_i2c, e_dup_i, e_dup_r, e_dup2, e_pop, e_goto, e_nop, e_if_eq, e_if_ne, e_if_lt, e_if_ge, e_if_gt, e_if_le, e_icmp_eq, e_icmp_ne, e_icmp_lt, e_icmp_ge, e_icmp_gt, e_icmp_le, e_tsw, e_ret0, e_ret1, e_retn, e_getI, e_getZ, e_getR, e_getV, e_getC, e_putI, e_putZ, e_putF, e_gst0, e_gst1, e_sld, e_iald, e_cald, e_bald, e_iast, e_cast, e_aald, e_aast, e_alen, e_slen, e_blen, e_newa, e_newq, e_new, e_oinit, e_ctor, e_virt, e_stat, e_min, e_copy, e_ldc, List.cons_append, List.nil_append, List.append_nil, List.length_cons, List.length_nil, List.replicate_succ, List.replicate_zero, List.getElem?_cons_zero, List.getElem?_cons_succ, List.set_cons_zero, List.set_cons_succ, List.take_succ_cons, List.take_zero, List.drop_succ_cons, List.drop_zero, List.reverse_cons, List.reverse_nil, Option.toList_some, Option.toList_none, Nat.reduceSub, Nat.reduceAdd, Nat.reduceLeDiff, true_and, and_true, and_self, Option.some.injEq, exists_eq_left', Nat.zero_add, Value.int.injEq, Value.ref.injEq, List.cons.injEq, exists_and_left, and_assoc, exists_eq_left, List.all_cons, List.all_nil, m1_i, m1_r, Bool.and_self, Bool.and_true, zw0, s_ne, lAd_o, hRm_o, f3, if_pos, if_neg, not_true_eq_false, not_false_eq_true, or_true, true_or, or_false, false_or, false_and, and_false, Nat.reduceEqDiff, Nat.reduceLT, Nat.reduceMul, Nat.not_lt_zero, Nat.zero_le, Nat.le_refl, ne_eq, reduceIte, reduceCtorEq]
    · simp (disch := omega) only [s_ne, hRm_o]; exact l2
  · refine REL_act g hv hn2 hH hP hT (fun x x1 x2 => by funext j; simp (disch := omega) only [lAd_o, s_ne]) (by funext j; simp (disch := omega) only [lAd_o, s_ne, hRm_o]) ?_
    refine RC_upd (fun z => z = s) hv (fun z _ hz => ?_) (fun z hz1 hz2 => ⟨fun d hd => ?_, fun x x1 x2 => ?_⟩) ?_
    · subst hz
      have hng : ngp 1 0 c = c + 1 := rfl
      have hng2 : ngp 1 1 c = c + 1 + 1 := rfl
      rw [hng] at k3
      refine ⟨1, 1, c, ⟨?_, ?_, ?_, by omega, by omega, f6⟩, ⟨?_, ?_, ?_, by omega, by omega, f6⟩, fun q => absurd q (by omega), fun _ => ?_, fun _ => ?_, fun k hk => ?_, fun i hi => ?_, fun _ => ?_⟩
      · simp (disch := omega) only [lAd_o, s_ne, hRm_o]; exact f1
      · simp (disch := omega) only [lAd_o, s_ne, s_eq]; rfl
      · simp (disch := omega) only [lAd_o, s_ne, hRm_o]; exact f3
      · simp (disch := omega) only [vTl_o, u_ne]; exact v1
      · simp (disch := omega) only [vTl_o, u_ne, u_eq]; rfl
      · simp (disch := omega) only [vTl_o, u_ne]; exact v3
      · simp (disch := omega) only [lAd_o, s_ne, hRm_o, vTl_o, u_ne]; exact k1 rfl
      · simp (disch := omega) only [lAd_o, s_ne, hRm_o]; exact k2 rfl
      · rw [hng2] at hk
        by_cases c1 : k = c + 1
        · subst c1
          simp (disch := omega) only [lAd_o, s_ne, s_eq, hRm_o, vTl_o, u_ne, u_eq]
          exact ⟨trivial, trivial, okG_5⟩
        · simp (disch := omega) only [lAd_o, s_ne, hRm_o, vTl_o, u_ne]
          exact k3 k (by omega)
      · simp (disch := omega) only [lAd_o, s_ne, hRm_o, vTl_o, u_ne]; exact k4 i hi
      · simp (disch := omega) only [lAd_o, s_ne, s_eq]
    · funext j; simp (disch := omega) only [lAd_o, s_ne, hRm_o]
    · simp (disch := omega) only [vTl_o, u_ne]
    · refine rE_mk ?_ ?_ ?_ ?_ ?_ ?_ ?_ ?_ ?_ (rL_add l1 ?_ ?_ (fun e he => ?_)) <;> simp (disch := omega) only [lAd_o, s_ne, s_eq, hRm_o, vTl_o, u_ne, u_eq, e2, e3, e4, e5, e6, e7, e8]
      · exact e9
      · exact e10
      · exact l2
      · exact l3
      · exact l4 e he
end
section
/-! splice -/
/-- the row after m gaps of the wire src from l + 1 on went behind d letters of dst -/
def vCc (v : Nat → Int32) (src l dst d m : Nat) : Nat → Int32 := fun x =>
  if 98 * dst + (4 + (d + 1)) ≤ x ∧ x < 98 * dst + (4 + (d + 1)) + m then v (98 * src + (4 + (l + 1 + (x - (98 * dst + (4 + (d + 1)))))))
  else if 98 * dst + (36 + (d + 1)) ≤ x ∧ x < 98 * dst + (36 + (d + 1)) + m then v (98 * src + (36 + (l + 1 + (x - (98 * dst + (36 + (d + 1))))))) else v x
theorem vCc_o {v : Nat → Int32} {src l dst d m x : Nat} (h : ¬ (98 * dst + (4 + (d + 1)) ≤ x ∧ x < 98 * dst + (4 + (d + 1)) + m) ∧ ¬ (98 * dst + (36 + (d + 1)) ≤ x ∧ x < 98 * dst + (36 + (d + 1)) + m)) : vCc v src l dst d m x = v x := by
  unfold vCc
  rw [if_neg h.1, if_neg h.2]
theorem vCc_l {v : Nat → Int32} {src l dst d m k : Nat} (hk : k < m) : vCc v src l dst d m (98 * dst + (4 + (d + 1 + k))) = v (98 * src + (4 + (l + 1 + k))) := by
  unfold vCc
  rw [if_pos (by omega)]
  congr 2
  omega
theorem vCc_n {v : Nat → Int32} {src l dst d m k : Nat} (hk : k < m) (hm : d + 1 + m ≤ 32) : vCc v src l dst d m (98 * dst + (36 + (d + 1 + k))) = v (98 * src + (36 + (l + 1 + k))) := by
  unfold vCc
  rw [if_neg (by omega), if_pos (by omega)]
  congr 2
  omega
theorem vCc_s {v : Nat → Int32} {src l dst d k : Nat} (h2 : d + 1 + k < 32) : vU (vU (vCc v src l dst d k) (98 * dst + (4 + (d + 1 + k))) (v (98 * src + (4 + (l + 1 + k))))) (98 * dst + (36 + (d + 1 + k))) (v (98 * src + (36 + (l + 1 + k)))) = vCc v src l dst d (k + 1) := by
  funext x
  by_cases c1 : x = 98 * dst + (36 + (d + 1 + k))
  · subst c1; rw [u_eq, vCc_n (by omega) (by omega)]
  · rw [u_ne c1]
    by_cases c2 : x = 98 * dst + (4 + (d + 1 + k))
    · subst c2; rw [u_eq, vCc_l (by omega)]
    · rw [u_ne c2]
      by_cases c3 : 98 * dst + (4 + (d + 1)) ≤ x ∧ x < 98 * dst + (4 + (d + 1)) + k
      · simp (disch := omega) only [vCc, if_pos, if_neg]
      · by_cases c4 : 98 * dst + (36 + (d + 1)) ≤ x ∧ x < 98 * dst + (36 + (d + 1)) + k
        · simp (disch := omega) only [vCc, if_pos, if_neg]
        · simp (disch := omega) only [vCc, if_pos, if_neg]
/-- the row after m letters of src from l on went behind d letters of dst -/
def vTr (v : Nat → Int32) (src l dst d m : Nat) : Nat → Int32 := fun x =>
  if 98 * dst + (68 + d) ≤ x ∧ x < 98 * dst + (68 + d) + m then v (98 * src + (68 + (l + (x - (98 * dst + (68 + d)))))) else v x
theorem vTr_o {v : Nat → Int32} {src l dst d m x : Nat} (h : ¬ (98 * dst + (68 + d) ≤ x ∧ x < 98 * dst + (68 + d) + m)) : vTr v src l dst d m x = v x := if_neg h
theorem vTr_i {v : Nat → Int32} {src l dst d m k : Nat} (hk : k < m) : vTr v src l dst d m (98 * dst + (68 + (d + k))) = v (98 * src + (68 + (l + k))) := by
  unfold vTr
  rw [if_pos (by omega)]
  congr 2
  omega
theorem vTr_s {v : Nat → Int32} {src l dst d k : Nat} : vU (vTr v src l dst d k) (98 * dst + (68 + (d + k))) (v (98 * src + (68 + (l + k)))) = vTr v src l dst d (k + 1) := by
  funext x
  by_cases c1 : x = 98 * dst + (68 + (d + k))
  · subst c1; rw [u_eq, vTr_i (by omega)]
  · rw [u_ne c1]
    unfold vTr
    by_cases c3 : 98 * dst + (68 + d) ≤ x ∧ x < 98 * dst + (68 + d) + k
    · rw [if_pos c3, if_pos (by omega)]
    · rw [if_neg c3, if_neg (by omega)]
theorem vCc_0 {v : Nat → Int32} {src l dst d : Nat} : vCc v src l dst d 0 = v := by funext x; exact vCc_o ⟨by omega, by omega⟩
theorem vTr_0 {v : Nat → Int32} {src l dst d : Nat} : vTr v src l dst d 0 = v := by funext x; exact vTr_o (by omega)
theorem m_join' {K : mK} {R : Nat → Nat → Option Nat} {I : Nat → Nat → Int32} {a b ca cl c : Nat} {Q : Option Value → mH → Prop} (h : zW K R a) (h' : zW K R b) (hab : a + 4 ≤ b ∨ b + 4 ≤ a) (hca : I a 5 = nI ca) (hf : wF I b 1 cl c) (hr : ca + c ≤ 30) :
    EvM 48 [.ref a, .ref b] (K, R, I) Q ↔ Q none (K, R, mSet (mSet (mSet (mSet (mSet (mSet (wAp I a b ca 0 (c + cl)) a 5 (nI (ca + c))) a 4 (nI cl)) b 3 0) b 4 0) b 5 0) b 6 0) := m_join h h' hab hca hf hr
theorem wAp_lo {I : Nat → Nat → Int32} {a b ca l k x j : Nat} (h : j < ca + 1) : wAp I a b ca l k x j = I x j := if_neg (by omega)
theorem wAp_i {I : Nat → Nat → Int32} {a b ca l m d e : Nat} (h : e < m) (hd : 1 ≤ d ∧ d ≤ 3) : wAp I a b ca l m (a + d) (ca + 1 + e) = I (b + d) (l + 1 + e) := by
  unfold wAp
  rw [if_pos ⟨by omega, by omega, by omega⟩, show b + (a + d - a) = b + d by omega, show l + 1 + (ca + 1 + e - (ca + 1)) = l + 1 + e by omega]
theorem rW_empty {I : Nat → Nat → Int32} {a s : Nat} {v : Nat → Int32} (h1 : I a 3 = 0) (h2 : I a 4 = 0) (h3 : I a 5 = 0) (h4 : v (98 * s) = 0) (h5 : v (98 * s + 1) = 0) (h6 : v (98 * s + 2) = 0) : rW I a v s 0 0 0 :=
  ⟨⟨h1, h2, h3, by omega, by omega, by omega⟩, ⟨h4, h5, h6, by omega, by omega, by omega⟩, fun _ => ⟨rfl, rfl⟩, fun q => absurd q (by omega), fun q => absurd q (by omega), fun k hk => absurd hk (by unfold ngp; simp), fun i hi => absurd hi (by omega), fun q => absurd q (by omega)⟩
/-- the ghost behind splice -/
def wSplice (v : Nat → Int32) (s t : Nat) : Nat → Int32 := vTl (vU (vU (vU (vU (vU (vTr (vCc v t 0 s (gc v s) (gc v t + gl v t)) t 0 s (gc v s) (gc v t)) (98 * s + 1) (nI (gl v t))) (98 * s + 2) (nI (gc v s + gc v t))) (98 * t) 0) (98 * t + 1) 0) (98 * t + 2) 0) (gln v) 4 (nI s) (nI (gc v s + gc v t))
set_option maxHeartbeats 8000000 in
theorem q_splice {K : mK} {R : Nat → Nat → Option Nat} {I : Nat → Nat → Int32} {v H T : Nat → Int32} {n tt : Nat} (hrel : REL K R I v n H tt T) (s t : Nat) (hs : s < 6) (ht : t < 6) : if s = t then QO 63 [.int (nI s), .int (nI t)] K R I (-2) else if gp v s = 0 ∨ gp v t = 0 then QO 63 [.int (nI s), .int (nI t)] K R I (-4) else if 30 < gc v s + gc v t then QO 63 [.int (nI s), .int (nI t)] K R I (-3) else AO 63 [.int (nI s), .int (nI t)] K R I (nI (gc v s + gc v t)) (wSplice v s t) (nTu n) (vRec H v n) tt T := by
  obtain ⟨f, g, hv, hn2, hn, hH, hP, hT⟩ := id hrel
  have q4 := qTu_lt g hn2
  obtain ⟨gs, -, gh, gw, gr, gr', ⟨a0, a1, a2, a3, a4, a5, a6, a7, a8⟩, ⟨b0, b1, b2⟩, cc0⟩ := id g
  have gs0 : K.2.2.1 1 = (1, 4) := gs.1
  have gs1 : R 1 0 = some 2 := gs.2.1
  have gs2 : K.2.2.1 2 = (4, 6) := gs.2.2.1
  have gs3 : R 1 1 = some 3 := gs.2.2.2.1
  have gs4 : zL K R 3 := gs.2.2.2.2.1
  have gW : ∀ s, s < 6 → zW K R (7 + 4 * s) := fun s hs => (gs.2.2.2.2.2.2 s hs).2
  have gR : ∀ s, s < 6 → R 2 s = some (7 + 4 * s) := fun s hs => (gs.2.2.2.2.2.2 s hs).1
  have gh0 := gh.1
  have gsl : K.2.2.1 3 = (1, 2) := gs4.1
  have gT := zG_tu (n := n) g
  have gst : zS K (RTu R n) 1 := gT.1
  have gt1 : RTu R n 1 0 = some 2 := gst.2.1
  have gt3 : RTu R n 1 1 = some 3 := gst.2.2.2.1
  have gt4 : zL K (RTu R n) 3 := gst.2.2.2.2.1
  have gWt : ∀ s, s < 6 → zW K (RTu R n) (7 + 4 * s) := fun s hs => (gst.2.2.2.2.2.2 s hs).2
  have gRt : ∀ s, s < 6 → RTu R n 2 s = some (7 + 4 * s) := fun s hs => (gst.2.2.2.2.2.2 s hs).1
  obtain ⟨-, a1t, a2t, a3t, a4t, a5t, a6t, a7t, a8t⟩ := gT.2.2.2.2.2.2.1
  by_cases hne : s = t
  · rw [if_pos hne]
    subst hne
    refine ⟨I, ?_, SCR_id⟩
    simp (disch := omega) only [e_iconst, e_bipush, e_sipush, e_iload_n, e_iload, e_aload_n, e_aload, e_istore_n, e_istore, e_astore_n, e_astore, e_iinc, e_iadd, e_isub, e_imul, e_iand, e_ishr, e_idiv, e_i2c, e_dup_i, e_dup_r, e_dup2, e_pop, e_goto, e_nop, e_if_eq, e_if_ne, e_if_lt, e_if_ge, e_if_gt, e_if_le, e_icmp_eq, e_icmp_ne, e_icmp_lt, e_icmp_ge, e_icmp_gt, e_icmp_le, e_tsw, e_ret0, e_ret1, e_retn, e_getI, e_getZ, e_getR, e_getV, e_getC, e_putI, e_putZ, e_putF, e_gst0, e_gst1, e_sld, e_iald, e_cald, e_bald, e_iast, e_cast, e_aald, e_aast, e_alen, e_slen, e_blen, e_newa, e_newq, e_new, e_oinit, e_ctor, e_virt, e_stat, e_min, e_copy, e_ldc, List.cons_append, List.nil_append, List.append_nil, List.length_cons, List.length_nil, List.replicate_succ, List.replicate_zero, List.getElem?_cons_zero, List.getElem?_cons_succ, List.set_cons_zero, List.set_cons_succ, List.take_succ_cons, List.take_zero, List.drop_succ_cons, List.drop_zero, List.reverse_cons, List.reverse_nil, Option.toList_some, Option.toList_none, Nat.reduceSub, Nat.reduceAdd, Nat.reduceLeDiff, true_and, and_true, and_self, Option.some.injEq, exists_eq_left', Nat.zero_add, Value.int.injEq, Value.ref.injEq, List.cons.injEq, exists_and_left, and_assoc, exists_eq_left, List.all_cons, List.all_nil, m1_i, m1_r, Bool.and_self, Bool.and_true, E_in 63, N_63, B_63_0, bk_63_0, B_63_16, bk_63_16, C_81, m_isSp hs, o_eq, if_pos, if_neg, not_true_eq_false, not_false_eq_true, or_true, true_or, or_false, false_or, false_and, and_false, Nat.reduceEqDiff, Nat.reduceLT, Nat.reduceMul, Nat.not_lt_zero, Nat.zero_le, Nat.le_refl, ne_eq, reduceIte, reduceCtorEq]
  rw [if_neg hne]
  obtain ⟨pA, clA, cA, hwA⟩ := hv.1 s hs
  rw [show 1 + 6 + 4 * s = 7 + 4 * s by omega] at hwA
  obtain ⟨wfA, vfA, k0A, k1A, k2A, k3A, k4A, k5A⟩ := id hwA
  obtain ⟨f1A, f2A, f3A, f4A, f5A, f6A⟩ := id wfA
  obtain ⟨v1A, v2A, v3A, -⟩ := id vfA
  have zwA := gW s hs
  have zwtA := gWt s hs
  have rwA := gR s hs
  have rwtA := gRt s hs
  have zw0A : K.2.2.1 (7 + 4 * s) = (1, 6) := zwA.1
  obtain ⟨pB, clB, cB, hwB⟩ := hv.1 t ht
  rw [show 1 + 6 + 4 * t = 7 + 4 * t by omega] at hwB
  obtain ⟨wfB, vfB, k0B, k1B, k2B, k3B, k4B, k5B⟩ := id hwB
  obtain ⟨f1B, f2B, f3B, f4B, f5B, f6B⟩ := id wfB
  obtain ⟨v1B, v2B, v3B, -⟩ := id vfB
  have zwB := gW t ht
  have zwtB := gWt t ht
  have rwB := gR t ht
  have rwtB := gRt t ht
  have zw0B : K.2.2.1 (7 + 4 * t) = (1, 6) := zwB.1
  obtain ⟨e2, e3, e4, e5, e6, e7, e8, e9, e10, ln, l1, l2, l3, l4⟩ := id hv.2
  have gl1 : gln v = ln := by unfold gln; rw [l3]; exact n_cl (by omega)
  obtain ⟨g1A, g2A, g3A⟩ := g_vF vfA
  obtain ⟨g1B, g2B, g3B⟩ := g_vF vfB
  unfold wSplice
  rw [g1A, g3A, g1B, g2B, g3B, gl1]
  rcases (show pA = 0 ∨ pA = 1 by omega) with rfl | rfl
  · rw [if_pos (Or.inl rfl)]
    refine ⟨I, ?_, SCR_id⟩
    simp (disch := omega) only [e_iconst, e_bipush, e_sipush, e_iload_n, e_iload, e_aload_n, e_aload, e_istore_n, e_istore, e_astore_n, e_astore, e_iinc, e_iadd, e_isub, e_imul, e_iand, e_ishr, e_idiv, e_i2c, e_dup_i, e_dup_r, e_dup2, e_pop, e_goto, e_nop, e_if_eq, e_if_ne, e_if_lt, e_if_ge, e_if_gt, e_if_le, e_icmp_eq, e_icmp_ne, e_icmp_lt, e_icmp_ge, e_icmp_gt, e_icmp_le, e_tsw, e_ret0, e_ret1, e_retn, e_getI, e_getZ, e_getR, e_getV, e_getC, e_putI, e_putZ, e_putF, e_gst0, e_gst1, e_sld, e_iald, e_cald, e_bald, e_iast, e_cast, e_aald, e_aast, e_alen, e_slen, e_blen, e_newa, e_newq, e_new, e_oinit, e_ctor, e_virt, e_stat, e_min, e_copy, e_ldc, List.cons_append, List.nil_append, List.append_nil, List.length_cons, List.length_nil, List.replicate_succ, List.replicate_zero, List.getElem?_cons_zero, List.getElem?_cons_succ, List.set_cons_zero, List.set_cons_succ, List.take_succ_cons, List.take_zero, List.drop_succ_cons, List.drop_zero, List.reverse_cons, List.reverse_nil, Option.toList_some, Option.toList_none, Nat.reduceSub, Nat.reduceAdd, Nat.reduceLeDiff, true_and, and_true, and_self, Option.some.injEq, exists_eq_left', Nat.zero_add, Value.int.injEq, Value.ref.injEq, List.cons.injEq, exists_and_left, and_assoc, exists_eq_left, List.all_cons, List.all_nil, m1_i, m1_r, Bool.and_self, Bool.and_true, E_in 63, N_63, B_63_0, bk_63_0, B_63_16, bk_63_16, C_81, m_isSp hs, m_isSp ht, n_eq, hne, o_eq, if_pos, if_neg, not_true_eq_false, not_false_eq_true, or_true, true_or, or_false, false_or, false_and, and_false, Nat.reduceEqDiff, Nat.reduceLT, Nat.reduceMul, Nat.not_lt_zero, Nat.zero_le, Nat.le_refl, ne_eq, reduceIte, reduceCtorEq]
    simp (disch := omega) only [e_iconst, e_bipush, e_sipush, e_iload_n, e_iload, e_aload_n, e_aload, e_istore_n, e_istore, e_astore_n, e_astore, e_iinc, e_iadd, e_isub, e_imul, e_iand, e_ishr, e_idiv, e_i2c, e_dup_i, e_dup_r, e_dup2, e_pop, e_goto, e_nop, e_if_eq, e_if_ne, e_if_lt, e_if_ge, e_if_gt, e_if_le, e_icmp_eq, e_icmp_ne, e_icmp_lt, e_icmp_ge, e_icmp_gt, e_icmp_le, e_tsw, e_ret0, e_ret1, e_retn, e_getI, e_getZ, e_getR, e_getV, e_getC, e_putI, e_putZ, e_putF, e_gst0, e_gst1, e_sld, e_iald, e_cald, e_bald, e_iast, e_cast, e_aald, e_aast, e_alen, e_slen, e_blen, e_newa, e_newq, e_new, e_oinit, e_ctor, e_virt, e_stat, e_min, e_copy, e_ldc, List.cons_append, List.nil_append, List.append_nil, List.length_cons, List.length_nil, List.replicate_succ, List.replicate_zero, List.getElem?_cons_zero, List.getElem?_cons_succ, List.set_cons_zero, List.set_cons_succ, List.take_succ_cons, List.take_zero, List.drop_succ_cons, List.drop_zero, List.reverse_cons, List.reverse_nil, Option.toList_some, Option.toList_none, Nat.reduceSub, Nat.reduceAdd, Nat.reduceLeDiff, true_and, and_true, and_self, Option.some.injEq, exists_eq_left', Nat.zero_add, Value.int.injEq, Value.ref.injEq, List.cons.injEq, exists_and_left, and_assoc, exists_eq_left, List.all_cons, List.all_nil, m1_i, m1_r, Bool.and_self, Bool.and_true, B_63_24, bk_63_24, B_63_60, bk_63_60, a0, a1, gs0, gs1, gs2, zw0A, zw0B, rwA, rwB, n_in, n_cl, true_or, or_true, f1A, o_eq_l, if_pos, if_neg, not_true_eq_false, not_false_eq_true, or_true, true_or, or_false, false_or, false_and, and_false, Nat.reduceEqDiff, Nat.reduceLT, Nat.reduceMul, Nat.not_lt_zero, Nat.zero_le, Nat.le_refl, ne_eq, reduceIte, reduceCtorEq]
  rcases (show pB = 0 ∨ pB = 1 by omega) with rfl | rfl
  · rw [if_pos (Or.inr rfl)]
    refine ⟨I, ?_, SCR_id⟩
    simp (disch := omega) only [e_iconst, e_bipush, e_sipush, e_iload_n, e_iload, e_aload_n, e_aload, e_istore_n, e_istore, e_astore_n, e_astore, e_iinc, e_iadd, e_isub, e_imul, e_iand, e_ishr, e_idiv, e_i2c, e_dup_i, e_dup_r, e_dup2, e_pop, e_goto, e_nop, e_if_eq, e_if_ne, e_if_lt, e_if_ge, e_if_gt, e_if_le, e_icmp_eq, e_icmp_ne, e_icmp_lt, e_icmp_ge, e_icmp_gt, e_icmp_le, e_tsw, e_ret0, e_ret1, e_retn, e_getI, e_getZ, e_getR, e_getV, e_getC, e_putI, e_putZ, e_putF, e_gst0, e_gst1, e_sld, e_iald, e_cald, e_bald, e_iast, e_cast, e_aald, e_aast, e_alen, e_slen, e_blen, e_newa, e_newq, e_new, e_oinit, e_ctor, e_virt, e_stat, e_min, e_copy, e_ldc, List.cons_append, List.nil_append, List.append_nil, List.length_cons, List.length_nil, List.replicate_succ, List.replicate_zero, List.getElem?_cons_zero, List.getElem?_cons_succ, List.set_cons_zero, List.set_cons_succ, List.take_succ_cons, List.take_zero, List.drop_succ_cons, List.drop_zero, List.reverse_cons, List.reverse_nil, Option.toList_some, Option.toList_none, Nat.reduceSub, Nat.reduceAdd, Nat.reduceLeDiff, true_and, and_true, and_self, Option.some.injEq, exists_eq_left', Nat.zero_add, Value.int.injEq, Value.ref.injEq, List.cons.injEq, exists_and_left, and_assoc, exists_eq_left, List.all_cons, List.all_nil, m1_i, m1_r, Bool.and_self, Bool.and_true, E_in 63, N_63, B_63_0, bk_63_0, B_63_16, bk_63_16, C_81, m_isSp hs, m_isSp ht, n_eq, hne, o_eq, if_pos, if_neg, not_true_eq_false, not_false_eq_true, or_true, true_or, or_false, false_or, false_and, and_false, Nat.reduceEqDiff, Nat.reduceLT, Nat.reduceMul, Nat.not_lt_zero, Nat.zero_le, Nat.le_refl, ne_eq, reduceIte, reduceCtorEq]
    simp (disch := omega) only [e_iconst, e_bipush, e_sipush, e_iload_n, e_iload, e_aload_n, e_aload, e_istore_n, e_istore, e_astore_n, e_astore, e_iinc, e_iadd, e_isub, e_imul, e_iand, e_ishr, e_idiv, e_i2c, e_dup_i, e_dup_r, e_dup2, e_pop, e_goto, e_nop, e_if_eq, e_if_ne, e_if_lt, e_if_ge, e_if_gt, e_if_le, e_icmp_eq, e_icmp_ne, e_icmp_lt, e_icmp_ge, e_icmp_gt, e_icmp_le, e_tsw, e_ret0, e_ret1, e_retn, e_getI, e_getZ, e_getR, e_getV, e_getC, e_putI, e_putZ, e_putF, e_gst0, e_gst1, e_sld, e_iald, e_cald, e_bald, e_iast, e_cast, e_aald, e_aast, e_alen, e_slen, e_blen, e_newa, e_newq, e_new, e_oinit, e_ctor, e_virt, e_stat, e_min, e_copy, e_ldc, List.cons_append, List.nil_append, List.append_nil, List.length_cons, List.length_nil, List.replicate_succ, List.replicate_zero, List.getElem?_cons_zero, List.getElem?_cons_succ, List.set_cons_zero, List.set_cons_succ, List.take_succ_cons, List.take_zero, List.drop_succ_cons, List.drop_zero, List.reverse_cons, List.reverse_nil, Option.toList_some, Option.toList_none, Nat.reduceSub, Nat.reduceAdd, Nat.reduceLeDiff, true_and, and_true, and_self, Option.some.injEq, exists_eq_left', Nat.zero_add, Value.int.injEq, Value.ref.injEq, List.cons.injEq, exists_and_left, and_assoc, exists_eq_left, List.all_cons, List.all_nil, m1_i, m1_r, Bool.and_self, Bool.and_true, B_63_24, bk_63_24, B_63_60, bk_63_60, a0, a1, gs0, gs1, gs2, zw0A, zw0B, rwA, rwB, n_in, n_cl, true_or, or_true, f1A, f1B, o_eq_l, if_neg, if_pos, if_neg, not_true_eq_false, not_false_eq_true, or_true, true_or, or_false, false_or, false_and, and_false, Nat.reduceEqDiff, Nat.reduceLT, Nat.reduceMul, Nat.not_lt_zero, Nat.zero_le, Nat.le_refl, ne_eq, reduceIte, reduceCtorEq]
  rw [if_neg (by omega)]
  by_cases hfu : 30 < cA + cB
  · rw [if_pos hfu]
    refine ⟨I, ?_, SCR_id⟩
    simp (disch := omega) only [e_iconst, e_bipush, e_sipush, e_iload_n, e_iload, e_aload_n, e_aload, e_istore_n, e_istore, e_astore_n, e_astore, e_iinc, e_iadd, e_isub, e_imul, e_iand, e_ishr, e_idiv, e_i2c, e_dup_i, e_dup_r, e_dup2, e_pop, e_goto, e_nop, e_if_eq, e_if_ne, e_if_lt, e_if_ge, e_if_gt, e_if_le, e_icmp_eq, e_icmp_ne, e_icmp_lt, e_icmp_ge, e_icmp_gt, e_icmp_le, e_tsw, e_ret0, e_ret1, e_retn, e_getI, e_getZ, e_getR, e_getV, e_getC, e_putI, e_putZ, e_putF, e_gst0, e_gst1, e_sld, e_iald, e_cald, e_bald, e_iast, e_cast, e_aald, e_aast, e_alen, e_slen, e_blen, e_newa, e_newq, e_new, e_oinit, e_ctor, e_virt, e_stat, e_min, e_copy, e_ldc, List.cons_append, List.nil_append, List.append_nil, List.length_cons, List.length_nil, List.replicate_succ, List.replicate_zero, List.getElem?_cons_zero, List.getElem?_cons_succ, List.set_cons_zero, List.set_cons_succ, List.take_succ_cons, List.take_zero, List.drop_succ_cons, List.drop_zero, List.reverse_cons, List.reverse_nil, Option.toList_some, Option.toList_none, Nat.reduceSub, Nat.reduceAdd, Nat.reduceLeDiff, true_and, and_true, and_self, Option.some.injEq, exists_eq_left', Nat.zero_add, Value.int.injEq, Value.ref.injEq, List.cons.injEq, exists_and_left, and_assoc, exists_eq_left, List.all_cons, List.all_nil, m1_i, m1_r, Bool.and_self, Bool.and_true, E_in 63, N_63, B_63_0, bk_63_0, B_63_16, bk_63_16, C_81, m_isSp hs, m_isSp ht, n_eq, hne, o_eq, if_pos, if_neg, not_true_eq_false, not_false_eq_true, or_true, true_or, or_false, false_or, false_and, and_false, Nat.reduceEqDiff, Nat.reduceLT, Nat.reduceMul, Nat.not_lt_zero, Nat.zero_le, Nat.le_refl, ne_eq, reduceIte, reduceCtorEq]
    simp (disch := omega) only [e_iconst, e_bipush, e_sipush, e_iload_n, e_iload, e_aload_n, e_aload, e_istore_n, e_istore, e_astore_n, e_astore, e_iinc, e_iadd, e_isub, e_imul, e_iand, e_ishr, e_idiv, e_i2c, e_dup_i, e_dup_r, e_dup2, e_pop, e_goto, e_nop, e_if_eq, e_if_ne, e_if_lt, e_if_ge, e_if_gt, e_if_le, e_icmp_eq, e_icmp_ne, e_icmp_lt, e_icmp_ge, e_icmp_gt, e_icmp_le, e_tsw, e_ret0, e_ret1, e_retn, e_getI, e_getZ, e_getR, e_getV, e_getC, e_putI, e_putZ, e_putF, e_gst0, e_gst1, e_sld, e_iald, e_cald, e_bald, e_iast, e_cast, e_aald, e_aast, e_alen, e_slen, e_blen, e_newa, e_newq, e_new, e_oinit, e_ctor, e_virt, e_stat, e_min, e_copy, e_ldc, List.cons_append, List.nil_append, List.append_nil, List.length_cons, List.length_nil, List.replicate_succ, List.replicate_zero, List.getElem?_cons_zero, List.getElem?_cons_succ, List.set_cons_zero, List.set_cons_succ, List.take_succ_cons, List.take_zero, List.drop_succ_cons, List.drop_zero, List.reverse_cons, List.reverse_nil, Option.toList_some, Option.toList_none, Nat.reduceSub, Nat.reduceAdd, Nat.reduceLeDiff, true_and, and_true, and_self, Option.some.injEq, exists_eq_left', Nat.zero_add, Value.int.injEq, Value.ref.injEq, List.cons.injEq, exists_and_left, and_assoc, exists_eq_left, List.all_cons, List.all_nil, m1_i, m1_r, Bool.and_self, Bool.and_true, B_63_24, bk_63_24, B_63_63, bk_63_63, a0, a1, gs0, gs1, gs2, zw0A, zw0B, rwA, rwB, n_in, n_cl, true_or, or_true, f1A, f1B, f3A, f3B, n_add, o_le_l, o_eq_l, if_neg, if_pos, if_neg, not_true_eq_false, not_false_eq_true, or_true, true_or, or_false, false_or, false_and, and_false, Nat.reduceEqDiff, Nat.reduceLT, Nat.reduceMul, Nat.not_lt_zero, Nat.zero_le, Nat.le_refl, ne_eq, reduceIte, reduceCtorEq]
  rw [if_neg hfu]
  have hab : 7 + 4 * s + 4 ≤ 7 + 4 * t ∨ 7 + 4 * t + 4 ≤ 7 + 4 * s := by omega
  have hfB : wF (hRm I (qTu f n) n) (7 + 4 * t) 1 clB cB := by
    unfold wF
    rw [hRm_l (by omega)]
    exact wfB
  have hcA : hRm I (qTu f n) n (7 + 4 * s) 5 = nI cA := by rw [hRm_l (by omega)]; exact f3A
  refine ⟨RTu R n, lAd (mSet (mSet (mSet (mSet (mSet (mSet (wAp (hRm I (qTu f n) n) (7 + 4 * s) (7 + 4 * t) cA 0 (cB + clB)) (7 + 4 * s) 5 (nI (cA + cB))) (7 + 4 * s) 4 (nI clB)) (7 + 4 * t) 3 0) (7 + 4 * t) 4 0) (7 + 4 * t) 5 0) (7 + 4 * t) 6 0) 3 ln 4 (nI s) (nI (cA + cB)), ?_, ?_⟩
  · simp (disch := omega) only [e_iconst, e_bipush, e_sipush, e_iload_n, e_iload, e_aload_n, e_aload, e_istore_n, e_istore, e_astore_n, e_astore, e_iinc, e_iadd, e_isub, e_imul, e_iand, e_ishr, e_idiv, e_i2c, e_dup_i, e_dup_r, e_dup2, e_pop, e_goto, e_nop, e_if_eq, e_if_ne, e_if_lt, e_if_ge, e_if_gt, e_if_le, e_icmp_eq, e_icmp_ne, e_icmp_lt, e_icmp_ge, e_icmp_gt, e_icmp_le, e_tsw, e_ret0, e_ret1, e_retn, e_getI, e_getZ, e_getR, e_getV, e_getC, e_putI, e_putZ, e_putF, e_gst0, e_gst1, e_sld, e_iald, e_cald, e_bald, e_iast, e_cast, e_aald, e_aast, e_alen, e_slen, e_blen, e_newa, e_newq, e_new, e_oinit, e_ctor, e_virt, e_stat, e_min, e_copy, e_ldc, List.cons_append, List.nil_append, List.append_nil, List.length_cons, List.length_nil, List.replicate_succ, List.replicate_zero, List.getElem?_cons_zero, List.getElem?_cons_succ, List.set_cons_zero, List.set_cons_succ, List.take_succ_cons, List.take_zero, List.drop_succ_cons, List.drop_zero, List.reverse_cons, List.reverse_nil, Option.toList_some, Option.toList_none, Nat.reduceSub, Nat.reduceAdd, Nat.reduceLeDiff, true_and, and_true, and_self, Option.some.injEq, exists_eq_left', Nat.zero_add, Value.int.injEq, Value.ref.injEq, List.cons.injEq, exists_and_left, and_assoc, exists_eq_left, List.all_cons, List.all_nil, m1_i, m1_r, Bool.and_self, Bool.and_true, E_in 63, N_63, B_63_0, bk_63_0, B_63_16, bk_63_16, C_81, m_isSp hs, m_isSp ht, n_eq, hne, o_eq, if_pos, if_neg, not_true_eq_false, not_false_eq_true, or_true, true_or, or_false, false_or, false_and, and_false, Nat.reduceEqDiff, Nat.reduceLT, Nat.reduceMul, Nat.not_lt_zero, Nat.zero_le, Nat.le_refl, ne_eq, reduceIte, reduceCtorEq]
    simp (disch := omega) only [e_iconst, e_bipush, e_sipush, e_iload_n, e_iload, e_aload_n, e_aload, e_istore_n, e_istore, e_astore_n, e_astore, e_iinc, e_iadd, e_isub, e_imul, e_iand, e_ishr, e_idiv, e_i2c, e_dup_i, e_dup_r, e_dup2, e_pop, e_goto, e_nop, e_if_eq, e_if_ne, e_if_lt, e_if_ge, e_if_gt, e_if_le, e_icmp_eq, e_icmp_ne, e_icmp_lt, e_icmp_ge, e_icmp_gt, e_icmp_le, e_tsw, e_ret0, e_ret1, e_retn, e_getI, e_getZ, e_getR, e_getV, e_getC, e_putI, e_putZ, e_putF, e_gst0, e_gst1, e_sld, e_iald, e_cald, e_bald, e_iast, e_cast, e_aald, e_aast, e_alen, e_slen, e_blen, e_newa, e_newq, e_new, e_oinit, e_ctor, e_virt, e_stat, e_min, e_copy, e_ldc, List.cons_append, List.nil_append, List.append_nil, List.length_cons, List.length_nil, List.replicate_succ, List.replicate_zero, List.getElem?_cons_zero, List.getElem?_cons_succ, List.set_cons_zero, List.set_cons_succ, List.take_succ_cons, List.take_zero, List.drop_succ_cons, List.drop_zero, List.reverse_cons, List.reverse_nil, Option.toList_some, Option.toList_none, Nat.reduceSub, Nat.reduceAdd, Nat.reduceLeDiff, true_and, and_true, and_self, Option.some.injEq, exists_eq_left', Nat.zero_add, Value.int.injEq, Value.ref.injEq, List.cons.injEq, exists_and_left, and_assoc, exists_eq_left, List.all_cons, List.all_nil, m1_i, m1_r, Bool.and_self, Bool.and_true, B_63_24, bk_63_24, B_63_63, bk_63_63, a0, a1, gs0, gs1, gs2, zw0A, zw0B, rwA, rwB, n_in, n_cl, true_or, or_true, f1A, f1B, f3A, f3B, n_add, o_le_l, o_eq_l, if_neg, if_pos, if_pos, if_neg, not_true_eq_false, not_false_eq_true, or_true, true_or, or_false, false_or, false_and, and_false, Nat.reduceEqDiff, Nat.reduceLT, Nat.reduceMul, Nat.not_lt_zero, Nat.zero_le, Nat.le_refl, ne_eq, reduceIte, reduceCtorEq]
    rw [B_63_81]
    simp (disch := omega) only [e_iconst, e_bipush, e_sipush, e_iload_n, e_iload, e_aload_n, e_aload, e_istore_n, e_istore, e_astore_n, e_astore, e_iinc, e_iadd, e_isub, e_imul, e_iand, e_ishr, e_idiv, e_i2c, e_dup_i, e_dup_r, e_dup2, e_pop, e_goto, e_nop, e_if_eq, e_if_ne, e_if_lt, e_if_ge, e_if_gt, e_if_le, e_icmp_eq, e_icmp_ne, e_icmp_lt, e_icmp_ge, e_icmp_gt, e_icmp_le, e_tsw, e_ret0, e_ret1, e_retn, e_getI, e_getZ, e_getR, e_getV, e_getC, e_putI, e_putZ, e_putF, e_gst0, e_gst1, e_sld, e_iald, e_cald, e_bald, e_iast, e_cast, e_aald, e_aast, e_alen, e_slen, e_blen, e_newa, e_newq, e_new, e_oinit, e_ctor, e_virt, e_stat, e_min, e_copy, e_ldc, List.cons_append, List.nil_append, List.append_nil, List.length_cons, List.length_nil, List.replicate_succ, List.replicate_zero, List.getElem?_cons_zero, List.getElem?_cons_succ, List.set_cons_zero, List.set_cons_succ, List.take_succ_cons, List.take_zero, List.drop_succ_cons, List.drop_zero, List.reverse_cons, List.reverse_nil, Option.toList_some, Option.toList_none, Nat.reduceSub, Nat.reduceAdd, Nat.reduceLeDiff, true_and, and_true, and_self, Option.some.injEq, exists_eq_left', Nat.zero_add, Value.int.injEq, Value.ref.injEq, List.cons.injEq, exists_and_left, and_assoc, exists_eq_left, List.all_cons, List.all_nil, m1_i, m1_r, Bool.and_self, Bool.and_true, bk_63_81, a0, a1, a2, gs0, gh0, zw0A, C_9, C_48, C_14, a_remember g hv hn hn2, m_join' zwtA zwtB hab hcA hfB (by omega), a1t, gt3, gsl, s_ne, s_eq, if_pos, if_neg, not_true_eq_false, not_false_eq_true, or_true, true_or, or_false, false_or, false_and, and_false, Nat.reduceEqDiff, Nat.reduceLT, Nat.reduceMul, Nat.not_lt_zero, Nat.zero_le, Nat.le_refl, ne_eq, reduceIte, reduceCtorEq]
    rw [m_logAdd gt4 (n := ln) ?_ l1]
    · simp (disch := omega) only [e_iconst, e_bipush, e_sipush, e_iload_n, e_iload, e_aload_n, e_aload, e_istore_n, e_istore, e_astore_n, e_astore, e_iinc, e_iadd, e_isub, e_imul, e_iand, e_ishr, e_idiv, e_i2c, e_dup_i, e_dup_r, e_dup2, e_pop, e_goto, e_nop, e_if_eq, e_if_ne, e_if_lt, e_if_ge, e_if_gt, e_if_le, e_icmp_eq, e_icmp_ne, e_icmp_lt, e_icmp_ge, e_icmp_gt, e_icmp_le, e_tsw, e_ret0, e_ret1, e_retn, e_getI, e_getZ, e_getR, e_getV, e_getC, e_putI, e_putZ, e_putF, e_gst0, e_gst1, e_sld, e_iald, e_cald, e_bald, e_iast, e_cast, e_aald, e_aast, e_alen, e_slen, e_blen, e_newa, e_newq, e_new, e_oinit, e_ctor, e_virt, e_stat, e_min, e_copy, e_ldc, List.cons_append, List.nil_append, List.append_nil, List.length_cons, List.length_nil, List.replicate_succ, List.replicate_zero, List.getElem?_cons_zero, List.getElem?_cons_succ, List.set_cons_zero, List.set_cons_succ, List.take_succ_cons, List.take_zero, List.drop_succ_cons, List.drop_zero, List.reverse_cons, List.reverse_nil, Option.toList_some, Option.toList_none, Nat.reduceSub, Nat.reduceAdd, Nat.reduceLeDiff, true_and, and_true, and_self, Option.some.injEq, exists_eq_left', Nat.zero_add, Value.int.injEq, Value.ref.injEq, List.cons.injEq, exists_and_left, and_assoc, exists_eq_left, List.all_cons, List.all_nil, m1_i, m1_r, Bool.and_self, Bool.and_true, zw0A, s_ne, s_eq, lAd_o, if_pos, if_neg, not_true_eq_false, not_false_eq_true, or_true, true_or, or_false, false_or, false_and, and_false, Nat.reduceEqDiff, Nat.reduceLT, Nat.reduceMul, Nat.not_lt_zero, Nat.zero_le, Nat.le_refl, ne_eq, reduceIte, reduceCtorEq]
    · simp (disch := omega) only [s_ne, wAp_o, hRm_o]; exact l2
  · refine REL_act g hv hn2 hH hP hT (fun x x1 x2 => by funext j; simp (disch := omega) only [lAd_o, s_ne, wAp_o]) (by funext j; simp (disch := omega) only [lAd_o, s_ne, wAp_o, hRm_o]) ?_
    refine RC_upd (fun z => z = s ∨ z = t) hv (fun z _ hz => ?_) (fun z hz1 hz2 => ⟨fun d hd => ?_, fun x x1 x2 => ?_⟩) ?_
    · rcases hz with rfl | rfl
      · have hng : ngp 1 clA cA = cA + 1 + clA := rfl
        have hng2 : ngp 1 clB cB = cB + 1 + clB := rfl
        rw [hng] at k3A
        rw [hng2] at k3B
        refine ⟨1, clB, cA + cB, ⟨?_, ?_, ?_, by omega, by omega, by omega⟩, ⟨?_, ?_, ?_, by omega, by omega, by omega⟩, fun q => absurd q (by omega), fun _ => ?_, fun _ => ?_, fun k hk => ?_, fun i hi => ?_, fun q => ?_⟩
        · simp (disch := omega) only [lAd_o, s_ne, wAp_o, hRm_o]; exact f1A
        · simp (disch := omega) only [lAd_o, s_ne, s_eq]
        · simp (disch := omega) only [lAd_o, s_ne, s_eq]
        · simp (disch := omega) only [vTl_o, u_ne, vTr_o, vCc_o]; exact v1A
        · simp (disch := omega) only [vTl_o, u_ne, u_eq]
        · simp (disch := omega) only [vTl_o, u_ne, u_eq]
        · simp (disch := omega) only [lAd_o, s_ne, wAp_o, hRm_o, vTl_o, u_ne, vTr_o, vCc_o]; exact k1A rfl
        · simp (disch := omega) only [lAd_o, s_ne, wAp_lo, hRm_o]; exact k2A rfl
        · have hk2 : k < cA + cB + 1 + clB := hk
          by_cases c1 : k < cA + 1
          · simp (disch := omega) only [lAd_o, s_ne, wAp_lo, hRm_o, vTl_o, u_ne, vTr_o, vCc_o]
            exact k3A k (by omega)
          · obtain ⟨e, rfl⟩ : ∃ e, k = cA + 1 + e := ⟨k - (cA + 1), by omega⟩
            simp (disch := omega) only [lAd_o, s_ne, wAp_i, hRm_o, vTl_o, u_ne, vTr_o, vCc_l, vCc_n]
            exact k3B (0 + 1 + e) (by omega)
        · by_cases c1 : i < cA
          · simp (disch := omega) only [lAd_o, s_ne, wAp_lo, hRm_o, vTl_o, u_ne, vTr_o, vCc_o]
            exact k4A i c1
          · obtain ⟨e, rfl⟩ : ∃ e, i = cA + e := ⟨i - cA, by omega⟩
            rw [show cA + e + 1 = cA + 1 + e by omega]
            simp (disch := omega) only [lAd_o, s_ne, wAp_i, hRm_o, vTl_o, u_ne, vTr_i, vCc_o]
            have := k4B e (by omega)
            rw [show 0 + 1 + e = e + 1 by omega, show 0 + e = e by omega]
            exact this
        · rw [show cA + cB + 1 = cA + 1 + cB by omega]
          simp (disch := omega) only [lAd_o, s_ne, wAp_i, hRm_o]
          rw [show 0 + 1 + cB = cB + 1 by omega]
          exact k5B q
      · refine ⟨0, 0, 0, rW_empty ?_ ?_ ?_ ?_ ?_ ?_⟩ <;> simp (disch := omega) only [lAd_o, s_ne, s_eq, vTl_o, u_ne, u_eq]
    · funext j; simp (disch := omega) only [lAd_o, s_ne, wAp_o, hRm_o]
    · simp (disch := omega) only [vTl_o, u_ne, vTr_o, vCc_o]
    · refine rE_mk ?_ ?_ ?_ ?_ ?_ ?_ ?_ ?_ ?_ (rL_add l1 ?_ ?_ (fun e he => ?_)) <;> simp (disch := omega) only [lAd_o, s_ne, s_eq, wAp_o, hRm_o, vTl_o, u_ne, u_eq, vTr_o, vCc_o, e2, e3, e4, e5, e6, e7, e8]
      · exact e9
      · exact e10
      · exact l2
      · exact l3
      · exact l4 e he
end
section
/-! cut -/
theorem fB_hit {P : Nat → Bool} {n k : Nat} (h : fB P n k = n) (hk : k < n) (hp : P k = true) : fB P n n = k := by
  have hs : fB P n (k + 1) = k := by simp [fB, h, hp]
  have hst : ∀ j, k + 1 ≤ j → j ≤ n → fB P n j = k := by
    intro j
    induction j with
    | zero => intro h; omega
    | succ j ih =>
      intro hj1 hj2
      rcases Nat.lt_or_ge j (k + 1) with z | z
      · rw [show j = k by omega]; exact hs
      · rw [fB, ih z (by omega), if_neg (by omega)]
  exact hst n (by omega) (Nat.le_refl _)
theorem fB_cg {P P' : Nat → Bool} {n : Nat} : ∀ k, k ≤ n → (∀ s, s < n → P s = P' s) → fB P n k = fB P' n k := by
  intro k
  induction k with
  | zero => intro _ _; rfl
  | succ k ih => intro hk h; simp only [fB, ih (by omega) h, h k (by omega)]
theorem RC_low {I : Nat → Nat → Int32} {a : Nat} {v : Nat → Int32} (h : RC I a v) : fB (fun s => I (a + 6 + 4 * s) 3 == 0) 6 6 = fB (fun s => v (98 * s) == 0) 6 6 := by
  refine fB_cg 6 (by omega) (fun s hs => ?_)
  obtain ⟨p, cl, c, ⟨f1, -⟩, ⟨g1, -⟩, -⟩ := h.1 s hs
  rw [f1, g1]
theorem m_letI {K : mK} {R : Nat → Nat → Option Nat} {I : Nat → Nat → Int32} {a l c : Nat} {Q : Option Value → mH → Prop} (h : zW K R a) (hc : I a 5 = nI c) (hl : l < c) (hc2 : c ≤ 1000) : EvM 39 [.ref a, .int (nI l)] (K, R, I) Q ↔ Q (some (.int 1)) (K, R, I) := by
  rw [m_hasLetter h, hc, if_neg (n_ne0 (by omega)), if_neg (by rw [n_le (by omega) (by omega)]; omega)]
theorem m_letO {K : mK} {R : Nat → Nat → Option Nat} {I : Nat → Nat → Int32} {a c : Nat} {x : Int32} {Q : Option Value → mH → Prop} (h : zW K R a) (hc : I a 5 = nI c) (q : x < 0 ∨ nI c ≤ x) : EvM 39 [.ref a, .int x] (K, R, I) Q ↔ Q (some (.int 0)) (K, R, I) := by
  rw [m_hasLetter h, hc]
  by_cases c1 : x < 0
  · rw [if_pos c1]
  · have q2 : nI c ≤ x := by
      rcases q with q | q
      · exact absurd q c1
      · exact q
    rw [if_neg c1, if_pos q2]
theorem m_takeTail' {K : mK} {R : Nat → Nat → Option Nat} {I : Nat → Nat → Int32} {a b cl c l : Nat} {Q : Option Value → mH → Prop} (h : zW K R a) (h' : zW K R b) (hab : a + 4 ≤ b ∨ b + 4 ≤ a) (hf : wF I b 1 cl c) (hl : l ≤ c) :
    EvM 47 [.ref a, .ref b, .int (nI l)] (K, R, I) Q ↔ Q none (K, R, mSet (mSet (mSet (mSet (wAp (mSet (mSet (mSet (mSet (mSet (mSet (mSet (mSet I a 3 0) a 4 0) a 5 0) a 6 0) a 3 1) (a + 1) 0 5000) (a + 2) 0 5000) (a + 3) 0 (-1)) a b 0 l (c - l + cl)) a 5 (nI (c - l))) a 4 (nI cl)) b 5 (nI l)) b 4 0) := by
  have := m_takeTail (Q := Q) h h' hab hf hl
  rw [show c + cl - l = c - l + cl by omega, show 0 + (c - l) = c - l by omega] at this
  exact this
/-- the first empty spool, else 6 -/
def gLow (v : Nat → Int32) : Nat := fB (fun s => v (98 * s) == 0) 6 6
/-- the ghost behind a cut ahead of the letter l -/
def wCut (v : Nat → Int32) (s l : Nat) : Nat → Int32 := vTl (vU (vU (vU (vU (vU (vU (vU (vU (vU (vTr (vCc v s l (gLow v) 0 (gc v s - l + gl v s)) s l (gLow v) 0 (gc v s - l)) (98 * gLow v + 4) 5000) (98 * gLow v + 36) 5000) 591 (v 591 + 5000)) (98 * gLow v) 1) (98 * gLow v + 1) (nI (gl v s))) (98 * gLow v + 2) (nI (gc v s - l))) (98 * gLow v + 3) 0) (98 * s + 1) 0) (98 * s + 2) (nI l)) (gln v) 3 (nI s) (nI (gLow v))
set_option maxHeartbeats 8000000 in
theorem q_cut {K : mK} {R : Nat → Nat → Option Nat} {I : Nat → Nat → Int32} {v H T : Nat → Int32} {n tt : Nat} (hrel : REL K R I v n H tt T) (s l : Nat) (hs : s < 6) (hl0 : l ≤ 1000) : if gc v s ≤ l then QO 62 [.int (nI s), .int (nI l)] K R I (-1) else if gLow v = 6 then QO 62 [.int (nI s), .int (nI l)] K R I (-3) else AO 62 [.int (nI s), .int (nI l)] K R I (nI (gLow v)) (wCut v s l) (nTu n) (vRec H v n) tt T := by
  obtain ⟨f, g, hv, hn2, hn, hH, hP, hT⟩ := id hrel
  have q4 := qTu_lt g hn2
  obtain ⟨gs, -, gh, gw, gr, gr', ⟨a0, a1, a2, a3, a4, a5, a6, a7, a8⟩, ⟨b0, b1, b2⟩, cc0⟩ := id g
  have gs0 : K.2.2.1 1 = (1, 4) := gs.1
  have gs1 : R 1 0 = some 2 := gs.2.1
  have gs2 : K.2.2.1 2 = (4, 6) := gs.2.2.1
  have gs3 : R 1 1 = some 3 := gs.2.2.2.1
  have gs4 : zL K R 3 := gs.2.2.2.2.1
  have gW : ∀ s, s < 6 → zW K R (7 + 4 * s) := fun s hs => (gs.2.2.2.2.2.2 s hs).2
  have gR : ∀ s, s < 6 → R 2 s = some (7 + 4 * s) := fun s hs => (gs.2.2.2.2.2.2 s hs).1
  have gh0 := gh.1
  have gsl : K.2.2.1 3 = (1, 2) := gs4.1
  have gT := zG_tu (n := n) g
  have gst : zS K (RTu R n) 1 := gT.1
  have gt1 : RTu R n 1 0 = some 2 := gst.2.1
  have gt3 : RTu R n 1 1 = some 3 := gst.2.2.2.1
  have gt4 : zL K (RTu R n) 3 := gst.2.2.2.2.1
  have gWt : ∀ s, s < 6 → zW K (RTu R n) (7 + 4 * s) := fun s hs => (gst.2.2.2.2.2.2 s hs).2
  have gRt : ∀ s, s < 6 → RTu R n 2 s = some (7 + 4 * s) := fun s hs => (gst.2.2.2.2.2.2 s hs).1
  obtain ⟨-, a1t, a2t, a3t, a4t, a5t, a6t, a7t, a8t⟩ := gT.2.2.2.2.2.2.1
  obtain ⟨pA, clA, cA, hwA⟩ := hv.1 s hs
  rw [show 1 + 6 + 4 * s = 7 + 4 * s by omega] at hwA
  obtain ⟨wfA, vfA, k0A, k1A, k2A, k3A, k4A, k5A⟩ := id hwA
  obtain ⟨f1A, f2A, f3A, f4A, f5A, f6A⟩ := id wfA
  obtain ⟨v1A, v2A, v3A, -⟩ := id vfA
  have zwA := gW s hs
  have zwtA := gWt s hs
  have rwA := gR s hs
  have rwtA := gRt s hs
  have zw0A : K.2.2.1 (7 + 4 * s) = (1, 6) := zwA.1
  obtain ⟨g1A, g2A, g3A⟩ := g_vF vfA
  by_cases hl : l < cA
  rotate_left
  · rw [g3A, if_pos (by omega)]
    refine ⟨I, ?_, SCR_id⟩
    have q : nI l < 0 ∨ nI cA ≤ nI l := Or.inr (by rw [n_le (by omega) (by omega)]; omega)
    simp (disch := omega) only [e_iconst, e_bipush, e_sipush, e_iload_n, e_iload, e_aload_n, e_aload, e_istore_n, e_istore, e_astore_n, e_astore, e_iinc, e_iadd, e_isub, e_imul, e_iand, e_ishr, e_idiv, e_i2c, e_dup_i, e_dup_r, e_dup2, e_pop, e_goto, e_nop, e_if_eq, e_if_ne, e_if_lt, e_if_ge, e_if_gt, e_if_le, e_icmp_eq, e_icmp_ne, e_icmp_lt, e_icmp_ge, e_icmp_gt, e_icmp_le, e_tsw, e_ret0, e_ret1, e_retn, e_getI, e_getZ, e_getR, e_getV, e_getC, e_putI, e_putZ, e_putF, e_gst0, e_gst1, e_sld, e_iald, e_cald, e_bald, e_iast, e_cast, e_aald, e_aast, e_alen, e_slen, e_blen, e_newa, e_newq, e_new, e_oinit, e_ctor, e_virt, e_stat, e_min, e_copy, e_ldc, List.cons_append, List.nil_append, List.append_nil, List.length_cons, List.length_nil, List.replicate_succ, List.replicate_zero, List.getElem?_cons_zero, List.getElem?_cons_succ, List.set_cons_zero, List.set_cons_succ, List.take_succ_cons, List.take_zero, List.drop_succ_cons, List.drop_zero, List.reverse_cons, List.reverse_nil, Option.toList_some, Option.toList_none, Nat.reduceSub, Nat.reduceAdd, Nat.reduceLeDiff, true_and, and_true, and_self, Option.some.injEq, exists_eq_left', Nat.zero_add, Value.int.injEq, Value.ref.injEq, List.cons.injEq, exists_and_left, and_assoc, exists_eq_left, List.all_cons, List.all_nil, m1_i, m1_r, Bool.and_self, Bool.and_true, E_in 62, N_62, B_62_0, bk_62_0, B_62_23, bk_62_23, C_81, C_39, m_isSp hs, m_letO zwA f3A q, a0, a1, gs0, gs1, gs2, zw0A, rwA, n_in, n_cl, true_or, or_true, o_eq, if_pos, if_neg, not_true_eq_false, not_false_eq_true, or_true, true_or, or_false, false_or, false_and, and_false, Nat.reduceEqDiff, Nat.reduceLT, Nat.reduceMul, Nat.not_lt_zero, Nat.zero_le, Nat.le_refl, ne_eq, reduceIte, reduceCtorEq]
  have hp1 : pA = 1 := by
    rcases (show pA = 0 ∨ pA = 1 by omega) with e | e
    · have := (k0A e).2; omega
    · exact e
  subst hp1
  obtain ⟨e2, e3, e4, e5, e6, e7, e8, e9, e10, ln, l1, l2, l3, l4⟩ := id hv.2
  have gl1 : gln v = ln := by unfold gln; rw [l3]; exact n_cl (by omega)
  have hlow := RC_low hv
  obtain ⟨tl, tp, -⟩ := fB_le (fun s => v (98 * s) == 0) 6 6 (Nat.le_refl _)
  unfold wCut gLow
  rw [g2A, g3A, gl1, if_neg (by omega)]
  generalize htt : fB (fun s => v (98 * s) == 0) 6 6 = t at hlow tl tp ⊢
  by_cases ht6 : t = 6
  · rw [if_pos ht6]
    subst ht6
    refine ⟨I, ?_, SCR_id⟩
    simp (disch := omega) only [e_iconst, e_bipush, e_sipush, e_iload_n, e_iload, e_aload_n, e_aload, e_istore_n, e_istore, e_astore_n, e_astore, e_iinc, e_iadd, e_isub, e_imul, e_iand, e_ishr, e_idiv, e_i2c, e_dup_i, e_dup_r, e_dup2, e_pop, e_goto, e_nop, e_if_eq, e_if_ne, e_if_lt, e_if_ge, e_if_gt, e_if_le, e_icmp_eq, e_icmp_ne, e_icmp_lt, e_icmp_ge, e_icmp_gt, e_icmp_le, e_tsw, e_ret0, e_ret1, e_retn, e_getI, e_getZ, e_getR, e_getV, e_getC, e_putI, e_putZ, e_putF, e_gst0, e_gst1, e_sld, e_iald, e_cald, e_bald, e_iast, e_cast, e_aald, e_aast, e_alen, e_slen, e_blen, e_newa, e_newq, e_new, e_oinit, e_ctor, e_virt, e_stat, e_min, e_copy, e_ldc, List.cons_append, List.nil_append, List.append_nil, List.length_cons, List.length_nil, List.replicate_succ, List.replicate_zero, List.getElem?_cons_zero, List.getElem?_cons_succ, List.set_cons_zero, List.set_cons_succ, List.take_succ_cons, List.take_zero, List.drop_succ_cons, List.drop_zero, List.reverse_cons, List.reverse_nil, Option.toList_some, Option.toList_none, Nat.reduceSub, Nat.reduceAdd, Nat.reduceLeDiff, true_and, and_true, and_self, Option.some.injEq, exists_eq_left', Nat.zero_add, Value.int.injEq, Value.ref.injEq, List.cons.injEq, exists_and_left, and_assoc, exists_eq_left, List.all_cons, List.all_nil, m1_i, m1_r, Bool.and_self, Bool.and_true, E_in 62, N_62, B_62_0, bk_62_0, B_62_25, bk_62_25, C_81, C_39, C_28, m_isSp hs, m_letI zwA f3A hl, m_lowest gs, hlow, m_noSp (x := nI 6) (Or.inr (Int32.le_refl _)), a0, a1, gs0, gs1, gs2, zw0A, rwA, n_in, n_cl, true_or, or_true, o_eq, if_pos, if_neg, not_true_eq_false, not_false_eq_true, or_true, true_or, or_false, false_or, false_and, and_false, Nat.reduceEqDiff, Nat.reduceLT, Nat.reduceMul, Nat.not_lt_zero, Nat.zero_le, Nat.le_refl, ne_eq, reduceIte, reduceCtorEq]
  rw [if_neg ht6]
  have ht : t < 6 := by omega
  have tp2 : v (98 * t) = 0 := by simpa using (tp ht).2
  have hne : s ≠ t := by
    intro e; subst e
    rw [v1A] at tp2
    exact absurd tp2 (by decide)
  obtain ⟨pB, clB, cB, hwB⟩ := hv.1 t ht
  rw [show 1 + 6 + 4 * t = 7 + 4 * t by omega] at hwB
  obtain ⟨wfB, vfB, k0B, k1B, k2B, k3B, k4B, k5B⟩ := id hwB
  obtain ⟨f1B, f2B, f3B, f4B, f5B, f6B⟩ := id wfB
  obtain ⟨v1B, v2B, v3B, -⟩ := id vfB
  have zwB := gW t ht
  have zwtB := gWt t ht
  have rwB := gR t ht
  have rwtB := gRt t ht
  have zw0B : K.2.2.1 (7 + 4 * t) = (1, 6) := zwB.1
  have hab : 7 + 4 * t + 4 ≤ 7 + 4 * s ∨ 7 + 4 * s + 4 ≤ 7 + 4 * t := by omega
  have hfA : wF (hRm I (qTu f n) n) (7 + 4 * s) 1 clA cA := by
    unfold wF
    rw [hRm_l (by omega)]
    exact wfA
  refine ⟨RTu R n, lAd (mSet (mSet (mSet (mSet (mSet (wAp (mSet (mSet (mSet (mSet (mSet (mSet (mSet (mSet (hRm I (qTu f n) n) (7 + 4 * t) 3 0) (7 + 4 * t) 4 0) (7 + 4 * t) 5 0) (7 + 4 * t) 6 0) (7 + 4 * t) 3 1) (7 + 4 * t + 1) 0 5000) (7 + 4 * t + 2) 0 5000) (7 + 4 * t + 3) 0 (-1)) (7 + 4 * t) (7 + 4 * s) 0 l (cA - l + clA)) (7 + 4 * t) 5 (nI (cA - l))) (7 + 4 * t) 4 (nI clA)) (7 + 4 * s) 5 (nI l)) (7 + 4 * s) 4 0) 1 5 (v 591 + 5000)) 3 ln 3 (nI s) (nI t), ?_, ?_⟩
  · simp (disch := omega) only [e_iconst, e_bipush, e_sipush, e_iload_n, e_iload, e_aload_n, e_aload, e_istore_n, e_istore, e_astore_n, e_astore, e_iinc, e_iadd, e_isub, e_imul, e_iand, e_ishr, e_idiv, e_i2c, e_dup_i, e_dup_r, e_dup2, e_pop, e_goto, e_nop, e_if_eq, e_if_ne, e_if_lt, e_if_ge, e_if_gt, e_if_le, e_icmp_eq, e_icmp_ne, e_icmp_lt, e_icmp_ge, e_icmp_gt, e_icmp_le, e_tsw, e_ret0, e_ret1, e_retn, e_getI, e_getZ, e_getR, e_getV, e_getC, e_putI, e_putZ, e_putF, e_gst0, e_gst1, e_sld, e_iald, e_cald, e_bald, e_iast, e_cast, e_aald, e_aast, e_alen, e_slen, e_blen, e_newa, e_newq, e_new, e_oinit, e_ctor, e_virt, e_stat, e_min, e_copy, e_ldc, List.cons_append, List.nil_append, List.append_nil, List.length_cons, List.length_nil, List.replicate_succ, List.replicate_zero, List.getElem?_cons_zero, List.getElem?_cons_succ, List.set_cons_zero, List.set_cons_succ, List.take_succ_cons, List.take_zero, List.drop_succ_cons, List.drop_zero, List.reverse_cons, List.reverse_nil, Option.toList_some, Option.toList_none, Nat.reduceSub, Nat.reduceAdd, Nat.reduceLeDiff, true_and, and_true, and_self, Option.some.injEq, exists_eq_left', Nat.zero_add, Value.int.injEq, Value.ref.injEq, List.cons.injEq, exists_and_left, and_assoc, exists_eq_left, List.all_cons, List.all_nil, m1_i, m1_r, Bool.and_self, Bool.and_true, E_in 62, N_62, B_62_0, bk_62_0, B_62_25, bk_62_25, C_81, C_39, C_28, m_isSp hs, m_isSp ht, m_letI zwA f3A hl, m_lowest gs, hlow, a0, a1, gs0, gs1, gs2, zw0A, rwA, n_in, n_cl, true_or, or_true, o_eq, if_pos, if_neg, not_true_eq_false, not_false_eq_true, or_true, true_or, or_false, false_or, false_and, and_false, Nat.reduceEqDiff, Nat.reduceLT, Nat.reduceMul, Nat.not_lt_zero, Nat.zero_le, Nat.le_refl, ne_eq, reduceIte, reduceCtorEq]
    rw [B_62_43]
    simp (disch := omega) only [e_iconst, e_bipush, e_sipush, e_iload_n, e_iload, e_aload_n, e_aload, e_istore_n, e_istore, e_astore_n, e_astore, e_iinc, e_iadd, e_isub, e_imul, e_iand, e_ishr, e_idiv, e_i2c, e_dup_i, e_dup_r, e_dup2, e_pop, e_goto, e_nop, e_if_eq, e_if_ne, e_if_lt, e_if_ge, e_if_gt, e_if_le, e_icmp_eq, e_icmp_ne, e_icmp_lt, e_icmp_ge, e_icmp_gt, e_icmp_le, e_tsw, e_ret0, e_ret1, e_retn, e_getI, e_getZ, e_getR, e_getV, e_getC, e_putI, e_putZ, e_putF, e_gst0, e_gst1, e_sld, e_iald, e_cald, e_bald, e_iast, e_cast, e_aald, e_aast, e_alen, e_slen, e_blen, e_newa, e_newq, e_new, e_oinit, e_ctor, e_virt, e_stat, e_min, e_copy, e_ldc, List.cons_append, List.nil_append, List.append_nil, List.length_cons, List.length_nil, List.replicate_succ, List.replicate_zero, List.getElem?_cons_zero, List.getElem?_cons_succ, List.set_cons_zero, List.set_cons_succ, List.take_succ_cons, List.take_zero, List.drop_succ_cons, List.drop_zero, List.reverse_cons, List.reverse_nil, Option.toList_some, Option.toList_none, Nat.reduceSub, Nat.reduceAdd, Nat.reduceLeDiff, true_and, and_true, and_self, Option.some.injEq, exists_eq_left', Nat.zero_add, Value.int.injEq, Value.ref.injEq, List.cons.injEq, exists_and_left, and_assoc, exists_eq_left, List.all_cons, List.all_nil, m1_i, m1_r, Bool.and_self, Bool.and_true, bk_62_43, a0, a1, a2, gs0, gh0, C_9, C_47, C_14, a_remember g hv hn hn2, a1t, gt1, gs2, rwtA, rwtB, zw0A, zw0B, n_in, n_cl, true_or, or_true, m_takeTail' zwtB zwtA hab hfA (show l ≤ cA by omega), gt3, gsl, s_ne, s_eq, wAp_o, hRm_o, e5, if_pos, if_neg, not_true_eq_false, not_false_eq_true, or_true, true_or, or_false, false_or, false_and, and_false, Nat.reduceEqDiff, Nat.reduceLT, Nat.reduceMul, Nat.not_lt_zero, Nat.zero_le, Nat.le_refl, ne_eq, reduceIte, reduceCtorEq]
    rw [m_logAdd gt4 (n := ln) ?_ l1]
    · simp (disch := omega) only [e_iconst, e_bipush, e_sipush, e_iload_n, e_iload, e_aload_n, e_aload, e_istore_n, e_istore, e_astore_n, e_astore, e_iinc, e_iadd, e_isub, e_imul, e_iand, e_ishr, e_idiv, e_i2c, e_dup_i, e_dup_r, e_dup2, e_pop, e_goto, e_nop, e_if_eq, e_if_ne, e_if_lt, e_if_ge, e_if_gt, e_if_le, e_icmp_eq, e_icmp_ne, e_icmp_lt, e_icmp_ge, e_icmp_gt, e_icmp_le, e_tsw, e_ret0, e_ret1, e_retn, e_getI, e_getZ, e_getR, e_getV, e_getC, e_putI, e_putZ, e_putF, e_gst0, e_gst1, e_sld, e_iald, e_cald, e_bald, e_iast, e_cast, e_aald, e_aast, e_alen, e_slen, e_blen, e_newa, e_newq, e_new, e_oinit, e_ctor, e_virt, e_stat, e_min, e_copy, e_ldc, List.cons_append, List.nil_append, List.append_nil, List.length_cons, List.length_nil, List.replicate_succ, List.replicate_zero, List.getElem?_cons_zero, List.getElem?_cons_succ, List.set_cons_zero, List.set_cons_succ, List.take_succ_cons, List.take_zero, List.drop_succ_cons, List.drop_zero, List.reverse_cons, List.reverse_nil, Option.toList_some, Option.toList_none, Nat.reduceSub, Nat.reduceAdd, Nat.reduceLeDiff, true_and, and_true, and_self, Option.some.injEq, exists_eq_left', Nat.zero_add, Value.int.injEq, Value.ref.injEq, List.cons.injEq, exists_and_left, and_assoc, exists_eq_left, List.all_cons, List.all_nil, m1_i, m1_r, Bool.and_self, Bool.and_true, if_pos, if_neg, not_true_eq_false, not_false_eq_true, or_true, true_or, or_false, false_or, false_and, and_false, Nat.reduceEqDiff, Nat.reduceLT, Nat.reduceMul, Nat.not_lt_zero, Nat.zero_le, Nat.le_refl, ne_eq, reduceIte, reduceCtorEq]
    · simp (disch := omega) only [s_ne, wAp_o, hRm_o]; exact l2
  · refine REL_act g hv hn2 hH hP hT (fun x x1 x2 => by funext j; simp (disch := omega) only [lAd_o, s_ne, wAp_o]) (by funext j; simp (disch := omega) only [lAd_o, s_ne, wAp_o, hRm_o]) ?_
    have hng : ngp 1 clA cA = cA + 1 + clA := rfl
    rw [hng] at k3A
    refine RC_upd (fun z => z = s ∨ z = t) hv (fun z _ hz => ?_) (fun z hz1 hz2 => ⟨fun d hd => ?_, fun x x1 x2 => ?_⟩) ?_
    · rcases hz with rfl | rfl
      · refine ⟨1, 0, l, ⟨?_, ?_, ?_, by omega, by omega, by omega⟩, ⟨?_, ?_, ?_, by omega, by omega, by omega⟩, fun q => absurd q (by omega), fun _ => ?_, fun _ => ?_, fun k hk => ?_, fun i hi => ?_, fun q => absurd q (by omega)⟩
        · simp (disch := omega) only [lAd_o, s_ne, wAp_o, hRm_o]; exact f1A
        · simp (disch := omega) only [lAd_o, s_ne, s_eq]; rfl
        · simp (disch := omega) only [lAd_o, s_ne, s_eq]
        · simp (disch := omega) only [vTl_o, u_ne, vTr_o, vCc_o]; exact v1A
        · simp (disch := omega) only [vTl_o, u_ne, u_eq]; rfl
        · simp (disch := omega) only [vTl_o, u_ne, u_eq]
        · simp (disch := omega) only [lAd_o, s_ne, wAp_o, hRm_o, vTl_o, u_ne, vTr_o, vCc_o]; exact k1A rfl
        · simp (disch := omega) only [lAd_o, s_ne, wAp_o, hRm_o]; exact k2A rfl
        · have hk2 : k < l + 1 := hk
          simp (disch := omega) only [lAd_o, s_ne, wAp_o, hRm_o, vTl_o, u_ne, vTr_o, vCc_o]
          exact k3A k (by omega)
        · simp (disch := omega) only [lAd_o, s_ne, wAp_o, hRm_o, vTl_o, u_ne, vTr_o, vCc_o]
          exact k4A i (by omega)
      · refine ⟨1, clA, cA - l, ⟨?_, ?_, ?_, by omega, by omega, by omega⟩, ⟨?_, ?_, ?_, by omega, by omega, by omega⟩, fun q => absurd q (by omega), fun _ => ?_, fun _ => ?_, fun k hk => ?_, fun i hi => ?_, fun q => ?_⟩
        · simp (disch := omega) only [lAd_o, s_ne, wAp_o, s_eq]; rfl
        · simp (disch := omega) only [lAd_o, s_ne, s_eq]
        · simp (disch := omega) only [lAd_o, s_ne, s_eq]
        · simp (disch := omega) only [vTl_o, u_ne, u_eq]; rfl
        · simp (disch := omega) only [vTl_o, u_ne, u_eq]
        · simp (disch := omega) only [vTl_o, u_ne, u_eq]
        · simp (disch := omega) only [lAd_o, s_ne, s_eq, wAp_o, vTl_o, u_ne, u_eq]
        · simp (disch := omega) only [lAd_o, s_ne, s_eq, wAp_lo]
        · have hk2 : k < cA - l + 1 + clA := hk
          by_cases c1 : k = 0
          · subst c1
            simp (disch := omega) only [lAd_o, s_ne, s_eq, wAp_lo, vTl_o, u_ne, u_eq]
            exact ⟨trivial, trivial, okG_5⟩
          · obtain ⟨e, rfl⟩ : ∃ e, k = 0 + 1 + e := ⟨k - 1, by omega⟩
            simp (disch := omega) only [lAd_o, s_ne, wAp_i, hRm_o, vTl_o, u_ne, vTr_o, vCc_l, vCc_n]
            exact k3A (l + 1 + e) (by omega)
        · rw [show i + 1 = 0 + 1 + i by omega, show 98 * z + (68 + i) = 98 * z + (68 + (0 + i)) by omega]
          simp (disch := omega) only [lAd_o, s_ne, wAp_i, hRm_o, vTl_o, u_ne, vTr_i, vCc_o]
          have := k4A (l + i) (by omega)
          rw [show l + 1 + i = l + i + 1 by omega]
          exact this
        · rw [show cA - l + 1 = 0 + 1 + (cA - l) by omega]
          simp (disch := omega) only [lAd_o, s_ne, wAp_i, hRm_o]
          rw [show l + 1 + (cA - l) = cA + 1 by omega]
          exact k5A q
    · funext j; simp (disch := omega) only [lAd_o, s_ne, wAp_o, hRm_o]
    · simp (disch := omega) only [vTl_o, u_ne, vTr_o, vCc_o]
    · refine rE_mk ?_ ?_ ?_ ?_ ?_ ?_ ?_ ?_ ?_ (rL_add l1 ?_ ?_ (fun e he => ?_)) <;> simp (disch := omega) only [lAd_o, s_ne, s_eq, wAp_o, hRm_o, vTl_o, u_ne, u_eq, vTr_o, vCc_o, e2, e3, e4, e5, e6, e7, e8]
      · exact e9
      · exact e10
      · exact l2
      · exact l3
      · exact l4 e he
end
section
/-! ONE REWIND of a wire, class against reference -/
theorem vStr_n {ru u k n : Nat} (hru : ru ≤ 2) (hu : u ≤ 9) (hk : k < n) (hn : n ≤ 32) : ∃ st, st ≤ 441 ∧ vStr (nI ru) (nI u) (nI k) (nI n) = nI st := by
  have h1 : u * u ≤ 81 := Nat.mul_le_mul hu hu
  have h2 : u * k ≤ 9 * 31 := Nat.mul_le_mul hu (by omega)
  have h3 : u * (n - 1 - k) ≤ 9 * 31 := Nat.mul_le_mul hu (by omega)
  have e1 : (2 : Int32) * nI u * nI u = nI (2 * u * u) := by rw [show (2 : Int32) = nI 2 from rfl, n_mul, n_mul]
  have e4 : (4 : Int32) * nI u * nI u = nI (4 * u * u) := by rw [show (4 : Int32) = nI 4 from rfl, n_mul, n_mul]
  have a1 : 2 * u * u = 2 * (u * u) := Nat.mul_assoc 2 u u
  have a4 : 4 * u * u = 4 * (u * u) := Nat.mul_assoc 4 u u
  unfold vStr
  rcases (show ru = 0 ∨ ru = 1 ∨ ru = 2 by omega) with rfl | rfl | rfl
  · rw [if_neg (by decide), if_neg (by decide), e4]
    exact ⟨_, by omega, rfl⟩
  · rw [if_pos (by decide), e1, n_mul, n_add]
    exact ⟨_, by omega, rfl⟩
  · rw [if_neg (by decide), if_pos (by decide), e1, show nI n - 1 - nI k = nI (n - 1 - k) by rw [show nI n - 1 = nI (n - 1) from o_sub_l (b := 1) (by show 1 ≤ n; omega), n_sub (by omega)], n_mul, n_add]
    exact ⟨_, by omega, rfl⟩
/-- the length behind one rewind, as a number -/
theorem vLn_n {v : Nat → Int32} {s ru u n k m : Nat} (hru2 : v 588 = nI ru) (hru : ru ≤ 2) (hu : u ≤ 9) (hk : k < n) (hn : n ≤ 32) (hm : v (98 * s + (4 + k)) = nI m) (hm2 : m ≤ 18000) : ∃ d, d ≤ 800 ∧ vLn v s (nI u) n k = nI (m + d) := by
  obtain ⟨st, st1, st2⟩ := vStr_n (ru := ru) hru hu hk hn
  have h1 : m * st ≤ 18000 * 441 := Nat.mul_le_mul hm2 st1
  refine ⟨m * st / 10000, by omega, ?_⟩
  unfold vLn
  rw [hm, hru2, st2, n_mul, show (10000 : Int32) = nI 10000 from rfl, n_div (by omega) (by omega), n_add]
theorem okG_str {v : Nat → Int32} {s ru lm u n k : Nat} (hru2 : v 588 = nI ru) (hru : ru ≤ 2) (hlm2 : v 589 = nI lm) (hlm : lm ≤ 200) (hu : u ≤ 9) (hk : k < n) (hn : n ≤ 32) (hok : okG (v (98 * s + (4 + k))) (v (98 * s + (36 + k)))) (hb : vBd v s (nI u) n k = false) : okG (vLn v s (nI u) n k) (v (98 * s + (36 + k))) := by
  obtain ⟨m, q, hm, hq, q1, q2, q3, q4⟩ := hok
  obtain ⟨d, d1, d2⟩ := vLn_n (s := s) hru2 hru hu hk hn hm (by omega)
  unfold vBd at hb
  have hq2 : q * lm ≤ q * 200 := Nat.mul_le_mul (Nat.le_refl q) hlm
  rw [d2, hq, hlm2, n_mul, show (100 : Int32) = nI 100 from rfl, n_mul, Bool.not_eq_false', decide_eq_true_eq, n_le (by omega) (by omega)] at hb
  exact ⟨m + d, q, d2, hq, q1, q2, by omega, by omega⟩
/-- class and reference see the same first gap -/
theorem str_eq {I : Nat → Nat → Int32} {a s cl c ru lm u : Nat} {v : Nat → Int32} (hw : rW I a v s 1 cl c) (hru2 : v 588 = nI ru) (hlm2 : v 589 = nI lm) :
    (∀ k, k < c + 1 + cl → wLn I a (nI ru) (nI u) (c + 1 + cl) k = vLn v s (nI u) (c + 1 + cl) k) ∧ fB (wBd I a (nI ru) (nI lm) (nI u) (c + 1 + cl)) (c + 1 + cl) (c + 1 + cl) = fB (vBd v s (nI u) (c + 1 + cl)) (c + 1 + cl) (c + 1 + cl) := by
  have e : ∀ k, k < c + 1 + cl → wLn I a (nI ru) (nI u) (c + 1 + cl) k = vLn v s (nI u) (c + 1 + cl) k := by
    intro k hk
    unfold wLn vLn
    rw [(hw.2.2.2.2.2.1 k hk).1, hru2]
  refine ⟨e, fB_cg _ (Nat.le_refl _) (fun k hk => ?_)⟩
  unfold wBd vBd
  rw [e k hk, (hw.2.2.2.2.2.1 k hk).2.1, hlm2]
/-- the wire behind a rewind by which it does not break; of one that breaks, the gaps before -/
theorem rW_str {I I' : Nat → Nat → Int32} {a a' s cl c ru lm u c' cl' : Nat} {v v' : Nat → Int32} (hw : rW I a v s 1 cl c) (hru2 : v 588 = nI ru) (hru : ru ≤ 2) (hlm2 : v 589 = nI lm) (hlm : lm ≤ 200) (hu : u ≤ 9)
    (hc : c' + 1 + cl' ≤ fB (vBd v s (nI u) (c + 1 + cl)) (c + 1 + cl) (c + 1 + cl)) (hcc : c' ≤ c) (hcl1 : cl' ≤ 1) (hcl : cl' = 1 → cl = 1 ∧ c' = c)
    (h3 : I' a' 3 = 1) (h4 : I' a' 4 = nI cl') (h5 : I' a' 5 = nI c') (h6 : I' a' 6 = I a 6 + 1)
    (g3 : v' (98 * s) = 1) (g4 : v' (98 * s + 1) = nI cl') (g5 : v' (98 * s + 2) = nI c') (g6 : v' (98 * s + 3) = v (98 * s + 3) + 1)
    (hl : ∀ k, k < c' + 1 + cl' → I' (a' + 1) k = wLn I a (nI ru) (nI u) (c + 1 + cl) k) (hn : ∀ k, k < c' + 1 + cl' → I' (a' + 2) k = I (a + 2) k) (ht : ∀ k, k < c' + 1 + cl' → I' (a' + 3) k = I (a + 3) k)
    (gl : ∀ k, k < c' + 1 + cl' → v' (98 * s + (4 + k)) = vLn v s (nI u) (c + 1 + cl) k) (gn : ∀ k, k < c' + 1 + cl' → v' (98 * s + (36 + k)) = v (98 * s + (36 + k))) (gt : ∀ i, i < c' → v' (98 * s + (68 + i)) = v (98 * s + (68 + i))) : rW I' a' v' s 1 cl' c' := by
  obtain ⟨e1, e2⟩ := str_eq (lm := lm) (u := u) hw hru2 hlm2
  obtain ⟨⟨f1, f2, f3, f4, f5, f6⟩, ⟨w1, w2, w3, -⟩, k0, k1, k2, k3, k4, k5⟩ := hw
  obtain ⟨b1, b2, b3⟩ := fB_le (vBd v s (nI u) (c + 1 + cl)) (c + 1 + cl) (c + 1 + cl) (Nat.le_refl _)
  refine ⟨⟨h3, h4, h5, by omega, hcl1, by omega⟩, ⟨g3, g4, g5, by omega, hcl1, by omega⟩, fun q => absurd q (by omega), fun _ => by rw [h6, g6, k1 rfl], fun _ => by rw [ht 0 (by omega)]; exact k2 rfl, fun k hk => ?_, fun i hi => ?_, fun q => ?_⟩
  · have hk2 : k < c' + 1 + cl' := hk
    have hkn : k < c + 1 + cl := by omega
    obtain ⟨z1, z2, z3⟩ := k3 k hkn
    rw [hl k hk2, gl k hk2, hn k hk2, gn k hk2, e1 k hkn]
    exact ⟨rfl, z2, okG_str hru2 hru hlm2 hlm hu hkn (by omega) z3 (b3 k hkn (by omega))⟩
  · rw [ht (i + 1) (by omega), gt i hi]
    exact k4 i (by omega)
  · obtain ⟨q1, q2⟩ := hcl q
    subst q2
    rw [ht (c' + 1) (by omega)]
    exact k5 q1
end
section
/-! THE CLASS's REWINDING of a state's wire -/
def kLet (c f : Nat) : Nat := if f = 0 then 0 else if c < f - 1 then c else f - 1
def cBr (X : Nat → Nat → Int32) (a c f : Nat) : Nat → Nat → Int32 := if f = 0 then mSet (mSet (mSet (mSet X a 3 0) a 4 0) a 5 0) a 6 0 else mSet (mSet X a 5 (nI (kLet c f))) a 4 0
def cW2 (X : Nat → Nat → Int32) (s c n f ln : Nat) : Nat → Nat → Int32 := lAd (mSet (mSet (cBr X (7 + 4 * s) c f) 1 7 (X 1 7 + 1)) 1 8 (X 1 8 + nI (c - kLet c f))) 3 ln 2 (nI s) (nI (n - f))
theorem cBr_o {X : Nat → Nat → Int32} {a c f x j : Nat} (h : x ≠ a ∨ j < 3 ∨ 6 < j) : cBr X a c f x j = X x j := by
  unfold cBr
  split <;> simp (disch := omega) only [s_ne]
theorem cBr_5 {X : Nat → Nat → Int32} {a c f : Nat} : cBr X a c f a 5 = nI (kLet c f) := by
  unfold cBr
  split
  · rename_i h; subst h; simp (disch := omega) only [s_ne, s_eq]; rfl
  · simp (disch := omega) only [s_ne, s_eq]
theorem cBr_4 {X : Nat → Nat → Int32} {a c f : Nat} : cBr X a c f a 4 = 0 := by
  unfold cBr
  split <;> simp (disch := omega) only [s_ne, s_eq]
theorem lAd_n {I : Nat → Nat → Int32} {a n : Nat} {kd sp nu : Int32} (h : n ≤ 10) : lAd I a n kd sp nu a 3 = nI (lnx n) := by
  by_cases e : n = 10
  · subst e; simp (disch := omega) only [lAd, lnx, if_pos, if_neg, and_self, if_true]
  · simp (disch := omega) only [lAd, lnx, if_pos, if_neg, and_self, if_true]
theorem lnx_le {n : Nat} (h : n ≤ 10) : lnx n ≤ 10 := by unfold lnx; split <;> omega
theorem kLet_le (c f : Nat) : kLet c f ≤ c := by unfold kLet; split; omega; split <;> omega
set_option maxHeartbeats 8000000 in
theorem m_break {K : mK} {R : Nat → Nat → Option Nat} {X : Nat → Nat → Int32} {s cl c f ln : Nat} {Q : Option Value → mH → Prop} (h : zS K R 1) (hs : s < 6) (hf : wF X (7 + 4 * s) 1 cl c) (hfn : f < c + 1 + cl) (hl : X 3 3 = nI ln) (hl2 : ln ≤ 10) :
    EvM 30 [.ref 1, .int (nI s), .int (nI f)] (K, R, X) Q ↔ Q none (K, R, cW2 X s c (c + 1 + cl) f ln) := by
  have gs0 : K.2.2.1 1 = (1, 4) := h.1
  have gs1 : R 1 0 = some 2 := h.2.1
  have gs2 : K.2.2.1 2 = (4, 6) := h.2.2.1
  have gs3 : R 1 1 = some 3 := h.2.2.2.1
  have gs4 : zL K R 3 := h.2.2.2.2.1
  have gsl : K.2.2.1 3 = (1, 2) := gs4.1
  have zw : zW K R (7 + 4 * s) := (h.2.2.2.2.2.2 s hs).2
  have rw0 : R 2 s = some (7 + 4 * s) := (h.2.2.2.2.2.2 s hs).1
  have zw0 := zw.1
  obtain ⟨f1, f2, f3, f4, f5, f6⟩ := id hf
  have hg : ngp 1 cl c = c + 1 + cl := rfl
  have hb : EvM 52 [.ref (7 + 4 * s), .int (nI f)] (K, R, X) (fun v k => v = none ∧ k = (K, R, cBr X (7 + 4 * s) c f)) := by
    rw [m_breakAt zw f3 f6 (by omega)]
    refine ⟨rfl, ?_⟩
    unfold cBr kLet
    by_cases e : f = 0
    · rw [if_pos e, if_pos e]
    · rw [if_neg e, if_neg e, if_neg e]
  have kl := kLet_le c f
  refine EvM_iff ?_
  rw [E_in 30, B_30_0]
  simp (disch := omega) only [e_iconst, e_bipush, e_sipush, e_iload_n, e_iload, e_aload_n, e_aload, e_istore_n, e_istore, e_astore_n, e_astore, e_iinc, e_iadd, e_isub, e_imul, e_iand, e_ishr, e_idiv, e_i2c, e_dup_i, e_dup_r, e_dup2, e_pop, e_goto, e_nop, e_if_eq, e_if_ne, e_if_lt, e_if_ge, e_if_gt, e_if_le, e_icmp_eq, e_icmp_ne, e_icmp_lt, e_icmp_ge, e_icmp_gt, e_icmp_le, e_tsw, e_ret0, e_ret1, e_retn, e_getI, e_getZ, e_getR, e_getV, e_getC, e_putI, e_putZ, e_putF, e_gst0, e_gst1, e_sld, e_iald, e_cald, e_bald, e_iast, e_cast, e_aald, e_aast, e_alen, e_slen, e_blen, e_newa, e_newq, e_new, e_oinit, e_ctor, e_virt, e_stat, e_min, e_copy, e_ldc, List.cons_append, List.nil_append, List.append_nil, List.length_cons, List.length_nil, List.replicate_succ, List.replicate_zero, List.getElem?_cons_zero, List.getElem?_cons_succ, List.set_cons_zero, List.set_cons_succ, List.take_succ_cons, List.take_zero, List.drop_succ_cons, List.drop_zero, List.reverse_cons, List.reverse_nil, Option.toList_some, Option.toList_none, Nat.reduceSub, Nat.reduceAdd, Nat.reduceLeDiff, true_and, and_true, and_self, Option.some.injEq, exists_eq_left', Nat.zero_add, Value.int.injEq, Value.ref.injEq, List.cons.injEq, exists_and_left, and_assoc, exists_eq_left, List.all_cons, List.all_nil, m1_i, m1_r, Bool.and_self, Bool.and_true, N_30, bk_30_0, gs0, gs1, gs2, rw0, zw0, n_in, n_cl, true_or, or_true, C_37, C_52, C_14, m_gapsN zw hf, hg, n_sub, f3, EvM_iff hb, s_ne, cBr_o, cBr_5, gs3, gsl, if_pos, if_neg, not_true_eq_false, not_false_eq_true, or_true, true_or, or_false, false_or, false_and, and_false, Nat.reduceEqDiff, Nat.reduceLT, Nat.reduceMul, Nat.not_lt_zero, Nat.zero_le, Nat.le_refl, ne_eq, reduceIte, reduceCtorEq]
  rw [m_logAdd gs4 (n := ln) ?_ hl2]
  · simp (disch := omega) only [e_iconst, e_bipush, e_sipush, e_iload_n, e_iload, e_aload_n, e_aload, e_istore_n, e_istore, e_astore_n, e_astore, e_iinc, e_iadd, e_isub, e_imul, e_iand, e_ishr, e_idiv, e_i2c, e_dup_i, e_dup_r, e_dup2, e_pop, e_goto, e_nop, e_if_eq, e_if_ne, e_if_lt, e_if_ge, e_if_gt, e_if_le, e_icmp_eq, e_icmp_ne, e_icmp_lt, e_icmp_ge, e_icmp_gt, e_icmp_le, e_tsw, e_ret0, e_ret1, e_retn, e_getI, e_getZ, e_getR, e_getV, e_getC, e_putI, e_putZ, e_putF, e_gst0, e_gst1, e_sld, e_iald, e_cald, e_bald, e_iast, e_cast, e_aald, e_aast, e_alen, e_slen, e_blen, e_newa, e_newq, e_new, e_oinit, e_ctor, e_virt, e_stat, e_min, e_copy, e_ldc, List.cons_append, List.nil_append, List.append_nil, List.length_cons, List.length_nil, List.replicate_succ, List.replicate_zero, List.getElem?_cons_zero, List.getElem?_cons_succ, List.set_cons_zero, List.set_cons_succ, List.take_succ_cons, List.take_zero, List.drop_succ_cons, List.drop_zero, List.reverse_cons, List.reverse_nil, Option.toList_some, Option.toList_none, Nat.reduceSub, Nat.reduceAdd, Nat.reduceLeDiff, true_and, and_true, and_self, Option.some.injEq, exists_eq_left', Nat.zero_add, Value.int.injEq, Value.ref.injEq, List.cons.injEq, exists_and_left, and_assoc, exists_eq_left, List.all_cons, List.all_nil, m1_i, m1_r, Bool.and_self, Bool.and_true, if_pos, if_neg, not_true_eq_false, not_false_eq_true, or_true, true_or, or_false, false_or, false_and, and_false, Nat.reduceEqDiff, Nat.reduceLT, Nat.reduceMul, Nat.not_lt_zero, Nat.zero_le, Nat.le_refl, ne_eq, reduceIte, reduceCtorEq]
    rfl
  · simp (disch := omega) only [s_ne, cBr_o]; exact hl
def cW1 (I : Nat → Nat → Int32) (s u n ln : Nat) : Nat → Nat → Int32 := lAd (mSet (mSet (mSet (wSt I (7 + 4 * s) (I 1 2) (nI u) n n) (7 + 4 * s) 6 (I (7 + 4 * s) 6 + 1)) 1 6 (I 1 6 + 1)) 1 4 (I 1 4 + (10 - nI u))) 3 ln 1 (nI s) (nI u)
set_option maxHeartbeats 8000000 in
/-- one turn of the class's loop -/
theorem c_turn {K : mK} {R : Nat → Nat → Option Nat} {I : Nat → Nat → Int32} {s cl c u ln T ti f : Nat} {l5 : Value} {Q : Option Value → mH → Prop} (h : zS K R 1) (hs : s < 6) (hf : wF I (7 + 4 * s) 1 cl c) (hl : I 3 3 = nI ln) (hl2 : ln ≤ 10) (hT : ti ≤ T) (hT2 : T ≤ 30)
    (hff : fB (wBd I (7 + 4 * s) (I 1 2) (I 1 3) (nI u) (c + 1 + cl)) (c + 1 + cl) (c + 1 + cl) = f) :
    Ev 29 (mB 29 3) [.ref 1, .int (nI s), .int (nI u), .int (nI T), .int (nI ti), l5] [] (K, R, I) Q ↔
      if f = c + 1 + cl then Ev 29 (mB 29 3) [.ref 1, .int (nI s), .int (nI u), .int (nI T), .int (nI (ti + 1)), .int (-1)] [] (K, R, cW1 I s u (c + 1 + cl) ln) Q
      else Q (some (.int (nI ti))) (K, R, cW2 (cW1 I s u (c + 1 + cl) ln) s c (c + 1 + cl) f (lnx ln)) := by
  have gs0 : K.2.2.1 1 = (1, 4) := h.1
  have gs1 : R 1 0 = some 2 := h.2.1
  have gs2 : K.2.2.1 2 = (4, 6) := h.2.2.1
  have gs3 : R 1 1 = some 3 := h.2.2.2.1
  have gs4 : zL K R 3 := h.2.2.2.2.1
  have gsl : K.2.2.1 3 = (1, 2) := gs4.1
  have zw : zW K R (7 + 4 * s) := (h.2.2.2.2.2.2 s hs).2
  have rw0 : R 2 s = some (7 + 4 * s) := (h.2.2.2.2.2.2 s hs).1
  have zw0 := zw.1
  obtain ⟨f1, f2, f3, f4, f5, f6⟩ := id hf
  have hg : ngp 1 cl c = c + 1 + cl := rfl
  have hst := @m_stretch K R I (7 + 4 * s) 1 cl c (I 1 2) (I 1 3) (nI u)
  rw [hg, hff] at hst
  conv => lhs; rw [B_29_3]
  simp (disch := omega) only [e_iconst, e_bipush, e_sipush, e_iload_n, e_iload, e_aload_n, e_aload, e_istore_n, e_istore, e_astore_n, e_astore, e_iinc, e_iadd, e_isub, e_imul, e_iand, e_ishr, e_idiv, e_i2c, e_dup_i, e_dup_r, e_dup2, e_pop, e_goto, e_nop, e_if_eq, e_if_ne, e_if_lt, e_if_ge, e_if_gt, e_if_le, e_icmp_eq, e_icmp_ne, e_icmp_lt, e_icmp_ge, e_icmp_gt, e_icmp_le, e_tsw, e_ret0, e_ret1, e_retn, e_getI, e_getZ, e_getR, e_getV, e_getC, e_putI, e_putZ, e_putF, e_gst0, e_gst1, e_sld, e_iald, e_cald, e_bald, e_iast, e_cast, e_aald, e_aast, e_alen, e_slen, e_blen, e_newa, e_newq, e_new, e_oinit, e_ctor, e_virt, e_stat, e_min, e_copy, e_ldc, List.cons_append, List.nil_append, List.append_nil, List.length_cons, List.length_nil, List.replicate_succ, List.replicate_zero, List.getElem?_cons_zero, List.getElem?_cons_succ, List.set_cons_zero, List.set_cons_succ, List.take_succ_cons, List.take_zero, List.drop_succ_cons, List.drop_zero, List.reverse_cons, List.reverse_nil, Option.toList_some, Option.toList_none, Nat.reduceSub, Nat.reduceAdd, Nat.reduceLeDiff, true_and, and_true, and_self, Option.some.injEq, exists_eq_left', Nat.zero_add, Value.int.injEq, Value.ref.injEq, List.cons.injEq, exists_and_left, and_assoc, exists_eq_left, List.all_cons, List.all_nil, m1_i, m1_r, Bool.and_self, Bool.and_true, bk_29_3, n_lt, if_neg, gs0, gs1, gs2, rw0, zw0, n_in, n_cl, true_or, or_true, C_51, C_14, hst zw hf, s_ne, wSt_o, gs3, gsl, if_pos, if_neg, not_true_eq_false, not_false_eq_true, or_true, true_or, or_false, false_or, false_and, and_false, Nat.reduceEqDiff, Nat.reduceLT, Nat.reduceMul, Nat.not_lt_zero, Nat.zero_le, Nat.le_refl, ne_eq, reduceIte, reduceCtorEq]
  rw [m_logAdd gs4 (n := ln) ?_ hl2]
  · by_cases e : f = c + 1 + cl
    · simp (disch := omega) only [e_iconst, e_bipush, e_sipush, e_iload_n, e_iload, e_aload_n, e_aload, e_istore_n, e_istore, e_astore_n, e_astore, e_iinc, e_iadd, e_isub, e_imul, e_iand, e_ishr, e_idiv, e_i2c, e_dup_i, e_dup_r, e_dup2, e_pop, e_goto, e_nop, e_if_eq, e_if_ne, e_if_lt, e_if_ge, e_if_gt, e_if_le, e_icmp_eq, e_icmp_ne, e_icmp_lt, e_icmp_ge, e_icmp_gt, e_icmp_le, e_tsw, e_ret0, e_ret1, e_retn, e_getI, e_getZ, e_getR, e_getV, e_getC, e_putI, e_putZ, e_putF, e_gst0, e_gst1, e_sld, e_iald, e_cald, e_bald, e_iast, e_cast, e_aald, e_aast, e_alen, e_slen, e_blen, e_newa, e_newq, e_new, e_oinit, e_ctor, e_virt, e_stat, e_min, e_copy, e_ldc, List.cons_append, List.nil_append, List.append_nil, List.length_cons, List.length_nil, List.replicate_succ, List.replicate_zero, List.getElem?_cons_zero, List.getElem?_cons_succ, List.set_cons_zero, List.set_cons_succ, List.take_succ_cons, List.take_zero, List.drop_succ_cons, List.drop_zero, List.reverse_cons, List.reverse_nil, Option.toList_some, Option.toList_none, Nat.reduceSub, Nat.reduceAdd, Nat.reduceLeDiff, true_and, and_true, and_self, Option.some.injEq, exists_eq_left', Nat.zero_add, Value.int.injEq, Value.ref.injEq, List.cons.injEq, exists_and_left, and_assoc, exists_eq_left, List.all_cons, List.all_nil, m1_i, m1_r, Bool.and_self, Bool.and_true, e, if_true, B_29_93, bk_29_93, o_add_l, if_pos, if_neg, not_true_eq_false, not_false_eq_true, or_true, true_or, or_false, false_or, false_and, and_false, Nat.reduceEqDiff, Nat.reduceLT, Nat.reduceMul, Nat.not_lt_zero, Nat.zero_le, Nat.le_refl, ne_eq, reduceIte, reduceCtorEq]
      exact Iff.rfl
    · have fl : f < c + 1 + cl := by
        have := (fB_le (wBd I (7 + 4 * s) (I 1 2) (I 1 3) (nI u) (c + 1 + cl)) (c + 1 + cl) (c + 1 + cl) (Nat.le_refl _)).1
        omega
      simp (disch := omega) only [e_iconst, e_bipush, e_sipush, e_iload_n, e_iload, e_aload_n, e_aload, e_istore_n, e_istore, e_astore_n, e_astore, e_iinc, e_iadd, e_isub, e_imul, e_iand, e_ishr, e_idiv, e_i2c, e_dup_i, e_dup_r, e_dup2, e_pop, e_goto, e_nop, e_if_eq, e_if_ne, e_if_lt, e_if_ge, e_if_gt, e_if_le, e_icmp_eq, e_icmp_ne, e_icmp_lt, e_icmp_ge, e_icmp_gt, e_icmp_le, e_tsw, e_ret0, e_ret1, e_retn, e_getI, e_getZ, e_getR, e_getV, e_getC, e_putI, e_putZ, e_putF, e_gst0, e_gst1, e_sld, e_iald, e_cald, e_bald, e_iast, e_cast, e_aald, e_aast, e_alen, e_slen, e_blen, e_newa, e_newq, e_new, e_oinit, e_ctor, e_virt, e_stat, e_min, e_copy, e_ldc, List.cons_append, List.nil_append, List.append_nil, List.length_cons, List.length_nil, List.replicate_succ, List.replicate_zero, List.getElem?_cons_zero, List.getElem?_cons_succ, List.set_cons_zero, List.set_cons_succ, List.take_succ_cons, List.take_zero, List.drop_succ_cons, List.drop_zero, List.reverse_cons, List.reverse_nil, Option.toList_some, Option.toList_none, Nat.reduceSub, Nat.reduceAdd, Nat.reduceLeDiff, true_and, and_true, and_self, Option.some.injEq, exists_eq_left', Nat.zero_add, Value.int.injEq, Value.ref.injEq, List.cons.injEq, exists_and_left, and_assoc, exists_eq_left, List.all_cons, List.all_nil, m1_i, m1_r, Bool.and_self, Bool.and_true, e, if_neg, if_false, n_m1, gs0, C_30, if_pos, if_neg, not_true_eq_false, not_false_eq_true, or_true, true_or, or_false, false_or, false_and, and_false, Nat.reduceEqDiff, Nat.reduceLT, Nat.reduceMul, Nat.not_lt_zero, Nat.zero_le, Nat.le_refl, ne_eq, reduceIte, reduceCtorEq]
      rw [m_break h hs (cl := cl) (c := c) (ln := lnx ln) ?_ fl ?_ ?_]
      · simp (disch := omega) only [e_iconst, e_bipush, e_sipush, e_iload_n, e_iload, e_aload_n, e_aload, e_istore_n, e_istore, e_astore_n, e_astore, e_iinc, e_iadd, e_isub, e_imul, e_iand, e_ishr, e_idiv, e_i2c, e_dup_i, e_dup_r, e_dup2, e_pop, e_goto, e_nop, e_if_eq, e_if_ne, e_if_lt, e_if_ge, e_if_gt, e_if_le, e_icmp_eq, e_icmp_ne, e_icmp_lt, e_icmp_ge, e_icmp_gt, e_icmp_le, e_tsw, e_ret0, e_ret1, e_retn, e_getI, e_getZ, e_getR, e_getV, e_getC, e_putI, e_putZ, e_putF, e_gst0, e_gst1, e_sld, e_iald, e_cald, e_bald, e_iast, e_cast, e_aald, e_aast, e_alen, e_slen, e_blen, e_newa, e_newq, e_new, e_oinit, e_ctor, e_virt, e_stat, e_min, e_copy, e_ldc, List.cons_append, List.nil_append, List.append_nil, List.length_cons, List.length_nil, List.replicate_succ, List.replicate_zero, List.getElem?_cons_zero, List.getElem?_cons_succ, List.set_cons_zero, List.set_cons_succ, List.take_succ_cons, List.take_zero, List.drop_succ_cons, List.drop_zero, List.reverse_cons, List.reverse_nil, Option.toList_some, Option.toList_none, Nat.reduceSub, Nat.reduceAdd, Nat.reduceLeDiff, true_and, and_true, and_self, Option.some.injEq, exists_eq_left', Nat.zero_add, Value.int.injEq, Value.ref.injEq, List.cons.injEq, exists_and_left, and_assoc, exists_eq_left, List.all_cons, List.all_nil, m1_i, m1_r, Bool.and_self, Bool.and_true, if_pos, if_neg, not_true_eq_false, not_false_eq_true, or_true, true_or, or_false, false_or, false_and, and_false, Nat.reduceEqDiff, Nat.reduceLT, Nat.reduceMul, Nat.not_lt_zero, Nat.zero_le, Nat.le_refl, ne_eq, reduceIte, reduceCtorEq]
        exact Iff.rfl
      · refine ⟨?_, ?_, ?_, f4, f5, f6⟩ <;> simp (disch := omega) only [lAd_o, s_ne, wSt_o]
        · exact f1
        · exact f2
        · exact f3
      · exact lAd_n hl2
      · exact lnx_le hl2
  · simp (disch := omega) only [s_ne, wSt_o]; exact hl
end
section
/-! rewind: the relation behind each turn -/
def rLn (I : Nat → Nat → Int32) (v : Nat → Int32) (n : Nat) : Prop := n ≤ 10 ∧ I 3 3 = nI n ∧ v 595 = nI n ∧ ∀ e, e < n → I 4 e = v (596 + 3 * e) ∧ I 5 e = v (597 + 3 * e) ∧ I 6 e = v (598 + 3 * e)
theorem rLn_add {I : Nat → Nat → Int32} {v : Nat → Int32} {n : Nat} {kd sp nu : Int32} (h : rLn I v n) : rLn (lAd I 3 n kd sp nu) (vTl v n kd sp nu) (lnx n) := by
  obtain ⟨h1, h2, h3, h4⟩ := h
  obtain ⟨m, m1, m2, m3, m4⟩ := rL_add (kd := kd) (sp := sp) (nu := nu) h1 h2 h3 h4
  rw [lAd_n h1, n_eq (by have := lnx_le h1; omega) (by omega)] at m2
  rw [m2]
  exact ⟨m1, by rw [lAd_n h1, m2], m3, m4⟩
theorem kLet_v {c f : Nat} : (if c < f then c else if f = 0 then 0 else f - 1) = kLet c f := by
  unfold kLet
  by_cases e : f = 0
  · subst e; simp
  · rw [if_neg e, if_neg e]
    by_cases e2 : c < f
    · rw [if_pos e2]; split <;> omega
    · rw [if_neg e2, if_neg (by omega)]
theorem kLet_lost {c cl f : Nat} (hcl : cl ≤ 1) (hf : f < c + 1 + cl) : (if f = c + cl ∧ cl = 1 then (0 : Int32) else nI (c - (if f = 0 then 0 else f - 1))) = nI (c - kLet c f) := by
  unfold kLet
  by_cases e : f = c + cl ∧ cl = 1
  · rw [if_pos e, if_neg (by omega)]
    split
    · rw [show c - c = 0 by omega]; rfl
    · rw [show c - (f - 1) = 0 by omega]; rfl
  · rw [if_neg e]
    by_cases e2 : f = 0
    · rw [if_pos e2, if_pos e2]
    · rw [if_neg e2, if_neg e2]
      split
      · omega
      · rfl
set_option maxHeartbeats 8000000 in
theorem W1_rel {I : Nat → Nat → Int32} {v : Nat → Int32} {s u cl c ln : Nat} (hv : RC I 1 v) (hs : s < 6) (hu : u ≤ 9) (hw : rW I (7 + 4 * s) v s 1 cl c) (hl : rLn I v ln) (hf : fB (vBd v s (nI u) (c + 1 + cl)) (c + 1 + cl) (c + 1 + cl) = c + 1 + cl) :
    RC (cW1 I s u (c + 1 + cl) ln) 1 (vR1 v s (nI u) (c + 1 + cl) ln) := by
  obtain ⟨e2, e3, e4, e5, e6, e7, e8, ⟨ru, ru1, ru2⟩, ⟨lm, lm0, lm1, lm2⟩, -⟩ := id hv.2
  obtain ⟨⟨f1, f2, f3, f4, f5, f6⟩, ⟨w1, w2, w3, -⟩, k0, k1, k2, k3, k4, k5⟩ := id hw
  unfold cW1 vR1
  rw [e2, ru2]
  refine RC_upd (fun z => z = s) hv (fun z _ hz => ?_) (fun z hz1 hz2 => ⟨fun d hd => ?_, fun x x1 x2 => ?_⟩) ?_
  · subst hz
    refine ⟨1, cl, c, rW_str (ru := ru) (lm := lm) (u := u) hw ru2 ru1 lm2 lm1 hu (by omega) (Nat.le_refl _) f5 (fun q => ⟨q, rfl⟩) ?_ ?_ ?_ ?_ ?_ ?_ ?_ ?_ (fun k hk => ?_) (fun k hk => ?_) (fun k hk => ?_) (fun k hk => ?_) (fun k hk => ?_) (fun i hi => ?_)⟩
    · simp (disch := omega) only [lAd_o, s_ne, wSt_o]; exact f1
    · simp (disch := omega) only [lAd_o, s_ne, wSt_o]; exact f2
    · simp (disch := omega) only [lAd_o, s_ne, wSt_o]; exact f3
    · simp (disch := omega) only [lAd_o, s_ne, s_eq, wSt_o]
    · simp (disch := omega) only [vTl_o, u_ne, vSt_o]; exact w1
    · simp (disch := omega) only [vTl_o, u_ne, vSt_o]; exact w2
    · simp (disch := omega) only [vTl_o, u_ne, vSt_o]; exact w3
    · simp (disch := omega) only [vTl_o, u_ne, u_eq, vSt_o]
    · simp (disch := omega) only [lAd_o, s_ne]; exact if_pos ⟨rfl, hk⟩
    · simp (disch := omega) only [lAd_o, s_ne, wSt_o]
    · simp (disch := omega) only [lAd_o, s_ne, wSt_o]
    · simp (disch := omega) only [vTl_o, u_ne]
      rw [vSt, if_pos (by omega), show 98 * z + (4 + k) - (98 * z + 4) = k by omega]
    · simp (disch := omega) only [vTl_o, u_ne, vSt_o]
    · simp (disch := omega) only [vTl_o, u_ne, vSt_o]
  · funext j; simp (disch := omega) only [lAd_o, s_ne, wSt_o]
  · simp (disch := omega) only [vTl_o, u_ne, vSt_o]
  · obtain ⟨l1, l2, l3, l4⟩ := hl
    refine rE_mk ?_ ?_ ?_ ?_ ?_ ?_ ?_ ?_ ?_ (rL_add l1 ?_ ?_ (fun e he => ?_)) <;> simp (disch := omega) only [lAd_o, s_ne, s_eq, wSt_o, vTl_o, u_ne, u_eq, vSt_o, e2, e3, e4, e5, e6, e7, e8]
    · exact ⟨ru, ru1, ru2⟩
    · exact ⟨lm, lm0, lm1, lm2⟩
    · exact l2
    · exact l3
    · exact l4 e he
set_option maxHeartbeats 8000000 in
theorem W2_rel {I : Nat → Nat → Int32} {v : Nat → Int32} {s u cl c ln f : Nat} (hv : RC I 1 v) (hs : s < 6) (hu : u ≤ 9) (hw : rW I (7 + 4 * s) v s 1 cl c) (hl : rLn I v ln) (hf : fB (vBd v s (nI u) (c + 1 + cl)) (c + 1 + cl) (c + 1 + cl) = f) (hfl : f < c + 1 + cl) :
    RC (cW2 (cW1 I s u (c + 1 + cl) ln) s c (c + 1 + cl) f (lnx ln)) 1 (vR2 (vR1 v s (nI u) (c + 1 + cl) ln) s c cl f (lnx ln)) := by
  obtain ⟨e2, e3, e4, e5, e6, e7, e8, ⟨ru, ru1, ru2⟩, ⟨lm, lm0, lm1, lm2⟩, -⟩ := id hv.2
  obtain ⟨⟨f1, f2, f3, f4, f5, f6⟩, ⟨w1, w2, w3, -⟩, k0, k1, k2, k3, k4, k5⟩ := id hw
  have kl := kLet_le c f
  -- the first event
  have hl1 : rLn (cW1 I s u (c + 1 + cl) ln) (vR1 v s (nI u) (c + 1 + cl) ln) (lnx ln) := by
    obtain ⟨l1, l2, l3, l4⟩ := hl
    unfold cW1 vR1
    refine rLn_add ⟨l1, ?_, ?_, fun e he => ?_⟩ <;> simp (disch := omega) only [s_ne, wSt_o, u_ne, vSt_o]
    · exact l2
    · exact l3
    · exact l4 e he
  have x1 : ∀ y j, y ≠ 1 → ¬ (3 ≤ y ∧ y ≤ 6) → y ≠ 7 + 4 * s + 1 → y ≠ 7 + 4 * s → cW1 I s u (c + 1 + cl) ln y j = I y j := by
    intro y j h1 h2 h3 h4
    unfold cW1; simp (disch := omega) only [lAd_o, s_ne, wSt_o]
  have xw : ∀ j, j ≠ 6 → cW1 I s u (c + 1 + cl) ln (7 + 4 * s) j = I (7 + 4 * s) j := by
    intro j hj
    unfold cW1; simp (disch := omega) only [lAd_o, s_ne, wSt_o]
  have xw6 : cW1 I s u (c + 1 + cl) ln (7 + 4 * s) 6 = I (7 + 4 * s) 6 + 1 := by
    unfold cW1; simp (disch := omega) only [lAd_o, s_ne, s_eq, wSt_o]
  have xl : ∀ k, k < c + 1 + cl → cW1 I s u (c + 1 + cl) ln (7 + 4 * s + 1) k = wLn I (7 + 4 * s) (nI ru) (nI u) (c + 1 + cl) k := by
    intro k hk
    unfold cW1; simp (disch := omega) only [lAd_o, s_ne]
    rw [e2, ru2]
    exact if_pos ⟨rfl, hk⟩
  have y1 : ∀ x, x < 588 → ¬ (98 * s + 4 ≤ x ∧ x < 98 * s + 4 + (c + 1 + cl)) → x ≠ 98 * s + 3 → vR1 v s (nI u) (c + 1 + cl) ln x = v x := by
    intro x h1 h2 h3
    unfold vR1; simp (disch := omega) only [vTl_o, u_ne, vSt_o]
  have y6 : vR1 v s (nI u) (c + 1 + cl) ln (98 * s + 3) = v (98 * s + 3) + 1 := by
    unfold vR1; simp (disch := omega) only [vTl_o, u_ne, u_eq]
  have yl : ∀ k, k < c + 1 + cl → vR1 v s (nI u) (c + 1 + cl) ln (98 * s + (4 + k)) = vLn v s (nI u) (c + 1 + cl) k := by
    intro k hk
    unfold vR1; simp (disch := omega) only [vTl_o, u_ne]
    rw [vSt, if_pos (by omega), show 98 * s + (4 + k) - (98 * s + 4) = k by omega]
  have z : ∀ j, (j = 2 ∨ j = 3 ∨ j = 5 ∨ j = 7 ∨ j = 8) → cW1 I s u (c + 1 + cl) ln 1 j = I 1 j := by
    intro j hj
    unfold cW1; simp (disch := omega) only [lAd_o, s_ne, wSt_o]
  have zv : ∀ x, (x = 588 ∨ x = 589 ∨ x = 591 ∨ x = 593 ∨ x = 594) → vR1 v s (nI u) (c + 1 + cl) ln x = v x := by
    intro x hx
    unfold vR1; simp (disch := omega) only [vTl_o, u_ne, vSt_o]
  have z46 : cW1 I s u (c + 1 + cl) ln 1 4 = vR1 v s (nI u) (c + 1 + cl) ln 590 ∧ cW1 I s u (c + 1 + cl) ln 1 6 = vR1 v s (nI u) (c + 1 + cl) ln 592 := by
    unfold cW1 vR1
    constructor <;> simp (disch := omega) only [lAd_o, s_ne, s_eq, wSt_o, vTl_o, u_ne, u_eq, vSt_o, e4, e6]
  generalize cW1 I s u (c + 1 + cl) ln = X at hl1 x1 xw xw6 xl z z46 ⊢
  generalize vR1 v s (nI u) (c + 1 + cl) ln = w at hl1 y1 y6 yl zv z46 ⊢
  unfold cW2 vR2
  rw [kLet_v, kLet_lost f5 hfl]
  refine RC_upd (fun z => z = s) hv (fun z _ hz => ?_) (fun y hz1 hz2 => ⟨fun d hd => ?_, fun x x1 x2 => ?_⟩) ?_
  · subst hz
    by_cases e : f = 0
    · subst e
      refine ⟨0, 0, 0, rW_empty ?_ ?_ ?_ ?_ ?_ ?_⟩ <;> simp (disch := omega) only [lAd_o, s_ne, s_eq, vTl_o, u_ne, u_eq, cBr, kLet, if_pos, if_true]
      rfl
    · have hk2 : kLet c f + 1 ≤ f := by unfold kLet; split <;> (try split) <;> omega
      refine ⟨1, 0, kLet c f, rW_str (ru := ru) (lm := lm) (u := u) hw ru2 ru1 lm2 lm1 hu (by omega) kl (by omega) (fun q => absurd q (by omega)) ?_ ?_ ?_ ?_ ?_ ?_ ?_ ?_ (fun k hk => ?_) (fun k hk => ?_) (fun k hk => ?_) (fun k hk => ?_) (fun k hk => ?_) (fun i hi => ?_)⟩
      · simp (disch := omega) only [lAd_o, s_ne, cBr, if_neg, xw]; exact f1
      · simp (disch := omega) only [lAd_o, s_ne, cBr_4]; rfl
      · simp (disch := omega) only [lAd_o, s_ne, cBr_5]
      · simp (disch := omega) only [lAd_o, s_ne, cBr, if_neg, xw6]
      · simp (disch := omega) only [vTl_o, u_ne, u_eq, if_neg]
      · simp (disch := omega) only [vTl_o, u_ne, u_eq]; rfl
      · simp (disch := omega) only [vTl_o, u_ne, u_eq]
      · simp (disch := omega) only [vTl_o, u_ne, y6]
      · simp (disch := omega) only [lAd_o, s_ne, cBr_o, xl]
      · simp (disch := omega) only [lAd_o, s_ne, cBr_o, x1]
      · simp (disch := omega) only [lAd_o, s_ne, cBr_o, x1]
      · simp (disch := omega) only [vTl_o, u_ne, yl]
      · simp (disch := omega) only [vTl_o, u_ne, y1]
      · simp (disch := omega) only [vTl_o, u_ne, y1]
  · funext j; simp (disch := omega) only [lAd_o, s_ne, cBr_o, x1]
  · simp (disch := omega) only [vTl_o, u_ne, y1]
  · obtain ⟨l1, l2, l3, l4⟩ := hl1
    obtain ⟨z4, z6⟩ := z46
    have q := rL_add (I := mSet (mSet (cBr X (7 + 4 * s) c f) 1 7 (X 1 7 + 1)) 1 8 (X 1 8 + nI (c - kLet c f))) (v := vU (vU w 593 (w 593 + 1)) 594 (w 594 + nI (c - kLet c f))) (n := lnx ln) (kd := 2) (sp := nI s) (nu := nI (c + 1 + cl - f)) l1
      (by simp (disch := omega) only [s_ne, cBr_o]; exact l2) (by simp (disch := omega) only [u_ne]; exact l3) (fun e he => by simp (disch := omega) only [s_ne, cBr_o, u_ne]; exact l4 e he)
    obtain ⟨m, q1, q2, q3, q4⟩ := q
    refine rE_mk ?_ ?_ ?_ ?_ ?_ ?_ ?_ ?_ ?_ ⟨m, q1, q2, ?_, fun e he => ?_⟩
    · simp (disch := omega) only [lAd_o, s_ne, s_eq, cBr_o, vTl_o, u_ne, u_eq, z, zv, z4, z6, e2, e3, e5, e7, e8]
    · simp (disch := omega) only [lAd_o, s_ne, s_eq, cBr_o, vTl_o, u_ne, u_eq, z, zv, z4, z6, e2, e3, e5, e7, e8]
    · simp (disch := omega) only [lAd_o, s_ne, s_eq, cBr_o, vTl_o, u_ne, u_eq, z, zv, z4, z6, e2, e3, e5, e7, e8]
    · simp (disch := omega) only [lAd_o, s_ne, s_eq, cBr_o, vTl_o, u_ne, u_eq, z, zv, z4, z6, e2, e3, e5, e7, e8]
    · simp (disch := omega) only [lAd_o, s_ne, s_eq, cBr_o, vTl_o, u_ne, u_eq, z, zv, z4, z6, e2, e3, e5, e7, e8]
    · simp (disch := omega) only [lAd_o, s_ne, s_eq, cBr_o, vTl_o, u_ne, u_eq, z, zv, z4, z6, e2, e3, e5, e7, e8]
    · simp (disch := omega) only [lAd_o, s_ne, s_eq, cBr_o, vTl_o, u_ne, u_eq, z, zv, z4, z6, e2, e3, e5, e7, e8]
    · simp (disch := omega) only [vTl_o, u_ne, zv]; exact ⟨ru, ru1, ru2⟩
    · simp (disch := omega) only [vTl_o, u_ne, zv]; exact ⟨lm, lm0, lm1, lm2⟩
    · simp (disch := omega) only [u_ne]; exact q3
    · simp (disch := omega) only [u_ne]; exact q4 e he
end
section
/-! rewind -/
theorem RC_wire {I : Nat → Nat → Int32} {v : Nat → Int32} {s : Nat} (h : RC I 1 v) (hs : s < 6) (hp : I (7 + 4 * s) 3 = nI 1) : ∃ cl c, rW I (7 + 4 * s) v s 1 cl c := by
  obtain ⟨p, cl, c, hw⟩ := h.1 s hs
  rw [show 1 + 6 + 4 * s = 7 + 4 * s by omega] at hw
  have h1 := hw.1.1
  have h2 := hw.1.2.2.2.1
  rw [hp, n_eq (by omega) (by omega)] at h1
  subst h1
  exact ⟨cl, c, hw⟩
/-- the ghost behind the rest of a rewinding, d turns more beside the one that comes: how many turns there were in all, ti the number of this one -/
def wWind (s u : Nat) : Nat → Nat → (Nat → Int32) → Nat × (Nat → Int32)
  | 0, ti, v => if fB (vBd v s (nI u) (gn v s)) (gn v s) (gn v s) = gn v s then (ti, vR1 v s (nI u) (gn v s) (gln v)) else (ti, vR2 (vR1 v s (nI u) (gn v s) (gln v)) s (gc v s) (gl v s) (fB (vBd v s (nI u) (gn v s)) (gn v s) (gn v s)) (lnx (gln v)))
  | d + 1, ti, v => if fB (vBd v s (nI u) (gn v s)) (gn v s) (gn v s) = gn v s then wWind s u d (ti + 1) (vR1 v s (nI u) (gn v s) (gln v)) else (ti, vR2 (vR1 v s (nI u) (gn v s) (gln v)) s (gc v s) (gl v s) (fB (vBd v s (nI u) (gn v s)) (gn v s) (gn v s)) (lnx (gln v)))
theorem rW_gn {I : Nat → Nat → Int32} {a s p cl c : Nat} {v : Nat → Int32} (h : rW I a v s p cl c) : gn v s = c + 1 + cl ∧ gc v s = c ∧ gl v s = cl ∧ gp v s = p := by
  obtain ⟨g1, g2, g3⟩ := g_vF h.2.1
  unfold gn
  rw [g2, g3]
  exact ⟨rfl, rfl, rfl, g1⟩
set_option maxHeartbeats 8000000 in
theorem wind_all {K : mK} {R : Nat → Nat → Option Nat} (h : zS K R 1) {s u T : Nat} (hs : s < 6) (hu : u ≤ 9) (hT2 : T ≤ 30) : ∀ (d ti : Nat), ti + d = T → 1 ≤ ti → ∀ (I : Nat → Nat → Int32) (v : Nat → Int32) (l5 : Value), RC I 1 v → (∃ cl c, rW I (7 + 4 * s) v s 1 cl c) →
    ∃ I2, Ev 29 (mB 29 3) [.ref 1, .int (nI s), .int (nI u), .int (nI T), .int (nI ti), l5] [] (K, R, I) (fun w k => w = some (.int (nI (wWind s u d ti v).1)) ∧ k = (K, R, I2)) ∧ RC I2 1 (wWind s u d ti v).2 ∧ (∀ x, x = 0 ∨ 31 ≤ x → I2 x = I x) := by
  intro d
  induction d with
  | zero =>
    intro ti hti ht1 I v l5 hv ⟨cl, c, hw⟩
    obtain ⟨e2, e3, e4, e5, e6, e7, e8, ⟨ru, ru1, ru2⟩, ⟨lm, lm0, lm1, lm2⟩, ln, l1, l2, l3, l4⟩ := id hv.2
    have gl1 : gln v = ln := by unfold gln; rw [l3]; exact n_cl (by omega)
    obtain ⟨g1, g2, g3, g4⟩ := rW_gn hw
    have hf := hw.1
    obtain ⟨x1, x2⟩ := str_eq (lm := lm) (u := u) hw ru2 lm2
    have x3 : fB (wBd I (7 + 4 * s) (I 1 2) (I 1 3) (nI u) (c + 1 + cl)) (c + 1 + cl) (c + 1 + cl) = fB (vBd v s (nI u) (c + 1 + cl)) (c + 1 + cl) (c + 1 + cl) := by rw [e2, e3, ru2, lm2]; exact x2
    have hrl : rLn I v ln := ⟨l1, l2, l3, l4⟩
    have fle := (fB_le (vBd v s (nI u) (c + 1 + cl)) (c + 1 + cl) (c + 1 + cl) (Nat.le_refl _)).1
    have hT : ti = T := by omega
    unfold wWind
    rw [g1, g2, g3, gl1]
    by_cases e : fB (vBd v s (nI u) (c + 1 + cl)) (c + 1 + cl) (c + 1 + cl) = c + 1 + cl
    · have w1 := W1_rel hv hs hu hw hrl e
      rw [if_pos e]
      refine ⟨cW1 I s u (c + 1 + cl) ln, ?_, w1, fun x hx => ?_⟩
      · rw [c_turn h hs hf l2 l1 (by omega) hT2 x3, if_pos e, B_29_3]
        simp (disch := omega) only [e_iconst, e_bipush, e_sipush, e_iload_n, e_iload, e_aload_n, e_aload, e_istore_n, e_istore, e_astore_n, e_astore, e_iinc, e_iadd, e_isub, e_imul, e_iand, e_ishr, e_idiv, e_i2c, e_dup_i, e_dup_r, e_dup2, e_pop, e_goto, e_nop, e_if_eq, e_if_ne, e_if_lt, e_if_ge, e_if_gt, e_if_le, e_icmp_eq, e_icmp_ne, e_icmp_lt, e_icmp_ge, e_icmp_gt, e_icmp_le, e_tsw, e_ret0, e_ret1, e_retn, e_getI, e_getZ, e_getR, e_getV, e_getC, e_putI, e_putZ, e_putF, e_gst0, e_gst1, e_sld, e_iald, e_cald, e_bald, e_iast, e_cast, e_aald, e_aast, e_alen, e_slen, e_blen, e_newa, e_newq, e_new, e_oinit, e_ctor, e_virt, e_stat, e_min, e_copy, e_ldc, List.cons_append, List.nil_append, List.append_nil, List.length_cons, List.length_nil, List.replicate_succ, List.replicate_zero, List.getElem?_cons_zero, List.getElem?_cons_succ, List.set_cons_zero, List.set_cons_succ, List.take_succ_cons, List.take_zero, List.drop_succ_cons, List.drop_zero, List.reverse_cons, List.reverse_nil, Option.toList_some, Option.toList_none, Nat.reduceSub, Nat.reduceAdd, Nat.reduceLeDiff, true_and, and_true, and_self, Option.some.injEq, exists_eq_left', Nat.zero_add, Value.int.injEq, Value.ref.injEq, List.cons.injEq, exists_and_left, and_assoc, exists_eq_left, List.all_cons, List.all_nil, m1_i, m1_r, Bool.and_self, Bool.and_true, bk_29_3, n_lt, if_pos, B_29_99, bk_29_99, hT, if_pos, if_neg, not_true_eq_false, not_false_eq_true, or_true, true_or, or_false, false_or, false_and, and_false, Nat.reduceEqDiff, Nat.reduceLT, Nat.reduceMul, Nat.not_lt_zero, Nat.zero_le, Nat.le_refl, ne_eq, reduceIte, reduceCtorEq]
      · funext j; unfold cW1; simp (disch := omega) only [lAd_o, s_ne, wSt_o]
    · have w2 := W2_rel hv hs hu hw hrl rfl (by omega)
      rw [if_neg e]
      refine ⟨_, ?_, w2, fun x hx => ?_⟩
      · rw [c_turn h hs hf l2 l1 (by omega) hT2 x3, if_neg e]
        exact ⟨rfl, rfl⟩
      · funext j; unfold cW2 cW1; simp (disch := omega) only [lAd_o, s_ne, cBr_o, wSt_o]
  | succ d ih =>
    intro ti hti ht1 I v l5 hv ⟨cl, c, hw⟩
    obtain ⟨e2, e3, e4, e5, e6, e7, e8, ⟨ru, ru1, ru2⟩, ⟨lm, lm0, lm1, lm2⟩, ln, l1, l2, l3, l4⟩ := id hv.2
    have gl1 : gln v = ln := by unfold gln; rw [l3]; exact n_cl (by omega)
    obtain ⟨g1, g2, g3, g4⟩ := rW_gn hw
    have hf := hw.1
    obtain ⟨x1, x2⟩ := str_eq (lm := lm) (u := u) hw ru2 lm2
    have x3 : fB (wBd I (7 + 4 * s) (I 1 2) (I 1 3) (nI u) (c + 1 + cl)) (c + 1 + cl) (c + 1 + cl) = fB (vBd v s (nI u) (c + 1 + cl)) (c + 1 + cl) (c + 1 + cl) := by rw [e2, e3, ru2, lm2]; exact x2
    have hrl : rLn I v ln := ⟨l1, l2, l3, l4⟩
    have fle := (fB_le (vBd v s (nI u) (c + 1 + cl)) (c + 1 + cl) (c + 1 + cl) (Nat.le_refl _)).1
    unfold wWind
    rw [g1, g2, g3, gl1]
    by_cases e : fB (vBd v s (nI u) (c + 1 + cl)) (c + 1 + cl) (c + 1 + cl) = c + 1 + cl
    · have w1 := W1_rel hv hs hu hw hrl e
      rw [if_pos e]
      obtain ⟨I2, y1, y2, y3⟩ := ih (ti + 1) (by omega) (by omega) (cW1 I s u (c + 1 + cl) ln) (vR1 v s (nI u) (c + 1 + cl) ln) (.int (-1)) w1 (RC_wire w1 hs (by
        unfold cW1; simp (disch := omega) only [lAd_o, s_ne, wSt_o]; exact hf.1))
      refine ⟨I2, ?_, y2, fun x hx => ?_⟩
      · rw [c_turn h hs hf l2 l1 (by omega) hT2 x3, if_pos e]
        exact y1
      · rw [y3 x hx]; funext j; unfold cW1; simp (disch := omega) only [lAd_o, s_ne, wSt_o]
    · have w2 := W2_rel hv hs hu hw hrl rfl (by omega)
      rw [if_neg e]
      refine ⟨_, ?_, w2, fun x hx => ?_⟩
      · rw [c_turn h hs hf l2 l1 (by omega) hT2 x3, if_neg e]
        exact ⟨rfl, rfl⟩
      · funext j; unfold cW2 cW1; simp (disch := omega) only [lAd_o, s_ne, cBr_o, wSt_o]
theorem m_isPu {u : Nat} {h : mH} {Q : Option Value → mH → Prop} (hu : u ≤ 9) : EvM 82 [.int (nI u)] h Q ↔ Q (some (.int 1)) h := by
  rw [m_isPull, if_neg (n_ne0 (by omega)), if_neg (by rw [show (9 : Int32) = nI 9 from rfl, n_lt (by omega) (by omega)]; omega)]
set_option maxHeartbeats 8000000 in
theorem q_rewind {K : mK} {R : Nat → Nat → Option Nat} {I : Nat → Nat → Int32} {v H TT : Nat → Int32} {n tt : Nat} (hrel : REL K R I v n H tt TT) (s u T : Nat) (hs : s < 6) (hu : u ≤ 9) (hT1 : 1 ≤ T) (hT2 : T ≤ 30) : if gp v s = 0 then QO 61 [.int (nI s), .int (nI u), .int (nI T)] K R I (-4) else AO 61 [.int (nI s), .int (nI u), .int (nI T)] K R I (nI (wWind s u (T - 1) 1 v).1) (wWind s u (T - 1) 1 v).2 (nTu n) (vRec H v n) tt TT := by
  obtain ⟨f, g, hv, hn2, hn, hH, hP, hT⟩ := id hrel
  have q4 := qTu_lt g hn2
  obtain ⟨gs, -, gh, gw, gr, gr', ⟨a0, a1, a2, a3, a4, a5, a6, a7, a8⟩, ⟨b0, b1, b2⟩, cc0⟩ := id g
  have gs0 : K.2.2.1 1 = (1, 4) := gs.1
  have gs1 : R 1 0 = some 2 := gs.2.1
  have gs2 : K.2.2.1 2 = (4, 6) := gs.2.2.1
  have gs3 : R 1 1 = some 3 := gs.2.2.2.1
  have gs4 : zL K R 3 := gs.2.2.2.2.1
  have gW : ∀ s, s < 6 → zW K R (7 + 4 * s) := fun s hs => (gs.2.2.2.2.2.2 s hs).2
  have gR : ∀ s, s < 6 → R 2 s = some (7 + 4 * s) := fun s hs => (gs.2.2.2.2.2.2 s hs).1
  have gh0 := gh.1
  have gsl : K.2.2.1 3 = (1, 2) := gs4.1
  have gT := zG_tu (n := n) g
  have gst : zS K (RTu R n) 1 := gT.1
  have gt1 : RTu R n 1 0 = some 2 := gst.2.1
  have gt3 : RTu R n 1 1 = some 3 := gst.2.2.2.1
  have gt4 : zL K (RTu R n) 3 := gst.2.2.2.2.1
  have gWt : ∀ s, s < 6 → zW K (RTu R n) (7 + 4 * s) := fun s hs => (gst.2.2.2.2.2.2 s hs).2
  have gRt : ∀ s, s < 6 → RTu R n 2 s = some (7 + 4 * s) := fun s hs => (gst.2.2.2.2.2.2 s hs).1
  obtain ⟨-, a1t, a2t, a3t, a4t, a5t, a6t, a7t, a8t⟩ := gT.2.2.2.2.2.2.1
  obtain ⟨pA, clA, cA, hwA⟩ := hv.1 s hs
  rw [show 1 + 6 + 4 * s = 7 + 4 * s by omega] at hwA
  obtain ⟨wfA, vfA, k0A, k1A, k2A, k3A, k4A, k5A⟩ := id hwA
  obtain ⟨f1A, f2A, f3A, f4A, f5A, f6A⟩ := id wfA
  obtain ⟨v1A, v2A, v3A, -⟩ := id vfA
  have zwA := gW s hs
  have zwtA := gWt s hs
  have rwA := gR s hs
  have rwtA := gRt s hs
  have zw0A : K.2.2.1 (7 + 4 * s) = (1, 6) := zwA.1
  obtain ⟨g1A, g2A, g3A⟩ := g_vF vfA
  rw [g1A]
  rcases (show pA = 0 ∨ pA = 1 by omega) with rfl | rfl
  · rw [if_pos rfl]
    refine ⟨I, ?_, SCR_id⟩
    simp (disch := omega) only [e_iconst, e_bipush, e_sipush, e_iload_n, e_iload, e_aload_n, e_aload, e_istore_n, e_istore, e_astore_n, e_astore, e_iinc, e_iadd, e_isub, e_imul, e_iand, e_ishr, e_idiv, e_i2c, e_dup_i, e_dup_r, e_dup2, e_pop, e_goto, e_nop, e_if_eq, e_if_ne, e_if_lt, e_if_ge, e_if_gt, e_if_le, e_icmp_eq, e_icmp_ne, e_icmp_lt, e_icmp_ge, e_icmp_gt, e_icmp_le, e_tsw, e_ret0, e_ret1, e_retn, e_getI, e_getZ, e_getR, e_getV, e_getC, e_putI, e_putZ, e_putF, e_gst0, e_gst1, e_sld, e_iald, e_cald, e_bald, e_iast, e_cast, e_aald, e_aast, e_alen, e_slen, e_blen, e_newa, e_newq, e_new, e_oinit, e_ctor, e_virt, e_stat, e_min, e_copy, e_ldc, List.cons_append, List.nil_append, List.append_nil, List.length_cons, List.length_nil, List.replicate_succ, List.replicate_zero, List.getElem?_cons_zero, List.getElem?_cons_succ, List.set_cons_zero, List.set_cons_succ, List.take_succ_cons, List.take_zero, List.drop_succ_cons, List.drop_zero, List.reverse_cons, List.reverse_nil, Option.toList_some, Option.toList_none, Nat.reduceSub, Nat.reduceAdd, Nat.reduceLeDiff, true_and, and_true, and_self, Option.some.injEq, exists_eq_left', Nat.zero_add, Value.int.injEq, Value.ref.injEq, List.cons.injEq, exists_and_left, and_assoc, exists_eq_left, List.all_cons, List.all_nil, m1_i, m1_r, Bool.and_self, Bool.and_true, E_in 61, N_61, B_61_0, bk_61_0, B_61_9, bk_61_9, B_61_30, bk_61_30, C_81, C_82, m_isSp hs, m_isPu hu, o_lt_l, o_le_l, if_neg, if_pos, o_eq, a0, a1, gs0, gs1, gs2, zw0A, rwA, n_in, n_cl, true_or, or_true, f1A, o_eq_l, if_pos, if_neg, not_true_eq_false, not_false_eq_true, or_true, true_or, or_false, false_or, false_and, and_false, Nat.reduceEqDiff, Nat.reduceLT, Nat.reduceMul, Nat.not_lt_zero, Nat.zero_le, Nat.le_refl, ne_eq, reduceIte, reduceCtorEq]
  rw [if_neg (by omega)]
  have hv1 : RC (hRm I (qTu f n) n) 1 v := RC_out hv (fun x x1 x2 => hRm_l (by omega))
  obtain ⟨I2, y1, y2, y3⟩ := wind_all gst hs hu hT2 (T - 1) 1 (by omega) (by omega) (hRm I (qTu f n) n) v .null hv1 (RC_wire hv1 hs (by rw [hRm_l (by omega)]; exact f1A))
  have y1' : EvM 29 [.ref 1, .int (nI s), .int (nI u), .int (nI T)] (K, RTu R n, hRm I (qTu f n) n) (fun w k => w = some (.int (nI (wWind s u (T - 1) 1 v).1)) ∧ k = (K, RTu R n, I2)) := by
    rw [E_in 29, B_29_0]
    simp (disch := omega) only [e_iconst, e_bipush, e_sipush, e_iload_n, e_iload, e_aload_n, e_aload, e_istore_n, e_istore, e_astore_n, e_astore, e_iinc, e_iadd, e_isub, e_imul, e_iand, e_ishr, e_idiv, e_i2c, e_dup_i, e_dup_r, e_dup2, e_pop, e_goto, e_nop, e_if_eq, e_if_ne, e_if_lt, e_if_ge, e_if_gt, e_if_le, e_icmp_eq, e_icmp_ne, e_icmp_lt, e_icmp_ge, e_icmp_gt, e_icmp_le, e_tsw, e_ret0, e_ret1, e_retn, e_getI, e_getZ, e_getR, e_getV, e_getC, e_putI, e_putZ, e_putF, e_gst0, e_gst1, e_sld, e_iald, e_cald, e_bald, e_iast, e_cast, e_aald, e_aast, e_alen, e_slen, e_blen, e_newa, e_newq, e_new, e_oinit, e_ctor, e_virt, e_stat, e_min, e_copy, e_ldc, List.cons_append, List.nil_append, List.append_nil, List.length_cons, List.length_nil, List.replicate_succ, List.replicate_zero, List.getElem?_cons_zero, List.getElem?_cons_succ, List.set_cons_zero, List.set_cons_succ, List.take_succ_cons, List.take_zero, List.drop_succ_cons, List.drop_zero, List.reverse_cons, List.reverse_nil, Option.toList_some, Option.toList_none, Nat.reduceSub, Nat.reduceAdd, Nat.reduceLeDiff, true_and, and_true, and_self, Option.some.injEq, exists_eq_left', Nat.zero_add, Value.int.injEq, Value.ref.injEq, List.cons.injEq, exists_and_left, and_assoc, exists_eq_left, List.all_cons, List.all_nil, m1_i, m1_r, Bool.and_self, Bool.and_true, N_29, bk_29_0, if_pos, if_neg, not_true_eq_false, not_false_eq_true, or_true, true_or, or_false, false_or, false_and, and_false, Nat.reduceEqDiff, Nat.reduceLT, Nat.reduceMul, Nat.not_lt_zero, Nat.zero_le, Nat.le_refl, ne_eq, reduceIte, reduceCtorEq]
    exact y1
  refine ⟨RTu R n, I2, ?_, REL_act g hv hn2 hH hP hT (fun x x1 x2 => y3 x (by omega)) (by rw [y3 0 (by omega), hRm_l (by omega)]) y2⟩
  simp (disch := omega) only [e_iconst, e_bipush, e_sipush, e_iload_n, e_iload, e_aload_n, e_aload, e_istore_n, e_istore, e_astore_n, e_astore, e_iinc, e_iadd, e_isub, e_imul, e_iand, e_ishr, e_idiv, e_i2c, e_dup_i, e_dup_r, e_dup2, e_pop, e_goto, e_nop, e_if_eq, e_if_ne, e_if_lt, e_if_ge, e_if_gt, e_if_le, e_icmp_eq, e_icmp_ne, e_icmp_lt, e_icmp_ge, e_icmp_gt, e_icmp_le, e_tsw, e_ret0, e_ret1, e_retn, e_getI, e_getZ, e_getR, e_getV, e_getC, e_putI, e_putZ, e_putF, e_gst0, e_gst1, e_sld, e_iald, e_cald, e_bald, e_iast, e_cast, e_aald, e_aast, e_alen, e_slen, e_blen, e_newa, e_newq, e_new, e_oinit, e_ctor, e_virt, e_stat, e_min, e_copy, e_ldc, List.cons_append, List.nil_append, List.append_nil, List.length_cons, List.length_nil, List.replicate_succ, List.replicate_zero, List.getElem?_cons_zero, List.getElem?_cons_succ, List.set_cons_zero, List.set_cons_succ, List.take_succ_cons, List.take_zero, List.drop_succ_cons, List.drop_zero, List.reverse_cons, List.reverse_nil, Option.toList_some, Option.toList_none, Nat.reduceSub, Nat.reduceAdd, Nat.reduceLeDiff, true_and, and_true, and_self, Option.some.injEq, exists_eq_left', Nat.zero_add, Value.int.injEq, Value.ref.injEq, List.cons.injEq, exists_and_left, and_assoc, exists_eq_left, List.all_cons, List.all_nil, m1_i, m1_r, Bool.and_self, Bool.and_true, E_in 61, N_61, B_61_0, bk_61_0, B_61_9, bk_61_9, B_61_30, bk_61_30, C_81, C_82, m_isSp hs, m_isPu hu, o_lt_l, o_le_l, if_neg, if_pos, o_eq, a0, a1, gs0, gs1, gs2, zw0A, rwA, n_in, n_cl, true_or, or_true, f1A, o_eq_l, if_pos, if_neg, not_true_eq_false, not_false_eq_true, or_true, true_or, or_false, false_or, false_and, and_false, Nat.reduceEqDiff, Nat.reduceLT, Nat.reduceMul, Nat.not_lt_zero, Nat.zero_le, Nat.le_refl, ne_eq, reduceIte, reduceCtorEq]
  rw [B_61_48]
  simp (disch := omega) only [e_iconst, e_bipush, e_sipush, e_iload_n, e_iload, e_aload_n, e_aload, e_istore_n, e_istore, e_astore_n, e_astore, e_iinc, e_iadd, e_isub, e_imul, e_iand, e_ishr, e_idiv, e_i2c, e_dup_i, e_dup_r, e_dup2, e_pop, e_goto, e_nop, e_if_eq, e_if_ne, e_if_lt, e_if_ge, e_if_gt, e_if_le, e_icmp_eq, e_icmp_ne, e_icmp_lt, e_icmp_ge, e_icmp_gt, e_icmp_le, e_tsw, e_ret0, e_ret1, e_retn, e_getI, e_getZ, e_getR, e_getV, e_getC, e_putI, e_putZ, e_putF, e_gst0, e_gst1, e_sld, e_iald, e_cald, e_bald, e_iast, e_cast, e_aald, e_aast, e_alen, e_slen, e_blen, e_newa, e_newq, e_new, e_oinit, e_ctor, e_virt, e_stat, e_min, e_copy, e_ldc, List.cons_append, List.nil_append, List.append_nil, List.length_cons, List.length_nil, List.replicate_succ, List.replicate_zero, List.getElem?_cons_zero, List.getElem?_cons_succ, List.set_cons_zero, List.set_cons_succ, List.take_succ_cons, List.take_zero, List.drop_succ_cons, List.drop_zero, List.reverse_cons, List.reverse_nil, Option.toList_some, Option.toList_none, Nat.reduceSub, Nat.reduceAdd, Nat.reduceLeDiff, true_and, and_true, and_self, Option.some.injEq, exists_eq_left', Nat.zero_add, Value.int.injEq, Value.ref.injEq, List.cons.injEq, exists_and_left, and_assoc, exists_eq_left, List.all_cons, List.all_nil, m1_i, m1_r, Bool.and_self, Bool.and_true, bk_61_48, a0, a1, a2, a1t, gs0, gh0, C_9, C_29, a_remember g hv hn hn2, EvM_iff y1', if_pos, if_neg, not_true_eq_false, not_false_eq_true, or_true, true_or, or_false, false_or, false_and, and_false, Nat.reduceEqDiff, Nat.reduceLT, Nat.reduceMul, Nat.not_lt_zero, Nat.zero_le, Nat.le_refl, ne_eq, reduceIte, reduceCtorEq]
end
section
/-! spool, gap -/
def vQu (v : Nat → Int32) (s g : Nat) : Int32 := v (98 * s + (4 + g)) * 1000 / v (98 * s + (36 + g))
theorem nrs_cg {f f' : Nat → Int32} : ∀ n, (∀ k, k < n → f k = f' k) → nrs f n = nrs f' n := by
  intro n
  induction n with
  | zero => intro _; rfl
  | succ n ih =>
    intro h
    have e := ih (fun k hk => h k (by omega))
    rw [nrs, nrs, e]
    rcases Nat.eq_zero_or_pos n with rfl | q
    · simp [nrs]
    · rw [h n (by omega), h (nrs f' n) (by have := nrs_lt f' n q; omega)]
theorem rW_y {I : Nat → Nat → Int32} {a s cl c : Nat} {v : Nat → Int32} (h : rW I a v s 1 cl c) : (∀ g, g < c + 1 + cl → ∃ y, I (a + 2) g = nI y ∧ 0 < y ∧ y < 100000) ∧ (∀ g, g < c + 1 + cl → ∃ y, v (98 * s + (36 + g)) = nI y ∧ 0 < y ∧ y < 100000) ∧ nrs (wQu I a) (c + 1 + cl) = nrs (vQu v s) (c + 1 + cl) ∧ (∀ g, g < c + 1 + cl → wQu I a g = vQu v s g) ∧ sm (I (a + 1)) (c + 1 + cl) = sm (fun k => v (98 * s + (4 + k))) (c + 1 + cl) ∧ sm (I (a + 2)) (c + 1 + cl) = sm (fun k => v (98 * s + (36 + k))) (c + 1 + cl) := by
  obtain ⟨-, -, -, -, -, k3, -⟩ := h
  have hq : ∀ g, g < c + 1 + cl → wQu I a g = vQu v s g := by
    intro g hg
    obtain ⟨x1, x2, -⟩ := k3 g hg
    rw [wQu, vQu, x1, x2]
  refine ⟨fun g hg => ?_, fun g hg => ?_, nrs_cg _ hq, hq, sm_cg _ (fun g hg => (k3 g hg).1), sm_cg _ (fun g hg => (k3 g hg).2.1)⟩
  · obtain ⟨x1, x2, m, y, y1, y2, y3, y4, y5, y6⟩ := k3 g hg
    exact ⟨y, by rw [x2, y2], by omega, by omega⟩
  · obtain ⟨x1, x2, m, y, y1, y2, y3, y4, y5, y6⟩ := k3 g hg
    exact ⟨y, y2, by omega, by omega⟩
/-- what spool answers -/
def aSpool (v : Nat → Int32) (s w : Nat) : Int32 := if gp v s = 0 then -4 else if w = 0 then nI (gc v s) else if w = 1 then nI (gl v s) else if w = 2 then sm (fun k => v (98 * s + (4 + k))) (gn v s) else if w = 3 then sm (fun k => v (98 * s + (36 + k))) (gn v s) else if w = 4 then v (98 * s + 3) else if w = 5 then nI (nrs (vQu v s) (gn v s)) else vQu v s (nrs (vQu v s) (gn v s))
theorem q_spool6 {K : mK} {R : Nat → Nat → Option Nat} {I : Nat → Nat → Int32} {v H T : Nat → Int32} {n t : Nat} (hrel : REL K R I v n H t T) (w : Nat) : QO 72 [.int (nI 6), .int (nI w)] K R I (-1) := by
  obtain ⟨f, g, hv, hn2, hn, hH, hP, hT⟩ := id hrel
  have q4 := qTu_lt g hn2
  obtain ⟨gs, -, gh, gw, gr, gr', ⟨a0, a1, a2, a3, a4, a5, a6, a7, a8⟩, ⟨b0, b1, b2⟩, cc0⟩ := id g
  have gs0 : K.2.2.1 1 = (1, 4) := gs.1
  have gs1 : R 1 0 = some 2 := gs.2.1
  have gs2 : K.2.2.1 2 = (4, 6) := gs.2.2.1
  have gs3 : R 1 1 = some 3 := gs.2.2.2.1
  have gs4 : zL K R 3 := gs.2.2.2.2.1
  have gW : ∀ s, s < 6 → zW K R (7 + 4 * s) := fun s hs => (gs.2.2.2.2.2.2 s hs).2
  have gR : ∀ s, s < 6 → R 2 s = some (7 + 4 * s) := fun s hs => (gs.2.2.2.2.2.2 s hs).1
  have gh0 := gh.1
  have gsl : K.2.2.1 3 = (1, 2) := gs4.1
  have gT := zG_tu (n := n) g
  have gst : zS K (RTu R n) 1 := gT.1
  have gt1 : RTu R n 1 0 = some 2 := gst.2.1
  have gt3 : RTu R n 1 1 = some 3 := gst.2.2.2.1
  have gt4 : zL K (RTu R n) 3 := gst.2.2.2.2.1
  have gWt : ∀ s, s < 6 → zW K (RTu R n) (7 + 4 * s) := fun s hs => (gst.2.2.2.2.2.2 s hs).2
  have gRt : ∀ s, s < 6 → RTu R n 2 s = some (7 + 4 * s) := fun s hs => (gst.2.2.2.2.2.2 s hs).1
  obtain ⟨-, a1t, a2t, a3t, a4t, a5t, a6t, a7t, a8t⟩ := gT.2.2.2.2.2.2.1
  refine ⟨I, ?_, SCR_id⟩
  simp (disch := omega) only [e_iconst, e_bipush, e_sipush, e_iload_n, e_iload, e_aload_n, e_aload, e_istore_n, e_istore, e_astore_n, e_astore, e_iinc, e_iadd, e_isub, e_imul, e_iand, e_ishr, e_idiv, e_i2c, e_dup_i, e_dup_r, e_dup2, e_pop, e_goto, e_nop, e_if_eq, e_if_ne, e_if_lt, e_if_ge, e_if_gt, e_if_le, e_icmp_eq, e_icmp_ne, e_icmp_lt, e_icmp_ge, e_icmp_gt, e_icmp_le, e_tsw, e_ret0, e_ret1, e_retn, e_getI, e_getZ, e_getR, e_getV, e_getC, e_putI, e_putZ, e_putF, e_gst0, e_gst1, e_sld, e_iald, e_cald, e_bald, e_iast, e_cast, e_aald, e_aast, e_alen, e_slen, e_blen, e_newa, e_newq, e_new, e_oinit, e_ctor, e_virt, e_stat, e_min, e_copy, e_ldc, List.cons_append, List.nil_append, List.append_nil, List.length_cons, List.length_nil, List.replicate_succ, List.replicate_zero, List.getElem?_cons_zero, List.getElem?_cons_succ, List.set_cons_zero, List.set_cons_succ, List.take_succ_cons, List.take_zero, List.drop_succ_cons, List.drop_zero, List.reverse_cons, List.reverse_nil, Option.toList_some, Option.toList_none, Nat.reduceSub, Nat.reduceAdd, Nat.reduceLeDiff, true_and, and_true, and_self, Option.some.injEq, exists_eq_left', Nat.zero_add, Value.int.injEq, Value.ref.injEq, List.cons.injEq, exists_and_left, and_assoc, exists_eq_left, List.all_cons, List.all_nil, m1_i, m1_r, Bool.and_self, Bool.and_true, E_in 72, N_72, B_72_0, bk_72_0, C_81, m_noSp (x := nI 6) (Or.inr (Int32.le_refl _)), if_pos, if_neg, not_true_eq_false, not_false_eq_true, or_true, true_or, or_false, false_or, false_and, and_false, Nat.reduceEqDiff, Nat.reduceLT, Nat.reduceMul, Nat.not_lt_zero, Nat.zero_le, Nat.le_refl, ne_eq, reduceIte, reduceCtorEq]
set_option maxHeartbeats 8000000 in
theorem q_spool {K : mK} {R : Nat → Nat → Option Nat} {I : Nat → Nat → Int32} {v H T : Nat → Int32} {n t : Nat} (hrel : REL K R I v n H t T) (s k : Nat) (hs : s < 6) (hk : k < 7) : QO 72 [.int (nI s), .int (nI k)] K R I (aSpool v s k) := by
  obtain ⟨f, g, hv, hn2, hn, hH, hP, hT⟩ := id hrel
  have q4 := qTu_lt g hn2
  obtain ⟨gs, -, gh, gw, gr, gr', ⟨a0, a1, a2, a3, a4, a5, a6, a7, a8⟩, ⟨b0, b1, b2⟩, cc0⟩ := id g
  have gs0 : K.2.2.1 1 = (1, 4) := gs.1
  have gs1 : R 1 0 = some 2 := gs.2.1
  have gs2 : K.2.2.1 2 = (4, 6) := gs.2.2.1
  have gs3 : R 1 1 = some 3 := gs.2.2.2.1
  have gs4 : zL K R 3 := gs.2.2.2.2.1
  have gW : ∀ s, s < 6 → zW K R (7 + 4 * s) := fun s hs => (gs.2.2.2.2.2.2 s hs).2
  have gR : ∀ s, s < 6 → R 2 s = some (7 + 4 * s) := fun s hs => (gs.2.2.2.2.2.2 s hs).1
  have gh0 := gh.1
  have gsl : K.2.2.1 3 = (1, 2) := gs4.1
  have gT := zG_tu (n := n) g
  have gst : zS K (RTu R n) 1 := gT.1
  have gt1 : RTu R n 1 0 = some 2 := gst.2.1
  have gt3 : RTu R n 1 1 = some 3 := gst.2.2.2.1
  have gt4 : zL K (RTu R n) 3 := gst.2.2.2.2.1
  have gWt : ∀ s, s < 6 → zW K (RTu R n) (7 + 4 * s) := fun s hs => (gst.2.2.2.2.2.2 s hs).2
  have gRt : ∀ s, s < 6 → RTu R n 2 s = some (7 + 4 * s) := fun s hs => (gst.2.2.2.2.2.2 s hs).1
  obtain ⟨-, a1t, a2t, a3t, a4t, a5t, a6t, a7t, a8t⟩ := gT.2.2.2.2.2.2.1
  obtain ⟨pA, clA, cA, hwA⟩ := hv.1 s hs
  rw [show 1 + 6 + 4 * s = 7 + 4 * s by omega] at hwA
  obtain ⟨wfA, vfA, k0A, k1A, k2A, k3A, k4A, k5A⟩ := id hwA
  obtain ⟨f1A, f2A, f3A, f4A, f5A, f6A⟩ := id wfA
  obtain ⟨v1A, v2A, v3A, -⟩ := id vfA
  have zwA := gW s hs
  have zwtA := gWt s hs
  have rwA := gR s hs
  have rwtA := gRt s hs
  have zw0A : K.2.2.1 (7 + 4 * s) = (1, 6) := zwA.1
  obtain ⟨g1, g2, g3⟩ := g_vF vfA
  have g4 : gn v s = cA + 1 + clA := by unfold gn; rw [g2, g3]
  unfold aSpool
  rw [g1, g2, g3, g4]
  refine ⟨I, ?_, SCR_id⟩
  have cls : ∀ Q, Ev 72 (mB 72 22) [.ref 0, .int (nI s), .int (nI k), .null] [] (K, R, I) Q = EvM 73 [.ref 0, .int (nI s), .int (nI k)] (K, R, I) Q := by
    intro Q
    apply propext
    simp (disch := omega) only [e_iconst, e_bipush, e_sipush, e_iload_n, e_iload, e_aload_n, e_aload, e_istore_n, e_istore, e_astore_n, e_astore, e_iinc, e_iadd, e_isub, e_imul, e_iand, e_ishr, e_idiv, e_i2c, e_dup_i, e_dup_r, e_dup2, e_pop, e_goto, e_nop, e_if_eq, e_if_ne, e_if_lt, e_if_ge, e_if_gt, e_if_le, e_icmp_eq, e_icmp_ne, e_icmp_lt, e_icmp_ge, e_icmp_gt, e_icmp_le, e_tsw, e_ret0, e_ret1, e_retn, e_getI, e_getZ, e_getR, e_getV, e_getC, e_putI, e_putZ, e_putF, e_gst0, e_gst1, e_sld, e_iald, e_cald, e_bald, e_iast, e_cast, e_aald, e_aast, e_alen, e_slen, e_blen, e_newa, e_newq, e_new, e_oinit, e_ctor, e_virt, e_stat, e_min, e_copy, e_ldc, List.cons_append, List.nil_append, List.append_nil, List.length_cons, List.length_nil, List.replicate_succ, List.replicate_zero, List.getElem?_cons_zero, List.getElem?_cons_succ, List.set_cons_zero, List.set_cons_succ, List.take_succ_cons, List.take_zero, List.drop_succ_cons, List.drop_zero, List.reverse_cons, List.reverse_nil, Option.toList_some, Option.toList_none, Nat.reduceSub, Nat.reduceAdd, Nat.reduceLeDiff, true_and, and_true, and_self, Option.some.injEq, exists_eq_left', Nat.zero_add, Value.int.injEq, Value.ref.injEq, List.cons.injEq, exists_and_left, and_assoc, exists_eq_left, List.all_cons, List.all_nil, m1_i, m1_r, Bool.and_self, Bool.and_true, E_in 72, N_72, B_72_0, bk_72_0, B_72_9, bk_72_9, C_81, m_isSp hs, n_ne0, o_le_l, if_pos, o_eq, if_pos, if_neg, not_true_eq_false, not_false_eq_true, or_true, true_or, or_false, false_or, false_and, and_false, Nat.reduceEqDiff, Nat.reduceLT, Nat.reduceMul, Nat.not_lt_zero, Nat.zero_le, Nat.le_refl, ne_eq, reduceIte, reduceCtorEq]
  rw [← cls]
  rcases (show pA = 0 ∨ pA = 1 by omega) with rfl | rfl
  · rw [if_pos rfl]
    simp (disch := omega) only [e_iconst, e_bipush, e_sipush, e_iload_n, e_iload, e_aload_n, e_aload, e_istore_n, e_istore, e_astore_n, e_astore, e_iinc, e_iadd, e_isub, e_imul, e_iand, e_ishr, e_idiv, e_i2c, e_dup_i, e_dup_r, e_dup2, e_pop, e_goto, e_nop, e_if_eq, e_if_ne, e_if_lt, e_if_ge, e_if_gt, e_if_le, e_icmp_eq, e_icmp_ne, e_icmp_lt, e_icmp_ge, e_icmp_gt, e_icmp_le, e_tsw, e_ret0, e_ret1, e_retn, e_getI, e_getZ, e_getR, e_getV, e_getC, e_putI, e_putZ, e_putF, e_gst0, e_gst1, e_sld, e_iald, e_cald, e_bald, e_iast, e_cast, e_aald, e_aast, e_alen, e_slen, e_blen, e_newa, e_newq, e_new, e_oinit, e_ctor, e_virt, e_stat, e_min, e_copy, e_ldc, List.cons_append, List.nil_append, List.append_nil, List.length_cons, List.length_nil, List.replicate_succ, List.replicate_zero, List.getElem?_cons_zero, List.getElem?_cons_succ, List.set_cons_zero, List.set_cons_succ, List.take_succ_cons, List.take_zero, List.drop_succ_cons, List.drop_zero, List.reverse_cons, List.reverse_nil, Option.toList_some, Option.toList_none, Nat.reduceSub, Nat.reduceAdd, Nat.reduceLeDiff, true_and, and_true, and_self, Option.some.injEq, exists_eq_left', Nat.zero_add, Value.int.injEq, Value.ref.injEq, List.cons.injEq, exists_and_left, and_assoc, exists_eq_left, List.all_cons, List.all_nil, m1_i, m1_r, Bool.and_self, Bool.and_true, B_72_22, bk_72_22, a0, a1, gs0, gs1, gs2, zw0A, rwA, n_in, n_cl, true_or, or_true, f1A, o_eq_l, if_pos, if_neg, not_true_eq_false, not_false_eq_true, or_true, true_or, or_false, false_or, false_and, and_false, Nat.reduceEqDiff, Nat.reduceLT, Nat.reduceMul, Nat.not_lt_zero, Nat.zero_le, Nat.le_refl, ne_eq, reduceIte, reduceCtorEq]
  rw [if_neg (by omega)]
  obtain ⟨y1, y2, y3, y4, y5, y6⟩ := rW_y hwA
  have hg : ngp 1 clA cA = cA + 1 + clA := rfl
  have nl := nrs_lt (vQu v s) (cA + 1 + clA) (by omega)
  have hst : ∀ {Q : Option Value → mH → Prop}, EvM 57 [.ref (7 + 4 * s), .int (nI (nrs (vQu v s) (cA + 1 + clA)))] (K, R, I) Q ↔ Q (some (.int (vQu v s (nrs (vQu v s) (cA + 1 + clA))))) (K, R, I) := by
    intro Q
    obtain ⟨z, z1, z2, z3⟩ := y1 _ nl
    rw [m_strain zwA wfA nl z1 z2 z3, y4 _ nl]
  have hne : ∀ {Q : Option Value → mH → Prop}, EvM 56 [.ref (7 + 4 * s)] (K, R, I) Q ↔ Q (some (.int (nI (nrs (vQu v s) (cA + 1 + clA))))) (K, R, I) := by
    intro Q
    rw [m_nearest zwA wfA y1, y3]
  rcases (show k = 0 ∨ k = 1 ∨ k = 2 ∨ k = 3 ∨ k = 4 ∨ k = 5 ∨ k = 6 by omega) with rfl | rfl | rfl | rfl | rfl | rfl | rfl
  · simp (disch := omega) only [e_iconst, e_bipush, e_sipush, e_iload_n, e_iload, e_aload_n, e_aload, e_istore_n, e_istore, e_astore_n, e_astore, e_iinc, e_iadd, e_isub, e_imul, e_iand, e_ishr, e_idiv, e_i2c, e_dup_i, e_dup_r, e_dup2, e_pop, e_goto, e_nop, e_if_eq, e_if_ne, e_if_lt, e_if_ge, e_if_gt, e_if_le, e_icmp_eq, e_icmp_ne, e_icmp_lt, e_icmp_ge, e_icmp_gt, e_icmp_le, e_tsw, e_ret0, e_ret1, e_retn, e_getI, e_getZ, e_getR, e_getV, e_getC, e_putI, e_putZ, e_putF, e_gst0, e_gst1, e_sld, e_iald, e_cald, e_bald, e_iast, e_cast, e_aald, e_aast, e_alen, e_slen, e_blen, e_newa, e_newq, e_new, e_oinit, e_ctor, e_virt, e_stat, e_min, e_copy, e_ldc, List.cons_append, List.nil_append, List.append_nil, List.length_cons, List.length_nil, List.replicate_succ, List.replicate_zero, List.getElem?_cons_zero, List.getElem?_cons_succ, List.set_cons_zero, List.set_cons_succ, List.take_succ_cons, List.take_zero, List.drop_succ_cons, List.drop_zero, List.reverse_cons, List.reverse_nil, Option.toList_some, Option.toList_none, Nat.reduceSub, Nat.reduceAdd, Nat.reduceLeDiff, true_and, and_true, and_self, Option.some.injEq, exists_eq_left', Nat.zero_add, Value.int.injEq, Value.ref.injEq, List.cons.injEq, exists_and_left, and_assoc, exists_eq_left, List.all_cons, List.all_nil, m1_i, m1_r, Bool.and_self, Bool.and_true, B_72_22, bk_72_22, B_72_42, bk_72_42, show mTgt 43 75 0 #[37, 42, 55, 60, 65, 70] (nI 0) = 80 from by decide, a0, a1, gs0, gs1, gs2, zw0A, rwA, n_in, n_cl, true_or, or_true, f1A, o_eq_l, if_neg, if_pos, if_neg, not_true_eq_false, not_false_eq_true, or_true, true_or, or_false, false_or, false_and, and_false, Nat.reduceEqDiff, Nat.reduceLT, Nat.reduceMul, Nat.not_lt_zero, Nat.zero_le, Nat.le_refl, ne_eq, reduceIte, reduceCtorEq]
    simp (disch := omega) only [e_iconst, e_bipush, e_sipush, e_iload_n, e_iload, e_aload_n, e_aload, e_istore_n, e_istore, e_astore_n, e_astore, e_iinc, e_iadd, e_isub, e_imul, e_iand, e_ishr, e_idiv, e_i2c, e_dup_i, e_dup_r, e_dup2, e_pop, e_goto, e_nop, e_if_eq, e_if_ne, e_if_lt, e_if_ge, e_if_gt, e_if_le, e_icmp_eq, e_icmp_ne, e_icmp_lt, e_icmp_ge, e_icmp_gt, e_icmp_le, e_tsw, e_ret0, e_ret1, e_retn, e_getI, e_getZ, e_getR, e_getV, e_getC, e_putI, e_putZ, e_putF, e_gst0, e_gst1, e_sld, e_iald, e_cald, e_bald, e_iast, e_cast, e_aald, e_aast, e_alen, e_slen, e_blen, e_newa, e_newq, e_new, e_oinit, e_ctor, e_virt, e_stat, e_min, e_copy, e_ldc, List.cons_append, List.nil_append, List.append_nil, List.length_cons, List.length_nil, List.replicate_succ, List.replicate_zero, List.getElem?_cons_zero, List.getElem?_cons_succ, List.set_cons_zero, List.set_cons_succ, List.take_succ_cons, List.take_zero, List.drop_succ_cons, List.drop_zero, List.reverse_cons, List.reverse_nil, Option.toList_some, Option.toList_none, Nat.reduceSub, Nat.reduceAdd, Nat.reduceLeDiff, true_and, and_true, and_self, Option.some.injEq, exists_eq_left', Nat.zero_add, Value.int.injEq, Value.ref.injEq, List.cons.injEq, exists_and_left, and_assoc, exists_eq_left, List.all_cons, List.all_nil, m1_i, m1_r, Bool.and_self, Bool.and_true, B_72_80, bk_72_80, zw0A, f3A, k1A, C_53, C_54, C_56, C_57, m_sumOfLengths zwA wfA, m_sumOfNominals zwA wfA, hg, y5, y6, hne, hst, if_pos, if_neg, not_true_eq_false, not_false_eq_true, or_true, true_or, or_false, false_or, false_and, and_false, Nat.reduceEqDiff, Nat.reduceLT, Nat.reduceMul, Nat.not_lt_zero, Nat.zero_le, Nat.le_refl, ne_eq, reduceIte, reduceCtorEq]
    try rfl
  · simp (disch := omega) only [e_iconst, e_bipush, e_sipush, e_iload_n, e_iload, e_aload_n, e_aload, e_istore_n, e_istore, e_astore_n, e_astore, e_iinc, e_iadd, e_isub, e_imul, e_iand, e_ishr, e_idiv, e_i2c, e_dup_i, e_dup_r, e_dup2, e_pop, e_goto, e_nop, e_if_eq, e_if_ne, e_if_lt, e_if_ge, e_if_gt, e_if_le, e_icmp_eq, e_icmp_ne, e_icmp_lt, e_icmp_ge, e_icmp_gt, e_icmp_le, e_tsw, e_ret0, e_ret1, e_retn, e_getI, e_getZ, e_getR, e_getV, e_getC, e_putI, e_putZ, e_putF, e_gst0, e_gst1, e_sld, e_iald, e_cald, e_bald, e_iast, e_cast, e_aald, e_aast, e_alen, e_slen, e_blen, e_newa, e_newq, e_new, e_oinit, e_ctor, e_virt, e_stat, e_min, e_copy, e_ldc, List.cons_append, List.nil_append, List.append_nil, List.length_cons, List.length_nil, List.replicate_succ, List.replicate_zero, List.getElem?_cons_zero, List.getElem?_cons_succ, List.set_cons_zero, List.set_cons_succ, List.take_succ_cons, List.take_zero, List.drop_succ_cons, List.drop_zero, List.reverse_cons, List.reverse_nil, Option.toList_some, Option.toList_none, Nat.reduceSub, Nat.reduceAdd, Nat.reduceLeDiff, true_and, and_true, and_self, Option.some.injEq, exists_eq_left', Nat.zero_add, Value.int.injEq, Value.ref.injEq, List.cons.injEq, exists_and_left, and_assoc, exists_eq_left, List.all_cons, List.all_nil, m1_i, m1_r, Bool.and_self, Bool.and_true, B_72_22, bk_72_22, B_72_42, bk_72_42, show mTgt 43 75 0 #[37, 42, 55, 60, 65, 70] (nI 1) = 85 from by decide, a0, a1, gs0, gs1, gs2, zw0A, rwA, n_in, n_cl, true_or, or_true, f1A, o_eq_l, if_neg, if_pos, if_neg, not_true_eq_false, not_false_eq_true, or_true, true_or, or_false, false_or, false_and, and_false, Nat.reduceEqDiff, Nat.reduceLT, Nat.reduceMul, Nat.not_lt_zero, Nat.zero_le, Nat.le_refl, ne_eq, reduceIte, reduceCtorEq]
    rcases (show clA = 0 ∨ clA = 1 by omega) with rfl | rfl
    · simp (disch := omega) only [e_iconst, e_bipush, e_sipush, e_iload_n, e_iload, e_aload_n, e_aload, e_istore_n, e_istore, e_astore_n, e_astore, e_iinc, e_iadd, e_isub, e_imul, e_iand, e_ishr, e_idiv, e_i2c, e_dup_i, e_dup_r, e_dup2, e_pop, e_goto, e_nop, e_if_eq, e_if_ne, e_if_lt, e_if_ge, e_if_gt, e_if_le, e_icmp_eq, e_icmp_ne, e_icmp_lt, e_icmp_ge, e_icmp_gt, e_icmp_le, e_tsw, e_ret0, e_ret1, e_retn, e_getI, e_getZ, e_getR, e_getV, e_getC, e_putI, e_putZ, e_putF, e_gst0, e_gst1, e_sld, e_iald, e_cald, e_bald, e_iast, e_cast, e_aald, e_aast, e_alen, e_slen, e_blen, e_newa, e_newq, e_new, e_oinit, e_ctor, e_virt, e_stat, e_min, e_copy, e_ldc, List.cons_append, List.nil_append, List.append_nil, List.length_cons, List.length_nil, List.replicate_succ, List.replicate_zero, List.getElem?_cons_zero, List.getElem?_cons_succ, List.set_cons_zero, List.set_cons_succ, List.take_succ_cons, List.take_zero, List.drop_succ_cons, List.drop_zero, List.reverse_cons, List.reverse_nil, Option.toList_some, Option.toList_none, Nat.reduceSub, Nat.reduceAdd, Nat.reduceLeDiff, true_and, and_true, and_self, Option.some.injEq, exists_eq_left', Nat.zero_add, Value.int.injEq, Value.ref.injEq, List.cons.injEq, exists_and_left, and_assoc, exists_eq_left, List.all_cons, List.all_nil, m1_i, m1_r, Bool.and_self, Bool.and_true, B_72_85, bk_72_85, B_72_96, bk_72_96, B_72_97, bk_72_97, zw0A, f2A, o_eq_l, if_pos, if_neg, not_true_eq_false, not_false_eq_true, or_true, true_or, or_false, false_or, false_and, and_false, Nat.reduceEqDiff, Nat.reduceLT, Nat.reduceMul, Nat.not_lt_zero, Nat.zero_le, Nat.le_refl, ne_eq, reduceIte, reduceCtorEq]
      rfl
    · simp (disch := omega) only [e_iconst, e_bipush, e_sipush, e_iload_n, e_iload, e_aload_n, e_aload, e_istore_n, e_istore, e_astore_n, e_astore, e_iinc, e_iadd, e_isub, e_imul, e_iand, e_ishr, e_idiv, e_i2c, e_dup_i, e_dup_r, e_dup2, e_pop, e_goto, e_nop, e_if_eq, e_if_ne, e_if_lt, e_if_ge, e_if_gt, e_if_le, e_icmp_eq, e_icmp_ne, e_icmp_lt, e_icmp_ge, e_icmp_gt, e_icmp_le, e_tsw, e_ret0, e_ret1, e_retn, e_getI, e_getZ, e_getR, e_getV, e_getC, e_putI, e_putZ, e_putF, e_gst0, e_gst1, e_sld, e_iald, e_cald, e_bald, e_iast, e_cast, e_aald, e_aast, e_alen, e_slen, e_blen, e_newa, e_newq, e_new, e_oinit, e_ctor, e_virt, e_stat, e_min, e_copy, e_ldc, List.cons_append, List.nil_append, List.append_nil, List.length_cons, List.length_nil, List.replicate_succ, List.replicate_zero, List.getElem?_cons_zero, List.getElem?_cons_succ, List.set_cons_zero, List.set_cons_succ, List.take_succ_cons, List.take_zero, List.drop_succ_cons, List.drop_zero, List.reverse_cons, List.reverse_nil, Option.toList_some, Option.toList_none, Nat.reduceSub, Nat.reduceAdd, Nat.reduceLeDiff, true_and, and_true, and_self, Option.some.injEq, exists_eq_left', Nat.zero_add, Value.int.injEq, Value.ref.injEq, List.cons.injEq, exists_and_left, and_assoc, exists_eq_left, List.all_cons, List.all_nil, m1_i, m1_r, Bool.and_self, Bool.and_true, B_72_85, bk_72_85, B_72_97, bk_72_97, zw0A, f2A, o_eq_l, if_neg, if_pos, if_neg, not_true_eq_false, not_false_eq_true, or_true, true_or, or_false, false_or, false_and, and_false, Nat.reduceEqDiff, Nat.reduceLT, Nat.reduceMul, Nat.not_lt_zero, Nat.zero_le, Nat.le_refl, ne_eq, reduceIte, reduceCtorEq]
      rfl
  · simp (disch := omega) only [e_iconst, e_bipush, e_sipush, e_iload_n, e_iload, e_aload_n, e_aload, e_istore_n, e_istore, e_astore_n, e_astore, e_iinc, e_iadd, e_isub, e_imul, e_iand, e_ishr, e_idiv, e_i2c, e_dup_i, e_dup_r, e_dup2, e_pop, e_goto, e_nop, e_if_eq, e_if_ne, e_if_lt, e_if_ge, e_if_gt, e_if_le, e_icmp_eq, e_icmp_ne, e_icmp_lt, e_icmp_ge, e_icmp_gt, e_icmp_le, e_tsw, e_ret0, e_ret1, e_retn, e_getI, e_getZ, e_getR, e_getV, e_getC, e_putI, e_putZ, e_putF, e_gst0, e_gst1, e_sld, e_iald, e_cald, e_bald, e_iast, e_cast, e_aald, e_aast, e_alen, e_slen, e_blen, e_newa, e_newq, e_new, e_oinit, e_ctor, e_virt, e_stat, e_min, e_copy, e_ldc, List.cons_append, List.nil_append, List.append_nil, List.length_cons, List.length_nil, List.replicate_succ, List.replicate_zero, List.getElem?_cons_zero, List.getElem?_cons_succ, List.set_cons_zero, List.set_cons_succ, List.take_succ_cons, List.take_zero, List.drop_succ_cons, List.drop_zero, List.reverse_cons, List.reverse_nil, Option.toList_some, Option.toList_none, Nat.reduceSub, Nat.reduceAdd, Nat.reduceLeDiff, true_and, and_true, and_self, Option.some.injEq, exists_eq_left', Nat.zero_add, Value.int.injEq, Value.ref.injEq, List.cons.injEq, exists_and_left, and_assoc, exists_eq_left, List.all_cons, List.all_nil, m1_i, m1_r, Bool.and_self, Bool.and_true, B_72_22, bk_72_22, B_72_42, bk_72_42, show mTgt 43 75 0 #[37, 42, 55, 60, 65, 70] (nI 2) = 98 from by decide, a0, a1, gs0, gs1, gs2, zw0A, rwA, n_in, n_cl, true_or, or_true, f1A, o_eq_l, if_neg, if_pos, if_neg, not_true_eq_false, not_false_eq_true, or_true, true_or, or_false, false_or, false_and, and_false, Nat.reduceEqDiff, Nat.reduceLT, Nat.reduceMul, Nat.not_lt_zero, Nat.zero_le, Nat.le_refl, ne_eq, reduceIte, reduceCtorEq]
    simp (disch := omega) only [e_iconst, e_bipush, e_sipush, e_iload_n, e_iload, e_aload_n, e_aload, e_istore_n, e_istore, e_astore_n, e_astore, e_iinc, e_iadd, e_isub, e_imul, e_iand, e_ishr, e_idiv, e_i2c, e_dup_i, e_dup_r, e_dup2, e_pop, e_goto, e_nop, e_if_eq, e_if_ne, e_if_lt, e_if_ge, e_if_gt, e_if_le, e_icmp_eq, e_icmp_ne, e_icmp_lt, e_icmp_ge, e_icmp_gt, e_icmp_le, e_tsw, e_ret0, e_ret1, e_retn, e_getI, e_getZ, e_getR, e_getV, e_getC, e_putI, e_putZ, e_putF, e_gst0, e_gst1, e_sld, e_iald, e_cald, e_bald, e_iast, e_cast, e_aald, e_aast, e_alen, e_slen, e_blen, e_newa, e_newq, e_new, e_oinit, e_ctor, e_virt, e_stat, e_min, e_copy, e_ldc, List.cons_append, List.nil_append, List.append_nil, List.length_cons, List.length_nil, List.replicate_succ, List.replicate_zero, List.getElem?_cons_zero, List.getElem?_cons_succ, List.set_cons_zero, List.set_cons_succ, List.take_succ_cons, List.take_zero, List.drop_succ_cons, List.drop_zero, List.reverse_cons, List.reverse_nil, Option.toList_some, Option.toList_none, Nat.reduceSub, Nat.reduceAdd, Nat.reduceLeDiff, true_and, and_true, and_self, Option.some.injEq, exists_eq_left', Nat.zero_add, Value.int.injEq, Value.ref.injEq, List.cons.injEq, exists_and_left, and_assoc, exists_eq_left, List.all_cons, List.all_nil, m1_i, m1_r, Bool.and_self, Bool.and_true, B_72_98, bk_72_98, zw0A, f3A, k1A, C_53, C_54, C_56, C_57, m_sumOfLengths zwA wfA, m_sumOfNominals zwA wfA, hg, y5, y6, hne, hst, if_pos, if_neg, not_true_eq_false, not_false_eq_true, or_true, true_or, or_false, false_or, false_and, and_false, Nat.reduceEqDiff, Nat.reduceLT, Nat.reduceMul, Nat.not_lt_zero, Nat.zero_le, Nat.le_refl, ne_eq, reduceIte, reduceCtorEq]
    try rfl
  · simp (disch := omega) only [e_iconst, e_bipush, e_sipush, e_iload_n, e_iload, e_aload_n, e_aload, e_istore_n, e_istore, e_astore_n, e_astore, e_iinc, e_iadd, e_isub, e_imul, e_iand, e_ishr, e_idiv, e_i2c, e_dup_i, e_dup_r, e_dup2, e_pop, e_goto, e_nop, e_if_eq, e_if_ne, e_if_lt, e_if_ge, e_if_gt, e_if_le, e_icmp_eq, e_icmp_ne, e_icmp_lt, e_icmp_ge, e_icmp_gt, e_icmp_le, e_tsw, e_ret0, e_ret1, e_retn, e_getI, e_getZ, e_getR, e_getV, e_getC, e_putI, e_putZ, e_putF, e_gst0, e_gst1, e_sld, e_iald, e_cald, e_bald, e_iast, e_cast, e_aald, e_aast, e_alen, e_slen, e_blen, e_newa, e_newq, e_new, e_oinit, e_ctor, e_virt, e_stat, e_min, e_copy, e_ldc, List.cons_append, List.nil_append, List.append_nil, List.length_cons, List.length_nil, List.replicate_succ, List.replicate_zero, List.getElem?_cons_zero, List.getElem?_cons_succ, List.set_cons_zero, List.set_cons_succ, List.take_succ_cons, List.take_zero, List.drop_succ_cons, List.drop_zero, List.reverse_cons, List.reverse_nil, Option.toList_some, Option.toList_none, Nat.reduceSub, Nat.reduceAdd, Nat.reduceLeDiff, true_and, and_true, and_self, Option.some.injEq, exists_eq_left', Nat.zero_add, Value.int.injEq, Value.ref.injEq, List.cons.injEq, exists_and_left, and_assoc, exists_eq_left, List.all_cons, List.all_nil, m1_i, m1_r, Bool.and_self, Bool.and_true, B_72_22, bk_72_22, B_72_42, bk_72_42, show mTgt 43 75 0 #[37, 42, 55, 60, 65, 70] (nI 3) = 103 from by decide, a0, a1, gs0, gs1, gs2, zw0A, rwA, n_in, n_cl, true_or, or_true, f1A, o_eq_l, if_neg, if_pos, if_neg, not_true_eq_false, not_false_eq_true, or_true, true_or, or_false, false_or, false_and, and_false, Nat.reduceEqDiff, Nat.reduceLT, Nat.reduceMul, Nat.not_lt_zero, Nat.zero_le, Nat.le_refl, ne_eq, reduceIte, reduceCtorEq]
    simp (disch := omega) only [e_iconst, e_bipush, e_sipush, e_iload_n, e_iload, e_aload_n, e_aload, e_istore_n, e_istore, e_astore_n, e_astore, e_iinc, e_iadd, e_isub, e_imul, e_iand, e_ishr, e_idiv, e_i2c, e_dup_i, e_dup_r, e_dup2, e_pop, e_goto, e_nop, e_if_eq, e_if_ne, e_if_lt, e_if_ge, e_if_gt, e_if_le, e_icmp_eq, e_icmp_ne, e_icmp_lt, e_icmp_ge, e_icmp_gt, e_icmp_le, e_tsw, e_ret0, e_ret1, e_retn, e_getI, e_getZ, e_getR, e_getV, e_getC, e_putI, e_putZ, e_putF, e_gst0, e_gst1, e_sld, e_iald, e_cald, e_bald, e_iast, e_cast, e_aald, e_aast, e_alen, e_slen, e_blen, e_newa, e_newq, e_new, e_oinit, e_ctor, e_virt, e_stat, e_min, e_copy, e_ldc, List.cons_append, List.nil_append, List.append_nil, List.length_cons, List.length_nil, List.replicate_succ, List.replicate_zero, List.getElem?_cons_zero, List.getElem?_cons_succ, List.set_cons_zero, List.set_cons_succ, List.take_succ_cons, List.take_zero, List.drop_succ_cons, List.drop_zero, List.reverse_cons, List.reverse_nil, Option.toList_some, Option.toList_none, Nat.reduceSub, Nat.reduceAdd, Nat.reduceLeDiff, true_and, and_true, and_self, Option.some.injEq, exists_eq_left', Nat.zero_add, Value.int.injEq, Value.ref.injEq, List.cons.injEq, exists_and_left, and_assoc, exists_eq_left, List.all_cons, List.all_nil, m1_i, m1_r, Bool.and_self, Bool.and_true, B_72_103, bk_72_103, zw0A, f3A, k1A, C_53, C_54, C_56, C_57, m_sumOfLengths zwA wfA, m_sumOfNominals zwA wfA, hg, y5, y6, hne, hst, if_pos, if_neg, not_true_eq_false, not_false_eq_true, or_true, true_or, or_false, false_or, false_and, and_false, Nat.reduceEqDiff, Nat.reduceLT, Nat.reduceMul, Nat.not_lt_zero, Nat.zero_le, Nat.le_refl, ne_eq, reduceIte, reduceCtorEq]
    try rfl
  · simp (disch := omega) only [e_iconst, e_bipush, e_sipush, e_iload_n, e_iload, e_aload_n, e_aload, e_istore_n, e_istore, e_astore_n, e_astore, e_iinc, e_iadd, e_isub, e_imul, e_iand, e_ishr, e_idiv, e_i2c, e_dup_i, e_dup_r, e_dup2, e_pop, e_goto, e_nop, e_if_eq, e_if_ne, e_if_lt, e_if_ge, e_if_gt, e_if_le, e_icmp_eq, e_icmp_ne, e_icmp_lt, e_icmp_ge, e_icmp_gt, e_icmp_le, e_tsw, e_ret0, e_ret1, e_retn, e_getI, e_getZ, e_getR, e_getV, e_getC, e_putI, e_putZ, e_putF, e_gst0, e_gst1, e_sld, e_iald, e_cald, e_bald, e_iast, e_cast, e_aald, e_aast, e_alen, e_slen, e_blen, e_newa, e_newq, e_new, e_oinit, e_ctor, e_virt, e_stat, e_min, e_copy, e_ldc, List.cons_append, List.nil_append, List.append_nil, List.length_cons, List.length_nil, List.replicate_succ, List.replicate_zero, List.getElem?_cons_zero, List.getElem?_cons_succ, List.set_cons_zero, List.set_cons_succ, List.take_succ_cons, List.take_zero, List.drop_succ_cons, List.drop_zero, List.reverse_cons, List.reverse_nil, Option.toList_some, Option.toList_none, Nat.reduceSub, Nat.reduceAdd, Nat.reduceLeDiff, true_and, and_true, and_self, Option.some.injEq, exists_eq_left', Nat.zero_add, Value.int.injEq, Value.ref.injEq, List.cons.injEq, exists_and_left, and_assoc, exists_eq_left, List.all_cons, List.all_nil, m1_i, m1_r, Bool.and_self, Bool.and_true, B_72_22, bk_72_22, B_72_42, bk_72_42, show mTgt 43 75 0 #[37, 42, 55, 60, 65, 70] (nI 4) = 108 from by decide, a0, a1, gs0, gs1, gs2, zw0A, rwA, n_in, n_cl, true_or, or_true, f1A, o_eq_l, if_neg, if_pos, if_neg, not_true_eq_false, not_false_eq_true, or_true, true_or, or_false, false_or, false_and, and_false, Nat.reduceEqDiff, Nat.reduceLT, Nat.reduceMul, Nat.not_lt_zero, Nat.zero_le, Nat.le_refl, ne_eq, reduceIte, reduceCtorEq]
    simp (disch := omega) only [e_iconst, e_bipush, e_sipush, e_iload_n, e_iload, e_aload_n, e_aload, e_istore_n, e_istore, e_astore_n, e_astore, e_iinc, e_iadd, e_isub, e_imul, e_iand, e_ishr, e_idiv, e_i2c, e_dup_i, e_dup_r, e_dup2, e_pop, e_goto, e_nop, e_if_eq, e_if_ne, e_if_lt, e_if_ge, e_if_gt, e_if_le, e_icmp_eq, e_icmp_ne, e_icmp_lt, e_icmp_ge, e_icmp_gt, e_icmp_le, e_tsw, e_ret0, e_ret1, e_retn, e_getI, e_getZ, e_getR, e_getV, e_getC, e_putI, e_putZ, e_putF, e_gst0, e_gst1, e_sld, e_iald, e_cald, e_bald, e_iast, e_cast, e_aald, e_aast, e_alen, e_slen, e_blen, e_newa, e_newq, e_new, e_oinit, e_ctor, e_virt, e_stat, e_min, e_copy, e_ldc, List.cons_append, List.nil_append, List.append_nil, List.length_cons, List.length_nil, List.replicate_succ, List.replicate_zero, List.getElem?_cons_zero, List.getElem?_cons_succ, List.set_cons_zero, List.set_cons_succ, List.take_succ_cons, List.take_zero, List.drop_succ_cons, List.drop_zero, List.reverse_cons, List.reverse_nil, Option.toList_some, Option.toList_none, Nat.reduceSub, Nat.reduceAdd, Nat.reduceLeDiff, true_and, and_true, and_self, Option.some.injEq, exists_eq_left', Nat.zero_add, Value.int.injEq, Value.ref.injEq, List.cons.injEq, exists_and_left, and_assoc, exists_eq_left, List.all_cons, List.all_nil, m1_i, m1_r, Bool.and_self, Bool.and_true, B_72_108, bk_72_108, zw0A, f3A, k1A, C_53, C_54, C_56, C_57, m_sumOfLengths zwA wfA, m_sumOfNominals zwA wfA, hg, y5, y6, hne, hst, if_pos, if_neg, not_true_eq_false, not_false_eq_true, or_true, true_or, or_false, false_or, false_and, and_false, Nat.reduceEqDiff, Nat.reduceLT, Nat.reduceMul, Nat.not_lt_zero, Nat.zero_le, Nat.le_refl, ne_eq, reduceIte, reduceCtorEq]
    try rfl
  · simp (disch := omega) only [e_iconst, e_bipush, e_sipush, e_iload_n, e_iload, e_aload_n, e_aload, e_istore_n, e_istore, e_astore_n, e_astore, e_iinc, e_iadd, e_isub, e_imul, e_iand, e_ishr, e_idiv, e_i2c, e_dup_i, e_dup_r, e_dup2, e_pop, e_goto, e_nop, e_if_eq, e_if_ne, e_if_lt, e_if_ge, e_if_gt, e_if_le, e_icmp_eq, e_icmp_ne, e_icmp_lt, e_icmp_ge, e_icmp_gt, e_icmp_le, e_tsw, e_ret0, e_ret1, e_retn, e_getI, e_getZ, e_getR, e_getV, e_getC, e_putI, e_putZ, e_putF, e_gst0, e_gst1, e_sld, e_iald, e_cald, e_bald, e_iast, e_cast, e_aald, e_aast, e_alen, e_slen, e_blen, e_newa, e_newq, e_new, e_oinit, e_ctor, e_virt, e_stat, e_min, e_copy, e_ldc, List.cons_append, List.nil_append, List.append_nil, List.length_cons, List.length_nil, List.replicate_succ, List.replicate_zero, List.getElem?_cons_zero, List.getElem?_cons_succ, List.set_cons_zero, List.set_cons_succ, List.take_succ_cons, List.take_zero, List.drop_succ_cons, List.drop_zero, List.reverse_cons, List.reverse_nil, Option.toList_some, Option.toList_none, Nat.reduceSub, Nat.reduceAdd, Nat.reduceLeDiff, true_and, and_true, and_self, Option.some.injEq, exists_eq_left', Nat.zero_add, Value.int.injEq, Value.ref.injEq, List.cons.injEq, exists_and_left, and_assoc, exists_eq_left, List.all_cons, List.all_nil, m1_i, m1_r, Bool.and_self, Bool.and_true, B_72_22, bk_72_22, B_72_42, bk_72_42, show mTgt 43 75 0 #[37, 42, 55, 60, 65, 70] (nI 5) = 113 from by decide, a0, a1, gs0, gs1, gs2, zw0A, rwA, n_in, n_cl, true_or, or_true, f1A, o_eq_l, if_neg, if_pos, if_neg, not_true_eq_false, not_false_eq_true, or_true, true_or, or_false, false_or, false_and, and_false, Nat.reduceEqDiff, Nat.reduceLT, Nat.reduceMul, Nat.not_lt_zero, Nat.zero_le, Nat.le_refl, ne_eq, reduceIte, reduceCtorEq]
    simp (disch := omega) only [e_iconst, e_bipush, e_sipush, e_iload_n, e_iload, e_aload_n, e_aload, e_istore_n, e_istore, e_astore_n, e_astore, e_iinc, e_iadd, e_isub, e_imul, e_iand, e_ishr, e_idiv, e_i2c, e_dup_i, e_dup_r, e_dup2, e_pop, e_goto, e_nop, e_if_eq, e_if_ne, e_if_lt, e_if_ge, e_if_gt, e_if_le, e_icmp_eq, e_icmp_ne, e_icmp_lt, e_icmp_ge, e_icmp_gt, e_icmp_le, e_tsw, e_ret0, e_ret1, e_retn, e_getI, e_getZ, e_getR, e_getV, e_getC, e_putI, e_putZ, e_putF, e_gst0, e_gst1, e_sld, e_iald, e_cald, e_bald, e_iast, e_cast, e_aald, e_aast, e_alen, e_slen, e_blen, e_newa, e_newq, e_new, e_oinit, e_ctor, e_virt, e_stat, e_min, e_copy, e_ldc, List.cons_append, List.nil_append, List.append_nil, List.length_cons, List.length_nil, List.replicate_succ, List.replicate_zero, List.getElem?_cons_zero, List.getElem?_cons_succ, List.set_cons_zero, List.set_cons_succ, List.take_succ_cons, List.take_zero, List.drop_succ_cons, List.drop_zero, List.reverse_cons, List.reverse_nil, Option.toList_some, Option.toList_none, Nat.reduceSub, Nat.reduceAdd, Nat.reduceLeDiff, true_and, and_true, and_self, Option.some.injEq, exists_eq_left', Nat.zero_add, Value.int.injEq, Value.ref.injEq, List.cons.injEq, exists_and_left, and_assoc, exists_eq_left, List.all_cons, List.all_nil, m1_i, m1_r, Bool.and_self, Bool.and_true, B_72_113, bk_72_113, zw0A, f3A, k1A, C_53, C_54, C_56, C_57, m_sumOfLengths zwA wfA, m_sumOfNominals zwA wfA, hg, y5, y6, hne, hst, if_pos, if_neg, not_true_eq_false, not_false_eq_true, or_true, true_or, or_false, false_or, false_and, and_false, Nat.reduceEqDiff, Nat.reduceLT, Nat.reduceMul, Nat.not_lt_zero, Nat.zero_le, Nat.le_refl, ne_eq, reduceIte, reduceCtorEq]
    try rfl
  · simp (disch := omega) only [e_iconst, e_bipush, e_sipush, e_iload_n, e_iload, e_aload_n, e_aload, e_istore_n, e_istore, e_astore_n, e_astore, e_iinc, e_iadd, e_isub, e_imul, e_iand, e_ishr, e_idiv, e_i2c, e_dup_i, e_dup_r, e_dup2, e_pop, e_goto, e_nop, e_if_eq, e_if_ne, e_if_lt, e_if_ge, e_if_gt, e_if_le, e_icmp_eq, e_icmp_ne, e_icmp_lt, e_icmp_ge, e_icmp_gt, e_icmp_le, e_tsw, e_ret0, e_ret1, e_retn, e_getI, e_getZ, e_getR, e_getV, e_getC, e_putI, e_putZ, e_putF, e_gst0, e_gst1, e_sld, e_iald, e_cald, e_bald, e_iast, e_cast, e_aald, e_aast, e_alen, e_slen, e_blen, e_newa, e_newq, e_new, e_oinit, e_ctor, e_virt, e_stat, e_min, e_copy, e_ldc, List.cons_append, List.nil_append, List.append_nil, List.length_cons, List.length_nil, List.replicate_succ, List.replicate_zero, List.getElem?_cons_zero, List.getElem?_cons_succ, List.set_cons_zero, List.set_cons_succ, List.take_succ_cons, List.take_zero, List.drop_succ_cons, List.drop_zero, List.reverse_cons, List.reverse_nil, Option.toList_some, Option.toList_none, Nat.reduceSub, Nat.reduceAdd, Nat.reduceLeDiff, true_and, and_true, and_self, Option.some.injEq, exists_eq_left', Nat.zero_add, Value.int.injEq, Value.ref.injEq, List.cons.injEq, exists_and_left, and_assoc, exists_eq_left, List.all_cons, List.all_nil, m1_i, m1_r, Bool.and_self, Bool.and_true, B_72_22, bk_72_22, B_72_42, bk_72_42, show mTgt 43 75 0 #[37, 42, 55, 60, 65, 70] (nI 6) = 118 from by decide, a0, a1, gs0, gs1, gs2, zw0A, rwA, n_in, n_cl, true_or, or_true, f1A, o_eq_l, if_neg, if_pos, if_neg, not_true_eq_false, not_false_eq_true, or_true, true_or, or_false, false_or, false_and, and_false, Nat.reduceEqDiff, Nat.reduceLT, Nat.reduceMul, Nat.not_lt_zero, Nat.zero_le, Nat.le_refl, ne_eq, reduceIte, reduceCtorEq]
    simp (disch := omega) only [e_iconst, e_bipush, e_sipush, e_iload_n, e_iload, e_aload_n, e_aload, e_istore_n, e_istore, e_astore_n, e_astore, e_iinc, e_iadd, e_isub, e_imul, e_iand, e_ishr, e_idiv, e_i2c, e_dup_i, e_dup_r, e_dup2, e_pop, e_goto, e_nop, e_if_eq, e_if_ne, e_if_lt, e_if_ge, e_if_gt, e_if_le, e_icmp_eq, e_icmp_ne, e_icmp_lt, e_icmp_ge, e_icmp_gt, e_icmp_le, e_tsw, e_ret0, e_ret1, e_retn, e_getI, e_getZ, e_getR, e_getV, e_getC, e_putI, e_putZ, e_putF, e_gst0, e_gst1, e_sld, e_iald, e_cald, e_bald, e_iast, e_cast, e_aald, e_aast, e_alen, e_slen, e_blen, e_newa, e_newq, e_new, e_oinit, e_ctor, e_virt, e_stat, e_min, e_copy, e_ldc, List.cons_append, List.nil_append, List.append_nil, List.length_cons, List.length_nil, List.replicate_succ, List.replicate_zero, List.getElem?_cons_zero, List.getElem?_cons_succ, List.set_cons_zero, List.set_cons_succ, List.take_succ_cons, List.take_zero, List.drop_succ_cons, List.drop_zero, List.reverse_cons, List.reverse_nil, Option.toList_some, Option.toList_none, Nat.reduceSub, Nat.reduceAdd, Nat.reduceLeDiff, true_and, and_true, and_self, Option.some.injEq, exists_eq_left', Nat.zero_add, Value.int.injEq, Value.ref.injEq, List.cons.injEq, exists_and_left, and_assoc, exists_eq_left, List.all_cons, List.all_nil, m1_i, m1_r, Bool.and_self, Bool.and_true, B_72_118, bk_72_118, zw0A, f3A, k1A, C_53, C_54, C_56, C_57, m_sumOfLengths zwA wfA, m_sumOfNominals zwA wfA, hg, y5, y6, hne, hst, if_pos, if_neg, not_true_eq_false, not_false_eq_true, or_true, true_or, or_false, false_or, false_and, and_false, Nat.reduceEqDiff, Nat.reduceLT, Nat.reduceMul, Nat.not_lt_zero, Nat.zero_le, Nat.le_refl, ne_eq, reduceIte, reduceCtorEq]
    try rfl
theorem m_gapI {K : mK} {R : Nat → Nat → Option Nat} {I : Nat → Nat → Int32} {a p cl c g : Nat} {Q : Option Value → mH → Prop} (h : zW K R a) (hf : wF I a p cl c) (hg : g < ngp p cl c) : EvM 38 [.ref a, .int (nI g)] (K, R, I) Q ↔ Q (some (.int 1)) (K, R, I) := by
  have hn := ngp_le (p := p) hf.2.2.2.2.1 hf.2.2.2.2.2
  rw [m_hasGap h hf, if_neg (n_ne0 (by omega)), if_neg (by rw [n_le (by omega) (by omega)]; omega)]
theorem m_gapO {K : mK} {R : Nat → Nat → Option Nat} {I : Nat → Nat → Int32} {a p cl c : Nat} {x : Int32} {Q : Option Value → mH → Prop} (h : zW K R a) (hf : wF I a p cl c) (q : x < 0 ∨ nI (ngp p cl c) ≤ x) : EvM 38 [.ref a, .int x] (K, R, I) Q ↔ Q (some (.int 0)) (K, R, I) := by
  rw [m_hasGap h hf]
  by_cases c1 : x < 0
  · rw [if_pos c1]
  · rw [if_neg c1, if_pos (q.resolve_left c1)]
theorem m_canI {K : mK} {R : Nat → Nat → Option Nat} {I : Nat → Nat → Int32} {a cl c : Nat} {w : Int32} {Q : Option Value → mH → Prop} (h : zW K R a) (hf : wF I a 1 cl c) (hw : w = 2 → cl = 1) : EvM 40 [.ref a, .int w] (K, R, I) Q ↔ Q (some (.int 1)) (K, R, I) := by
  rw [m_canBeReadBy h hf, if_neg (by omega)]
  by_cases c1 : w = 2
  · rw [if_pos c1, hw c1]; exact Iff.rfl
  · rw [if_neg c1]
theorem m_canO {K : mK} {R : Nat → Nat → Option Nat} {I : Nat → Nat → Int32} {a p cl c : Nat} {w : Int32} {Q : Option Value → mH → Prop} (h : zW K R a) (hf : wF I a p cl c) (hw : p = 0 ∨ (w = 2 ∧ cl = 0)) : EvM 40 [.ref a, .int w] (K, R, I) Q ↔ Q (some (.int 0)) (K, R, I) := by
  rw [m_canBeReadBy h hf]
  by_cases e : p = 0
  · rw [if_pos e]
  · obtain ⟨h1, h2⟩ := hw.resolve_left e
    rw [if_neg e, if_pos h1, h2]; exact Iff.rfl
theorem m_wayI {y : Int32} {h : mH} {Q : Option Value → mH → Prop} (c : ¬ (y < 0 ∨ 2 < y)) : EvM 83 [.int y] h Q ↔ Q (some (.int 1)) h := by
  rw [m_isWay, if_neg (fun q => c (Or.inl q)), if_neg (fun q => c (Or.inr q))]
theorem m_wayO {y : Int32} {h : mH} {Q : Option Value → mH → Prop} (c : y < 0 ∨ 2 < y) : EvM 83 [.int y] h Q ↔ Q (some (.int 0)) h := by
  rw [m_isWay]
  by_cases c2 : y < 0
  · rw [if_pos c2]
  · rw [if_neg c2, if_pos (c.resolve_left c2)]
/-- what gap answers -/
def aGap (v : Nat → Int32) (s k w : Nat) : Int32 := if gp v s = 0 then -1 else if gn v s ≤ k then -1 else if w = 0 then v (98 * s + (4 + k)) else if w = 1 then v (98 * s + (36 + k)) else if k = 0 ∨ k = gc v s + 1 then -5 else 97 + v (98 * s + (68 + (k - 1)))
set_option maxHeartbeats 8000000 in
theorem q_gap {K : mK} {R : Nat → Nat → Option Nat} {I : Nat → Nat → Int32} {v H T : Nat → Int32} {n t : Nat} (hrel : REL K R I v n H t T) (s k w : Nat) (hs : s < 6) (hk : k ≤ 1000) (hw : w ≤ 2) : QO 73 [.int (nI s), .int (nI k), .int (nI w)] K R I (aGap v s k w) := by
  obtain ⟨f, g, hv, hn2, hn, hH, hP, hT⟩ := id hrel
  have q4 := qTu_lt g hn2
  obtain ⟨gs, -, gh, gw, gr, gr', ⟨a0, a1, a2, a3, a4, a5, a6, a7, a8⟩, ⟨b0, b1, b2⟩, cc0⟩ := id g
  have gs0 : K.2.2.1 1 = (1, 4) := gs.1
  have gs1 : R 1 0 = some 2 := gs.2.1
  have gs2 : K.2.2.1 2 = (4, 6) := gs.2.2.1
  have gs3 : R 1 1 = some 3 := gs.2.2.2.1
  have gs4 : zL K R 3 := gs.2.2.2.2.1
  have gW : ∀ s, s < 6 → zW K R (7 + 4 * s) := fun s hs => (gs.2.2.2.2.2.2 s hs).2
  have gR : ∀ s, s < 6 → R 2 s = some (7 + 4 * s) := fun s hs => (gs.2.2.2.2.2.2 s hs).1
  have gh0 := gh.1
  have gsl : K.2.2.1 3 = (1, 2) := gs4.1
  have gT := zG_tu (n := n) g
  have gst : zS K (RTu R n) 1 := gT.1
  have gt1 : RTu R n 1 0 = some 2 := gst.2.1
  have gt3 : RTu R n 1 1 = some 3 := gst.2.2.2.1
  have gt4 : zL K (RTu R n) 3 := gst.2.2.2.2.1
  have gWt : ∀ s, s < 6 → zW K (RTu R n) (7 + 4 * s) := fun s hs => (gst.2.2.2.2.2.2 s hs).2
  have gRt : ∀ s, s < 6 → RTu R n 2 s = some (7 + 4 * s) := fun s hs => (gst.2.2.2.2.2.2 s hs).1
  obtain ⟨-, a1t, a2t, a3t, a4t, a5t, a6t, a7t, a8t⟩ := gT.2.2.2.2.2.2.1
  obtain ⟨pA, clA, cA, hwA⟩ := hv.1 s hs
  rw [show 1 + 6 + 4 * s = 7 + 4 * s by omega] at hwA
  obtain ⟨wfA, vfA, k0A, k1A, k2A, k3A, k4A, k5A⟩ := id hwA
  obtain ⟨f1A, f2A, f3A, f4A, f5A, f6A⟩ := id wfA
  obtain ⟨v1A, v2A, v3A, -⟩ := id vfA
  have zwA := gW s hs
  have zwtA := gWt s hs
  have rwA := gR s hs
  have rwtA := gRt s hs
  have zw0A : K.2.2.1 (7 + 4 * s) = (1, 6) := zwA.1
  have hn := ngp_le (p := pA) f5A f6A
  obtain ⟨g1, g2, g3⟩ := g_vF vfA
  have g4 : gn v s = cA + 1 + clA := by unfold gn; rw [g2, g3]
  unfold aGap
  rw [g1, g3, g4]
  refine ⟨I, ?_, SCR_id⟩
  by_cases hk2 : k < ngp pA clA cA
  rotate_left
  · have q : nI k < 0 ∨ nI (ngp pA clA cA) ≤ nI k := Or.inr (by rw [n_le (by omega) (by omega)]; omega)
    have e : (if pA = 0 then (-1 : Int32) else if cA + 1 + clA ≤ k then -1 else if w = 0 then v (98 * s + (4 + k)) else if w = 1 then v (98 * s + (36 + k)) else if k = 0 ∨ k = cA + 1 then -5 else 97 + v (98 * s + (68 + (k - 1)))) = -1 := by
      rcases (show pA = 0 ∨ pA = 1 by omega) with rfl | rfl
      · rw [if_pos rfl]
      · have : ngp 1 clA cA = cA + 1 + clA := rfl
        rw [if_neg (by omega), if_pos (by omega)]
    rw [e]
    simp (disch := omega) only [e_iconst, e_bipush, e_sipush, e_iload_n, e_iload, e_aload_n, e_aload, e_istore_n, e_istore, e_astore_n, e_astore, e_iinc, e_iadd, e_isub, e_imul, e_iand, e_ishr, e_idiv, e_i2c, e_dup_i, e_dup_r, e_dup2, e_pop, e_goto, e_nop, e_if_eq, e_if_ne, e_if_lt, e_if_ge, e_if_gt, e_if_le, e_icmp_eq, e_icmp_ne, e_icmp_lt, e_icmp_ge, e_icmp_gt, e_icmp_le, e_tsw, e_ret0, e_ret1, e_retn, e_getI, e_getZ, e_getR, e_getV, e_getC, e_putI, e_putZ, e_putF, e_gst0, e_gst1, e_sld, e_iald, e_cald, e_bald, e_iast, e_cast, e_aald, e_aast, e_alen, e_slen, e_blen, e_newa, e_newq, e_new, e_oinit, e_ctor, e_virt, e_stat, e_min, e_copy, e_ldc, List.cons_append, List.nil_append, List.append_nil, List.length_cons, List.length_nil, List.replicate_succ, List.replicate_zero, List.getElem?_cons_zero, List.getElem?_cons_succ, List.set_cons_zero, List.set_cons_succ, List.take_succ_cons, List.take_zero, List.drop_succ_cons, List.drop_zero, List.reverse_cons, List.reverse_nil, Option.toList_some, Option.toList_none, Nat.reduceSub, Nat.reduceAdd, Nat.reduceLeDiff, true_and, and_true, and_self, Option.some.injEq, exists_eq_left', Nat.zero_add, Value.int.injEq, Value.ref.injEq, List.cons.injEq, exists_and_left, and_assoc, exists_eq_left, List.all_cons, List.all_nil, m1_i, m1_r, Bool.and_self, Bool.and_true, E_in 73, N_73, B_73_0, bk_73_0, B_73_23, bk_73_23, C_81, C_38, m_isSp hs, m_gapO zwA wfA q, a0, a1, gs0, gs1, gs2, zw0A, rwA, n_in, n_cl, true_or, or_true, o_eq, if_pos, if_neg, not_true_eq_false, not_false_eq_true, or_true, true_or, or_false, false_or, false_and, and_false, Nat.reduceEqDiff, Nat.reduceLT, Nat.reduceMul, Nat.not_lt_zero, Nat.zero_le, Nat.le_refl, ne_eq, reduceIte, reduceCtorEq]
  have hp1 : pA = 1 := by
    rcases (show pA = 0 ∨ pA = 1 by omega) with e | e
    · subst e; exact absurd hk2 (by unfold ngp; simp)
    · exact e
  subst hp1
  have hkn : k < cA + 1 + clA := hk2
  rw [if_neg (by omega), if_neg (by omega)]
  obtain ⟨z0, z1, z2, z3, y0, y1, y2, z4⟩ := id zwA
  have cls : ∀ Q, Ev 73 (mB 73 25) [.ref 0, .int (nI s), .int (nI k), .int (nI w), .null] [] (K, R, I) Q = EvM 74 [.ref 0, .int (nI s), .int (nI k), .int (nI w)] (K, R, I) Q := by
    intro Q
    apply propext
    simp (disch := omega) only [e_iconst, e_bipush, e_sipush, e_iload_n, e_iload, e_aload_n, e_aload, e_istore_n, e_istore, e_astore_n, e_astore, e_iinc, e_iadd, e_isub, e_imul, e_iand, e_ishr, e_idiv, e_i2c, e_dup_i, e_dup_r, e_dup2, e_pop, e_goto, e_nop, e_if_eq, e_if_ne, e_if_lt, e_if_ge, e_if_gt, e_if_le, e_icmp_eq, e_icmp_ne, e_icmp_lt, e_icmp_ge, e_icmp_gt, e_icmp_le, e_tsw, e_ret0, e_ret1, e_retn, e_getI, e_getZ, e_getR, e_getV, e_getC, e_putI, e_putZ, e_putF, e_gst0, e_gst1, e_sld, e_iald, e_cald, e_bald, e_iast, e_cast, e_aald, e_aast, e_alen, e_slen, e_blen, e_newa, e_newq, e_new, e_oinit, e_ctor, e_virt, e_stat, e_min, e_copy, e_ldc, List.cons_append, List.nil_append, List.append_nil, List.length_cons, List.length_nil, List.replicate_succ, List.replicate_zero, List.getElem?_cons_zero, List.getElem?_cons_succ, List.set_cons_zero, List.set_cons_succ, List.take_succ_cons, List.take_zero, List.drop_succ_cons, List.drop_zero, List.reverse_cons, List.reverse_nil, Option.toList_some, Option.toList_none, Nat.reduceSub, Nat.reduceAdd, Nat.reduceLeDiff, true_and, and_true, and_self, Option.some.injEq, exists_eq_left', Nat.zero_add, Value.int.injEq, Value.ref.injEq, List.cons.injEq, exists_and_left, and_assoc, exists_eq_left, List.all_cons, List.all_nil, m1_i, m1_r, Bool.and_self, Bool.and_true, E_in 73, N_73, B_73_0, bk_73_0, C_81, C_38, m_isSp hs, m_gapI zwA wfA hk2, a0, a1, gs0, gs1, gs2, zw0A, rwA, n_in, n_cl, true_or, or_true, o_eq, if_pos, if_neg, not_true_eq_false, not_false_eq_true, or_true, true_or, or_false, false_or, false_and, and_false, Nat.reduceEqDiff, Nat.reduceLT, Nat.reduceMul, Nat.not_lt_zero, Nat.zero_le, Nat.le_refl, ne_eq, reduceIte, reduceCtorEq]
  obtain ⟨x1, x2, x3⟩ := k3A k hk2
  rcases (show w = 0 ∨ w = 1 ∨ w = 2 by omega) with rfl | rfl | rfl
  · rw [← cls, B_73_25]
    simp (disch := omega) only [e_iconst, e_bipush, e_sipush, e_iload_n, e_iload, e_aload_n, e_aload, e_istore_n, e_istore, e_astore_n, e_astore, e_iinc, e_iadd, e_isub, e_imul, e_iand, e_ishr, e_idiv, e_i2c, e_dup_i, e_dup_r, e_dup2, e_pop, e_goto, e_nop, e_if_eq, e_if_ne, e_if_lt, e_if_ge, e_if_gt, e_if_le, e_icmp_eq, e_icmp_ne, e_icmp_lt, e_icmp_ge, e_icmp_gt, e_icmp_le, e_tsw, e_ret0, e_ret1, e_retn, e_getI, e_getZ, e_getR, e_getV, e_getC, e_putI, e_putZ, e_putF, e_gst0, e_gst1, e_sld, e_iald, e_cald, e_bald, e_iast, e_cast, e_aald, e_aast, e_alen, e_slen, e_blen, e_newa, e_newq, e_new, e_oinit, e_ctor, e_virt, e_stat, e_min, e_copy, e_ldc, List.cons_append, List.nil_append, List.append_nil, List.length_cons, List.length_nil, List.replicate_succ, List.replicate_zero, List.getElem?_cons_zero, List.getElem?_cons_succ, List.set_cons_zero, List.set_cons_succ, List.take_succ_cons, List.take_zero, List.drop_succ_cons, List.drop_zero, List.reverse_cons, List.reverse_nil, Option.toList_some, Option.toList_none, Nat.reduceSub, Nat.reduceAdd, Nat.reduceLeDiff, true_and, and_true, and_self, Option.some.injEq, exists_eq_left', Nat.zero_add, Value.int.injEq, Value.ref.injEq, List.cons.injEq, exists_and_left, and_assoc, exists_eq_left, List.all_cons, List.all_nil, m1_i, m1_r, Bool.and_self, Bool.and_true, bk_73_25, show mTgt 37 93 0 #[31, 39, 47, 74] (nI 0) = 68 from by decide, a0, a1, gs0, gs1, gs2, zw0A, rwA, n_in, n_cl, true_or, or_true, if_pos, if_neg, not_true_eq_false, not_false_eq_true, or_true, true_or, or_false, false_or, false_and, and_false, Nat.reduceEqDiff, Nat.reduceLT, Nat.reduceMul, Nat.not_lt_zero, Nat.zero_le, Nat.le_refl, ne_eq, reduceIte, reduceCtorEq]
    simp (disch := omega) only [e_iconst, e_bipush, e_sipush, e_iload_n, e_iload, e_aload_n, e_aload, e_istore_n, e_istore, e_astore_n, e_astore, e_iinc, e_iadd, e_isub, e_imul, e_iand, e_ishr, e_idiv, e_i2c, e_dup_i, e_dup_r, e_dup2, e_pop, e_goto, e_nop, e_if_eq, e_if_ne, e_if_lt, e_if_ge, e_if_gt, e_if_le, e_icmp_eq, e_icmp_ne, e_icmp_lt, e_icmp_ge, e_icmp_gt, e_icmp_le, e_tsw, e_ret0, e_ret1, e_retn, e_getI, e_getZ, e_getR, e_getV, e_getC, e_putI, e_putZ, e_putF, e_gst0, e_gst1, e_sld, e_iald, e_cald, e_bald, e_iast, e_cast, e_aald, e_aast, e_alen, e_slen, e_blen, e_newa, e_newq, e_new, e_oinit, e_ctor, e_virt, e_stat, e_min, e_copy, e_ldc, List.cons_append, List.nil_append, List.append_nil, List.length_cons, List.length_nil, List.replicate_succ, List.replicate_zero, List.getElem?_cons_zero, List.getElem?_cons_succ, List.set_cons_zero, List.set_cons_succ, List.take_succ_cons, List.take_zero, List.drop_succ_cons, List.drop_zero, List.reverse_cons, List.reverse_nil, Option.toList_some, Option.toList_none, Nat.reduceSub, Nat.reduceAdd, Nat.reduceLeDiff, true_and, and_true, and_self, Option.some.injEq, exists_eq_left', Nat.zero_add, Value.int.injEq, Value.ref.injEq, List.cons.injEq, exists_and_left, and_assoc, exists_eq_left, List.all_cons, List.all_nil, m1_i, m1_r, Bool.and_self, Bool.and_true, B_73_68, bk_73_68, z0, z1, y0, n_in, n_cl, x1, if_pos, if_neg, not_true_eq_false, not_false_eq_true, or_true, true_or, or_false, false_or, false_and, and_false, Nat.reduceEqDiff, Nat.reduceLT, Nat.reduceMul, Nat.not_lt_zero, Nat.zero_le, Nat.le_refl, ne_eq, reduceIte, reduceCtorEq]
    try rfl
  · rw [← cls, B_73_25]
    simp (disch := omega) only [e_iconst, e_bipush, e_sipush, e_iload_n, e_iload, e_aload_n, e_aload, e_istore_n, e_istore, e_astore_n, e_astore, e_iinc, e_iadd, e_isub, e_imul, e_iand, e_ishr, e_idiv, e_i2c, e_dup_i, e_dup_r, e_dup2, e_pop, e_goto, e_nop, e_if_eq, e_if_ne, e_if_lt, e_if_ge, e_if_gt, e_if_le, e_icmp_eq, e_icmp_ne, e_icmp_lt, e_icmp_ge, e_icmp_gt, e_icmp_le, e_tsw, e_ret0, e_ret1, e_retn, e_getI, e_getZ, e_getR, e_getV, e_getC, e_putI, e_putZ, e_putF, e_gst0, e_gst1, e_sld, e_iald, e_cald, e_bald, e_iast, e_cast, e_aald, e_aast, e_alen, e_slen, e_blen, e_newa, e_newq, e_new, e_oinit, e_ctor, e_virt, e_stat, e_min, e_copy, e_ldc, List.cons_append, List.nil_append, List.append_nil, List.length_cons, List.length_nil, List.replicate_succ, List.replicate_zero, List.getElem?_cons_zero, List.getElem?_cons_succ, List.set_cons_zero, List.set_cons_succ, List.take_succ_cons, List.take_zero, List.drop_succ_cons, List.drop_zero, List.reverse_cons, List.reverse_nil, Option.toList_some, Option.toList_none, Nat.reduceSub, Nat.reduceAdd, Nat.reduceLeDiff, true_and, and_true, and_self, Option.some.injEq, exists_eq_left', Nat.zero_add, Value.int.injEq, Value.ref.injEq, List.cons.injEq, exists_and_left, and_assoc, exists_eq_left, List.all_cons, List.all_nil, m1_i, m1_r, Bool.and_self, Bool.and_true, bk_73_25, show mTgt 37 93 0 #[31, 39, 47, 74] (nI 1) = 76 from by decide, a0, a1, gs0, gs1, gs2, zw0A, rwA, n_in, n_cl, true_or, or_true, if_pos, if_neg, not_true_eq_false, not_false_eq_true, or_true, true_or, or_false, false_or, false_and, and_false, Nat.reduceEqDiff, Nat.reduceLT, Nat.reduceMul, Nat.not_lt_zero, Nat.zero_le, Nat.le_refl, ne_eq, reduceIte, reduceCtorEq]
    simp (disch := omega) only [e_iconst, e_bipush, e_sipush, e_iload_n, e_iload, e_aload_n, e_aload, e_istore_n, e_istore, e_astore_n, e_astore, e_iinc, e_iadd, e_isub, e_imul, e_iand, e_ishr, e_idiv, e_i2c, e_dup_i, e_dup_r, e_dup2, e_pop, e_goto, e_nop, e_if_eq, e_if_ne, e_if_lt, e_if_ge, e_if_gt, e_if_le, e_icmp_eq, e_icmp_ne, e_icmp_lt, e_icmp_ge, e_icmp_gt, e_icmp_le, e_tsw, e_ret0, e_ret1, e_retn, e_getI, e_getZ, e_getR, e_getV, e_getC, e_putI, e_putZ, e_putF, e_gst0, e_gst1, e_sld, e_iald, e_cald, e_bald, e_iast, e_cast, e_aald, e_aast, e_alen, e_slen, e_blen, e_newa, e_newq, e_new, e_oinit, e_ctor, e_virt, e_stat, e_min, e_copy, e_ldc, List.cons_append, List.nil_append, List.append_nil, List.length_cons, List.length_nil, List.replicate_succ, List.replicate_zero, List.getElem?_cons_zero, List.getElem?_cons_succ, List.set_cons_zero, List.set_cons_succ, List.take_succ_cons, List.take_zero, List.drop_succ_cons, List.drop_zero, List.reverse_cons, List.reverse_nil, Option.toList_some, Option.toList_none, Nat.reduceSub, Nat.reduceAdd, Nat.reduceLeDiff, true_and, and_true, and_self, Option.some.injEq, exists_eq_left', Nat.zero_add, Value.int.injEq, Value.ref.injEq, List.cons.injEq, exists_and_left, and_assoc, exists_eq_left, List.all_cons, List.all_nil, m1_i, m1_r, Bool.and_self, Bool.and_true, B_73_76, bk_73_76, z0, z2, y1, n_in, n_cl, x2, if_pos, if_neg, not_true_eq_false, not_false_eq_true, or_true, true_or, or_false, false_or, false_and, and_false, Nat.reduceEqDiff, Nat.reduceLT, Nat.reduceMul, Nat.not_lt_zero, Nat.zero_le, Nat.le_refl, ne_eq, reduceIte, reduceCtorEq]
    try rfl
  · rw [if_neg (by omega), if_neg (by omega)]
    have no : I (7 + 4 * s + 3) k = -1 → EvM 74 [.ref 0, .int (nI s), .int (nI k), .int (nI 2)] (K, R, I) (fun v k => v = some (.int (-5)) ∧ k = (K, R, I)) := by
      intro t1
      rw [← cls, B_73_25]
      simp (disch := omega) only [e_iconst, e_bipush, e_sipush, e_iload_n, e_iload, e_aload_n, e_aload, e_istore_n, e_istore, e_astore_n, e_astore, e_iinc, e_iadd, e_isub, e_imul, e_iand, e_ishr, e_idiv, e_i2c, e_dup_i, e_dup_r, e_dup2, e_pop, e_goto, e_nop, e_if_eq, e_if_ne, e_if_lt, e_if_ge, e_if_gt, e_if_le, e_icmp_eq, e_icmp_ne, e_icmp_lt, e_icmp_ge, e_icmp_gt, e_icmp_le, e_tsw, e_ret0, e_ret1, e_retn, e_getI, e_getZ, e_getR, e_getV, e_getC, e_putI, e_putZ, e_putF, e_gst0, e_gst1, e_sld, e_iald, e_cald, e_bald, e_iast, e_cast, e_aald, e_aast, e_alen, e_slen, e_blen, e_newa, e_newq, e_new, e_oinit, e_ctor, e_virt, e_stat, e_min, e_copy, e_ldc, List.cons_append, List.nil_append, List.append_nil, List.length_cons, List.length_nil, List.replicate_succ, List.replicate_zero, List.getElem?_cons_zero, List.getElem?_cons_succ, List.set_cons_zero, List.set_cons_succ, List.take_succ_cons, List.take_zero, List.drop_succ_cons, List.drop_zero, List.reverse_cons, List.reverse_nil, Option.toList_some, Option.toList_none, Nat.reduceSub, Nat.reduceAdd, Nat.reduceLeDiff, true_and, and_true, and_self, Option.some.injEq, exists_eq_left', Nat.zero_add, Value.int.injEq, Value.ref.injEq, List.cons.injEq, exists_and_left, and_assoc, exists_eq_left, List.all_cons, List.all_nil, m1_i, m1_r, Bool.and_self, Bool.and_true, bk_73_25, show mTgt 37 93 0 #[31, 39, 47, 74] (nI 2) = 84 from by decide, a0, a1, gs0, gs1, gs2, zw0A, rwA, n_in, n_cl, true_or, or_true, if_pos, if_neg, not_true_eq_false, not_false_eq_true, or_true, true_or, or_false, false_or, false_and, and_false, Nat.reduceEqDiff, Nat.reduceLT, Nat.reduceMul, Nat.not_lt_zero, Nat.zero_le, Nat.le_refl, ne_eq, reduceIte, reduceCtorEq]
      simp (disch := omega) only [e_iconst, e_bipush, e_sipush, e_iload_n, e_iload, e_aload_n, e_aload, e_istore_n, e_istore, e_astore_n, e_astore, e_iinc, e_iadd, e_isub, e_imul, e_iand, e_ishr, e_idiv, e_i2c, e_dup_i, e_dup_r, e_dup2, e_pop, e_goto, e_nop, e_if_eq, e_if_ne, e_if_lt, e_if_ge, e_if_gt, e_if_le, e_icmp_eq, e_icmp_ne, e_icmp_lt, e_icmp_ge, e_icmp_gt, e_icmp_le, e_tsw, e_ret0, e_ret1, e_retn, e_getI, e_getZ, e_getR, e_getV, e_getC, e_putI, e_putZ, e_putF, e_gst0, e_gst1, e_sld, e_iald, e_cald, e_bald, e_iast, e_cast, e_aald, e_aast, e_alen, e_slen, e_blen, e_newa, e_newq, e_new, e_oinit, e_ctor, e_virt, e_stat, e_min, e_copy, e_ldc, List.cons_append, List.nil_append, List.append_nil, List.length_cons, List.length_nil, List.replicate_succ, List.replicate_zero, List.getElem?_cons_zero, List.getElem?_cons_succ, List.set_cons_zero, List.set_cons_succ, List.take_succ_cons, List.take_zero, List.drop_succ_cons, List.drop_zero, List.reverse_cons, List.reverse_nil, Option.toList_some, Option.toList_none, Nat.reduceSub, Nat.reduceAdd, Nat.reduceLeDiff, true_and, and_true, and_self, Option.some.injEq, exists_eq_left', Nat.zero_add, Value.int.injEq, Value.ref.injEq, List.cons.injEq, exists_and_left, and_assoc, exists_eq_left, List.all_cons, List.all_nil, m1_i, m1_r, Bool.and_self, Bool.and_true, B_73_84, bk_73_84, B_73_110, bk_73_110, z0, z3, y2, n_in, n_cl, t1, if_pos, if_neg, not_true_eq_false, not_false_eq_true, or_true, true_or, or_false, false_or, false_and, and_false, Nat.reduceEqDiff, Nat.reduceLT, Nat.reduceMul, Nat.not_lt_zero, Nat.zero_le, Nat.le_refl, ne_eq, reduceIte, reduceCtorEq]
    by_cases c0 : k = 0
    · rw [if_pos (Or.inl c0)]; exact no (by rw [c0]; exact k2A rfl)
    · by_cases c1 : k = cA + 1
      · rw [if_pos (Or.inr c1)]; exact no (by rw [c1]; exact k5A (by omega))
      · rw [if_neg (by omega)]
        obtain ⟨i, rfl⟩ : ∃ i, k = i + 1 := ⟨k - 1, by omega⟩
        obtain ⟨t1, t, t2, t3⟩ := k4A i (by omega)
        rw [t3] at t1
        rw [show i + 1 - 1 = i by omega, t3, show (97 : Int32) + nI t = nI (97 + t) from o_add_r]
        rw [← cls, B_73_25]
        simp (disch := omega) only [e_iconst, e_bipush, e_sipush, e_iload_n, e_iload, e_aload_n, e_aload, e_istore_n, e_istore, e_astore_n, e_astore, e_iinc, e_iadd, e_isub, e_imul, e_iand, e_ishr, e_idiv, e_i2c, e_dup_i, e_dup_r, e_dup2, e_pop, e_goto, e_nop, e_if_eq, e_if_ne, e_if_lt, e_if_ge, e_if_gt, e_if_le, e_icmp_eq, e_icmp_ne, e_icmp_lt, e_icmp_ge, e_icmp_gt, e_icmp_le, e_tsw, e_ret0, e_ret1, e_retn, e_getI, e_getZ, e_getR, e_getV, e_getC, e_putI, e_putZ, e_putF, e_gst0, e_gst1, e_sld, e_iald, e_cald, e_bald, e_iast, e_cast, e_aald, e_aast, e_alen, e_slen, e_blen, e_newa, e_newq, e_new, e_oinit, e_ctor, e_virt, e_stat, e_min, e_copy, e_ldc, List.cons_append, List.nil_append, List.append_nil, List.length_cons, List.length_nil, List.replicate_succ, List.replicate_zero, List.getElem?_cons_zero, List.getElem?_cons_succ, List.set_cons_zero, List.set_cons_succ, List.take_succ_cons, List.take_zero, List.drop_succ_cons, List.drop_zero, List.reverse_cons, List.reverse_nil, Option.toList_some, Option.toList_none, Nat.reduceSub, Nat.reduceAdd, Nat.reduceLeDiff, true_and, and_true, and_self, Option.some.injEq, exists_eq_left', Nat.zero_add, Value.int.injEq, Value.ref.injEq, List.cons.injEq, exists_and_left, and_assoc, exists_eq_left, List.all_cons, List.all_nil, m1_i, m1_r, Bool.and_self, Bool.and_true, bk_73_25, show mTgt 37 93 0 #[31, 39, 47, 74] (nI 2) = 84 from by decide, a0, a1, gs0, gs1, gs2, zw0A, rwA, n_in, n_cl, true_or, or_true, if_pos, if_neg, not_true_eq_false, not_false_eq_true, or_true, true_or, or_false, false_or, false_and, and_false, Nat.reduceEqDiff, Nat.reduceLT, Nat.reduceMul, Nat.not_lt_zero, Nat.zero_le, Nat.le_refl, ne_eq, reduceIte, reduceCtorEq]
        simp (disch := omega) only [e_iconst, e_bipush, e_sipush, e_iload_n, e_iload, e_aload_n, e_aload, e_istore_n, e_istore, e_astore_n, e_astore, e_iinc, e_iadd, e_isub, e_imul, e_iand, e_ishr, e_idiv, e_i2c, e_dup_i, e_dup_r, e_dup2, e_pop, e_goto, e_nop, e_if_eq, e_if_ne, e_if_lt, e_if_ge, e_if_gt, e_if_le, e_icmp_eq, e_icmp_ne, e_icmp_lt, e_icmp_ge, e_icmp_gt, e_icmp_le, e_tsw, e_ret0, e_ret1, e_retn, e_getI, e_getZ, e_getR, e_getV, e_getC, e_putI, e_putZ, e_putF, e_gst0, e_gst1, e_sld, e_iald, e_cald, e_bald, e_iast, e_cast, e_aald, e_aast, e_alen, e_slen, e_blen, e_newa, e_newq, e_new, e_oinit, e_ctor, e_virt, e_stat, e_min, e_copy, e_ldc, List.cons_append, List.nil_append, List.append_nil, List.length_cons, List.length_nil, List.replicate_succ, List.replicate_zero, List.getElem?_cons_zero, List.getElem?_cons_succ, List.set_cons_zero, List.set_cons_succ, List.take_succ_cons, List.take_zero, List.drop_succ_cons, List.drop_zero, List.reverse_cons, List.reverse_nil, Option.toList_some, Option.toList_none, Nat.reduceSub, Nat.reduceAdd, Nat.reduceLeDiff, true_and, and_true, and_self, Option.some.injEq, exists_eq_left', Nat.zero_add, Value.int.injEq, Value.ref.injEq, List.cons.injEq, exists_and_left, and_assoc, exists_eq_left, List.all_cons, List.all_nil, m1_i, m1_r, Bool.and_self, Bool.and_true, B_73_84, bk_73_84, B_73_100, bk_73_100, B_73_110, bk_73_110, z0, z3, y2, n_in, n_cl, t1, n_m1, o_add_r, if_pos, if_neg, not_true_eq_false, not_false_eq_true, or_true, true_or, or_false, false_or, false_and, and_false, Nat.reduceEqDiff, Nat.reduceLT, Nat.reduceMul, Nat.not_lt_zero, Nat.zero_le, Nat.le_refl, ne_eq, reduceIte, reduceCtorEq]
end
section
/-! READING: the measures' ranges, what is read -/
theorem n_ndiv {a b : Nat} (ha : a < 2147483648) (hb : b < 2147483648) : (-(nI a)) / nI b = -(nI (a / b)) := by
  apply Int32.toInt_inj.mp
  have h1 : a / b < 2147483648 := Nat.lt_of_le_of_lt (Nat.div_le_self a b) ha
  have e1 : (-(nI a)).toInt = -(a : Int) := by
    rw [Int32.toInt_neg, nI_toInt ha]
    apply Int.bmod_eq_of_le
    · show -((2 ^ 32 : Nat) : Int) / 2 ≤ _
      omega
    · show _ < (((2 ^ 32 : Nat) : Int) + 1) / 2
      omega
  have e2 : (-(nI (a / b))).toInt = -((a / b : Nat) : Int) := by
    rw [Int32.toInt_neg, nI_toInt h1]
    generalize a / b = q at h1
    apply Int.bmod_eq_of_le
    · show -((2 ^ 32 : Nat) : Int) / 2 ≤ _
      omega
    · show _ < (((2 ^ 32 : Nat) : Int) + 1) / 2
      omega
  have h2 : ((a : Int).tdiv (b : Int)) = ((a / b : Nat) : Int) := by
    rw [Int.tdiv_eq_ediv_of_nonneg (by omega)]; rfl
  rw [e2, Int32.toInt_div, e1, nI_toInt hb, Int.neg_tdiv, h2]
  generalize a / b = q at h1
  apply Int.bmod_eq_of_le
  · show -((2 ^ 32 : Nat) : Int) / 2 ≤ _
    omega
  · show _ < (((2 ^ 32 : Nat) : Int) + 1) / 2
    omega
theorem rdM_s (I : Nat → Nat → Int32) (w c : Nat) (way : Int32) (i : Nat) : rdM I w c way (i + 1) = if way = 1 then (if rdN I w c way i = -1 then rdA I w c way i else (3 * rdA I w c way i + 5 * I (w + 1) (i + 1) / (rdN I w c way i + 2)) / 4) else rdA I w c way i := by
  rw [rdA_e]
  by_cases c2 : way = 2
  · subst c2
    rw [if_pos rfl, if_neg (by decide), rdA, if_pos rfl]
  · rw [if_neg c2]
theorem rd_cg {I I' : Nat → Nat → Int32} {w w' c cl : Nat} {way : Int32} (hI : ∀ j, j < c + 1 + cl → I (w + 1) j = I' (w' + 1) j) (hw : way = 2 → cl = 1) : ∀ i, i ≤ c → rdM I w c way i = rdM I' w' c way i ∧ (i < c → rdA I w c way i = rdA I' w' c way i ∧ rdN I w c way i = rdN I' w' c way i) := by
  have step : ∀ i, i < c → rdM I w c way i = rdM I' w' c way i → rdA I w c way i = rdA I' w' c way i ∧ rdN I w c way i = rdN I' w' c way i := by
    intro i hi e
    have a : rdA I w c way i = rdA I' w' c way i := by
      unfold rdA
      by_cases c2 : way = 2
      · rw [if_pos c2, if_pos c2]
        have := hw c2
        unfold mBt
        rw [hI 0 (by omega), hI (c + 1) (by omega)]
      · rw [if_neg c2, if_neg c2]; exact e
    refine ⟨a, ?_⟩
    unfold rdN
    rw [a, hI (i + 1) (by omega)]
  intro i
  induction i with
  | zero =>
    intro hi
    have e : rdM I w c way 0 = rdM I' w' c way 0 := hI 0 (by omega)
    exact ⟨e, fun h => step 0 h e⟩
  | succ i ih =>
    intro hi
    obtain ⟨a, b⟩ := (ih (by omega)).2 (by omega)
    have e : rdM I w c way (i + 1) = rdM I' w' c way (i + 1) := by
      rw [rdM_s, rdM_s, a, b, hI (i + 1) (by omega)]
    exact ⟨e, fun h => step _ h e⟩
/-- a length as it can be -/
def okL (x : Int32) : Prop := ∃ m, x = nI m ∧ 2000 ≤ m ∧ m ≤ 18000
theorem mBt_rng {I : Nat → Nat → Int32} {w c i : Nat} (h0 : okL (I (w + 1) 0)) (h1 : okL (I (w + 1) (c + 1))) (hi : i < c) (hc : c ≤ 30) : ∃ z, mBt I w c i = nI z ∧ 1111 ≤ z ∧ z ≤ 45000 := by
  obtain ⟨x, hx, x1, x2⟩ := h0
  obtain ⟨y, hy, y1, y2⟩ := h1
  unfold mBt
  rw [hx, hy]
  by_cases e : x ≤ y
  · have b1 : (y - x) * (i + 1) ≤ 16000 * 30 := Nat.mul_le_mul (by omega) (by omega)
    have b2 : (y - x) * (i + 1) / (c + 1) ≤ y - x := by
      apply Nat.div_le_of_le_mul
      rw [Nat.mul_comm]
      exact Nat.mul_le_mul (by omega) (Nat.le_refl _)
    rw [n_sub e, n_mul, n_div (by omega) (by omega), n_add]
    generalize (y - x) * (i + 1) / (c + 1) = q at b2
    exact ⟨x + q, rfl, by omega, by omega⟩
  · have b1 : (x - y) * (i + 1) ≤ 16000 * 30 := Nat.mul_le_mul (by omega) (by omega)
    have b2 : (x - y) * (i + 1) / (c + 1) ≤ x - y := by
      apply Nat.div_le_of_le_mul
      rw [Nat.mul_comm]
      exact Nat.mul_le_mul (by omega) (Nat.le_refl _)
    have e1 : nI y - nI x = -(nI (x - y)) := by
      rw [← n_sub (show y ≤ x by omega), Int32.neg_sub]
    rw [e1, Int32.neg_mul, n_mul, n_ndiv (by omega) (by omega)]
    generalize (x - y) * (i + 1) / (c + 1) = q at b2
    refine ⟨x - q, ?_, by omega, by omega⟩
    rw [← n_sub (show q ≤ x by omega), Int32.sub_eq_add_neg]
theorem rd_rng {I : Nat → Nat → Int32} {w c cl : Nat} {way : Int32} (hI : ∀ j, j < c + 1 + cl → okL (I (w + 1) j)) (hw : way = 2 → cl = 1) (hc : c ≤ 30) : ∀ i, i ≤ c → (way ≠ 2 → ∃ z, rdM I w c way i = nI z ∧ 1111 ≤ z ∧ z ≤ 45000) ∧ (i < c → ∃ z, rdA I w c way i = nI z ∧ 1111 ≤ z ∧ z ≤ 45000) := by
  have step : ∀ i, (way ≠ 2 → ∃ z, rdM I w c way i = nI z ∧ 1111 ≤ z ∧ z ≤ 45000) → i < c → ∃ z, rdA I w c way i = nI z ∧ 1111 ≤ z ∧ z ≤ 45000 := by
    intro i h hi
    unfold rdA
    by_cases c2 : way = 2
    · rw [if_pos c2]
      have := hw c2
      exact mBt_rng (hI 0 (by omega)) (hI (c + 1) (by omega)) hi hc
    · rw [if_neg c2]; exact h c2
  intro i
  induction i with
  | zero =>
    intro _
    have e : way ≠ 2 → ∃ z, rdM I w c way 0 = nI z ∧ 1111 ≤ z ∧ z ≤ 45000 := by
      intro _
      obtain ⟨m, m1, m2, m3⟩ := hI 0 (by omega)
      exact ⟨m, m1, by omega, by omega⟩
    exact ⟨e, step 0 e⟩
  | succ i ih =>
    intro hi
    have e : way ≠ 2 → ∃ z, rdM I w c way (i + 1) = nI z ∧ 1111 ≤ z ∧ z ≤ 45000 := by
      intro _
      obtain ⟨x, hx, x1, x2⟩ := (ih (by omega)).2 (by omega)
      rw [rdM_s, hx]
      by_cases c1 : way = 1
      · rw [if_pos c1]
        by_cases d1 : rdN I w c way i = -1
        · rw [if_pos d1]; exact ⟨x, rfl, x1, x2⟩
        · rw [if_neg d1]
          obtain ⟨q, hq, hq2⟩ := (nmb_c (I (w + 1) (i + 1)) (rdA I w c way i)).resolve_left d1
          have hq3 : rdN I w c way i = nI q := hq2
          obtain ⟨m, m1, m2, m3⟩ := hI (i + 1) (by omega)
          rw [hq3, m1, show (3 : Int32) = nI 3 from rfl, show (5 : Int32) = nI 5 from rfl, show (2 : Int32) = nI 2 from rfl, show (4 : Int32) = nI 4 from rfl, n_mul, n_mul, n_add, n_div (by omega) (by omega), n_add]
          have b1 : 5 * m / (q + 2) ≤ 45000 ∧ 1111 ≤ 5 * m / (q + 2) := by
            rcases (show q = 0 ∨ q = 1 ∨ q = 2 ∨ q = 3 ∨ q = 4 ∨ q = 5 ∨ q = 6 ∨ q = 7 by omega) with rfl | rfl | rfl | rfl | rfl | rfl | rfl | rfl <;> omega
          generalize 5 * m / (q + 2) = u at b1
          rw [n_div (by omega) (by omega)]
          exact ⟨_, rfl, by omega, by omega⟩
      · rw [if_neg c1]; exact ⟨x, rfl, x1, x2⟩
    exact ⟨e, step _ e⟩
/-- the row's lengths as a wire's -/
def vL (v : Nat → Int32) (s : Nat) : Nat → Nat → Int32 := fun _ j => v (98 * s + (4 + j))
def wrR (nb tr : Nat → Int32) (c : Nat) (what : Int32) : Int32 := if what = 0 then nI (cnt (pMi nb tr) c) else if what = 1 then nI (cnt (pUn nb tr) c) else if fB (pWr nb tr) c c = c then -5 else nI (fB (pWr nb tr) c c)
def nbR (v : Nat → Int32) (s c : Nat) (way : Int32) : Nat → Int32 := rdN (vL v s) 0 c way
def trR (v : Nat → Int32) (s : Nat) : Nat → Int32 := fun i => v (98 * s + (68 + i))
/-- what the row v tells of its wire s -/
def okV (v : Nat → Int32) (s cl c : Nat) : Prop := (∀ j, j < c + 1 + cl → okL (v (98 * s + (4 + j)))) ∧ (∀ i, i < c → ∃ t, t < 8 ∧ v (98 * s + (68 + i)) = nI t) ∧ c ≤ 30
theorem okV_m {v : Nat → Int32} {s cl c : Nat} {way : Int32} (h : okV v s cl c) (hw : way = 2 → cl = 1) : ∀ i, i < c → ∃ x, rdA (vL v s) 0 c way i = nI x ∧ 0 < x ∧ x < 1000000 := by
  intro i hi
  obtain ⟨x, x1, x2, x3⟩ := (rd_rng (I := vL v s) (w := 0) (way := way) (fun j hj => h.1 j hj) hw h.2.2 i (by omega)).2 hi
  exact ⟨x, x1, by omega, by omega⟩
theorem nbR_c (v : Nat → Int32) (s c : Nat) (way : Int32) (i : Nat) : nbR v s c way i = -1 ∨ ∃ q, q < 8 ∧ nbR v s c way i = nI q := nmb_c _ _
theorem okL_G {x y : Int32} (h : okG x y) : okL x := by
  obtain ⟨m, n, h1, h2, h3, h4, h5, h6⟩ := h
  exact ⟨m, h1, by omega, by omega⟩
theorem rW_V {I : Nat → Nat → Int32} {a s cl c : Nat} {v : Nat → Int32} (h : rW I a v s 1 cl c) : okV v s cl c := by
  obtain ⟨⟨f1, f2, f3, f4, f5, f6⟩, -, -, -, -, k3, k4, -⟩ := h
  exact ⟨fun j hj => okL_G (k3 j hj).2.2, fun i hi => (k4 i hi).2, f6⟩
/-- behind the class's reading of the wire a into the reader r -/
def rdS (I : Nat → Nat → Int32) (r a c : Nat) (way : Int32) : Nat → Nat → Int32 := rSt I r (rdN I a c way) (fun i => I (a + 3) (i + 1)) c c
theorem rdS_o {I : Nat → Nat → Int32} {r a c x : Nat} {way : Int32} (h : x ≠ r ∧ x ≠ r + 1) : rdS I r a c way x = I x := by
  funext j; exact rSt_o h
theorem SCR_rd {I : Nat → Nat → Int32} {r a c : Nat} {way : Int32} (h : 185 ≤ r) : SCR I (rdS I r a c way) := fun x hx => rdS_o (by omega)
theorem rd_cls {I : Nat → Nat → Int32} {a s cl c r : Nat} {v : Nat → Int32} {way : Int32} (h : rW I a v s 1 cl c) (hw : way = 2 → cl = 1) :
    (∀ i, i < c → ∃ x, rdA I a c way i = nI x ∧ 0 < x ∧ x < 1000000) ∧ (∀ i, i < c → rdS I r a c way (r + 1) i = nbR v s c way i) ∧ rdS I r a c way r 1 = nI (cnt (pMi (nbR v s c way) (trR v s)) c) ∧ rdS I r a c way r 2 = nI (cnt (pUn (nbR v s c way) (trR v s)) c) ∧ rdS I r a c way r 3 = (if fB (pWr (nbR v s c way) (trR v s)) c c = c then -1 else nI (fB (pWr (nbR v s c way) (trR v s)) c c)) := by
  obtain ⟨⟨f1, f2, f3, f4, f5, f6⟩, -, -, -, -, k3, k4, -⟩ := h
  have e : ∀ i, i < c → rdN I a c way i = nbR v s c way i := fun i hi => ((rd_cg (I := I) (I' := vL v s) (w := a) (w' := 0) (cl := cl) (fun j hj => (k3 j hj).1) hw i (by omega)).2 hi).2
  have et : ∀ i, i < c → I (a + 3) (i + 1) = trR v s i := fun i hi => (k4 i hi).1
  have q1 : cnt (pMi (rdN I a c way) (fun i => I (a + 3) (i + 1))) c = cnt (pMi (nbR v s c way) (trR v s)) c := cnt_cg c (fun i hi => by simp only [pMi, e i hi, et i hi])
  have q2 : cnt (pUn (rdN I a c way) (fun i => I (a + 3) (i + 1))) c = cnt (pUn (nbR v s c way) (trR v s)) c := cnt_cg c (fun i hi => by simp only [pUn, e i hi, et i hi])
  have q3 : fB (pWr (rdN I a c way) (fun i => I (a + 3) (i + 1))) c c = fB (pWr (nbR v s c way) (trR v s)) c c := fB_cg c (Nat.le_refl _) (fun i hi => by simp only [pWr, e i hi, et i hi])
  refine ⟨fun i hi => ?_, fun i hi => ?_, ?_, ?_, ?_⟩
  · obtain ⟨x, x1, x2, x3⟩ := (rd_rng (I := I) (w := a) (way := way) (fun j hj => by rw [(k3 j hj).1]; exact okL_G (k3 j hj).2.2) hw f6 i (by omega)).2 hi
    exact ⟨x, x1, by omega, by omega⟩
  · rw [← e i hi]
    show rSt I r (rdN I a c way) (fun i => I (a + 3) (i + 1)) c c (r + 1) i = _
    rw [rSt, if_pos ⟨rfl, hi⟩]
  · rw [← q1]
    show rSt I r (rdN I a c way) (fun i => I (a + 3) (i + 1)) c c r 1 = _
    rw [rSt, if_neg (by omega), if_pos ⟨rfl, rfl⟩]
  · rw [← q2]
    show rSt I r (rdN I a c way) (fun i => I (a + 3) (i + 1)) c c r 2 = _
    rw [rSt, if_neg (by omega), if_neg (by omega), if_pos ⟨rfl, rfl⟩]
  · rw [← q3]
    show rSt I r (rdN I a c way) (fun i => I (a + 3) (i + 1)) c c r 3 = _
    rw [rSt, if_neg (by omega), if_neg (by omega), if_neg (by omega), if_pos ⟨rfl, rfl⟩]
/-- the class's reading -/
theorem m_rd {K : mK} {R : Nat → Nat → Option Nat} {I : Nat → Nat → Int32} {r a s cl c : Nat} {v : Nat → Int32} {way : Int32} {Q : Option Value → mH → Prop} (hr : zR K R r) (hz : zW K R a) (hab : r + 2 ≤ a ∨ a + 4 ≤ r) (h : rW I a v s 1 cl c) (hw : way = 2 → cl = 1) :
    EvM 18 [.ref r, .ref a, .int way] (K, R, I) Q ↔ Q none (K, R, rdS I r a c way) := by
  obtain ⟨f1, f2, f3, f4, f5, f6⟩ := id h.1
  exact m_readAll hr hz hab f2 f3 f6 hw (rd_cls (r := r) h hw).1 (Or.inl f1)
theorem wrR_0 (nb tr : Nat → Int32) (c : Nat) : wrR nb tr c 0 = nI (cnt (pMi nb tr) c) := if_pos rfl
theorem wrR_1 (nb tr : Nat → Int32) (c : Nat) : wrR nb tr c 1 = nI (cnt (pUn nb tr) c) := by
  unfold wrR
  rw [if_neg (by decide), if_pos rfl]
def tot (nb tr : Nat → Int32) (c : Nat) : Nat := cnt (pMi nb tr) c + cnt (pUn nb tr) c
theorem tot_le (nb tr : Nat → Int32) : ∀ c, tot nb tr c ≤ c := by
  intro c
  induction c with
  | zero => exact Nat.le_refl _
  | succ c ih =>
    unfold tot at ih ⊢
    unfold cnt
    by_cases e : nb c = -1
    · have u : pMi nb tr c = false := by simp [pMi, e]
      rw [u]
      simp only [if_neg (show ¬ false = true by decide)]
      split <;> omega
    · have u : pUn nb tr c = false := by simp [pUn, e]
      rw [u]
      simp only [if_neg (show ¬ false = true by decide)]
      split <;> omega
theorem rW_out {I X : Nat → Nat → Int32} {a s p cl c : Nat} {v : Nat → Int32} (h : rW I a v s p cl c) (hX : ∀ x, a ≤ x → x < a + 4 → X x = I x) : rW X a v s p cl c := rW_cong h (fun d j hd _ _ => by rw [hX _ (by omega) (by omega)]) (fun _ _ _ => rfl)
end
section
/-! read, errors, bestWay -/
/-- what read answers -/
def aRead (v : Nat → Int32) (s w i : Nat) : Int32 := if gc v s ≤ i then -1 else if w = 2 ∧ gl v s = 0 then -4 else if nbR v s (gc v s) (nI w) i = -1 then 63 else 97 + nbR v s (gc v s) (nI w) i
theorem w_rng {w : Nat} (h : w ≤ 2) : ¬ (nI w < 0 ∨ 2 < nI w) := by
  rintro (e | e)
  · exact n_ne0 (by omega) e
  · rw [show (2 : Int32) = nI 2 from rfl, n_lt (by omega) (by omega)] at e; omega
theorem w_2 {w : Nat} (h : w ≤ 2) : nI w = 2 ↔ w = 2 := by rw [show (2 : Int32) = nI 2 from rfl, n_eq (by omega) (by omega)]
set_option maxHeartbeats 8000000 in
theorem q_read {K : mK} {R : Nat → Nat → Option Nat} {I : Nat → Nat → Int32} {v H T : Nat → Int32} {n t : Nat} (hrel : REL K R I v n H t T) (s w i : Nat) (hs : s < 6) (hw0 : w ≤ 2) (hi : i ≤ 1000) : QO 74 [.int (nI s), .int (nI w), .int (nI i)] K R I (aRead v s w i) := by
  obtain ⟨f, g, hv, hn2, hn, hH, hP, hT⟩ := id hrel
  have q4 := qTu_lt g hn2
  obtain ⟨gs, -, gh, gw, gr, gr', ⟨a0, a1, a2, a3, a4, a5, a6, a7, a8⟩, ⟨b0, b1, b2⟩, cc0⟩ := id g
  have gs0 : K.2.2.1 1 = (1, 4) := gs.1
  have gs1 : R 1 0 = some 2 := gs.2.1
  have gs2 : K.2.2.1 2 = (4, 6) := gs.2.2.1
  have gs3 : R 1 1 = some 3 := gs.2.2.2.1
  have gs4 : zL K R 3 := gs.2.2.2.2.1
  have gW : ∀ s, s < 6 → zW K R (7 + 4 * s) := fun s hs => (gs.2.2.2.2.2.2 s hs).2
  have gR : ∀ s, s < 6 → R 2 s = some (7 + 4 * s) := fun s hs => (gs.2.2.2.2.2.2 s hs).1
  have gh0 := gh.1
  have gsl : K.2.2.1 3 = (1, 2) := gs4.1
  have gT := zG_tu (n := n) g
  have gst : zS K (RTu R n) 1 := gT.1
  have gt1 : RTu R n 1 0 = some 2 := gst.2.1
  have gt3 : RTu R n 1 1 = some 3 := gst.2.2.2.1
  have gt4 : zL K (RTu R n) 3 := gst.2.2.2.2.1
  have gWt : ∀ s, s < 6 → zW K (RTu R n) (7 + 4 * s) := fun s hs => (gst.2.2.2.2.2.2 s hs).2
  have gRt : ∀ s, s < 6 → RTu R n 2 s = some (7 + 4 * s) := fun s hs => (gst.2.2.2.2.2.2 s hs).1
  obtain ⟨-, a1t, a2t, a3t, a4t, a5t, a6t, a7t, a8t⟩ := gT.2.2.2.2.2.2.1
  obtain ⟨pA, clA, cA, hwA⟩ := hv.1 s hs
  rw [show 1 + 6 + 4 * s = 7 + 4 * s by omega] at hwA
  obtain ⟨wfA, vfA, k0A, k1A, k2A, k3A, k4A, k5A⟩ := id hwA
  obtain ⟨f1A, f2A, f3A, f4A, f5A, f6A⟩ := id wfA
  obtain ⟨v1A, v2A, v3A, -⟩ := id vfA
  have zwA := gW s hs
  have zwtA := gWt s hs
  have rwA := gR s hs
  have rwtA := gRt s hs
  have zw0A : K.2.2.1 (7 + 4 * s) = (1, 6) := zwA.1
  obtain ⟨g1, g2, g3⟩ := g_vF vfA
  unfold aRead
  rw [g2, g3]
  by_cases hl : i < cA
  rotate_left
  · rw [if_pos (by omega)]
    refine ⟨I, ?_, SCR_id⟩
    have q : nI i < 0 ∨ nI cA ≤ nI i := Or.inr (by rw [n_le (by omega) (by omega)]; omega)
    simp (disch := omega) only [e_iconst, e_bipush, e_sipush, e_iload_n, e_iload, e_aload_n, e_aload, e_istore_n, e_istore, e_astore_n, e_astore, e_iinc, e_iadd, e_isub, e_imul, e_iand, e_ishr, e_idiv, e_i2c, e_dup_i, e_dup_r, e_dup2, e_pop, e_goto, e_nop, e_if_eq, e_if_ne, e_if_lt, e_if_ge, e_if_gt, e_if_le, e_icmp_eq, e_icmp_ne, e_icmp_lt, e_icmp_ge, e_icmp_gt, e_icmp_le, e_tsw, e_ret0, e_ret1, e_retn, e_getI, e_getZ, e_getR, e_getV, e_getC, e_putI, e_putZ, e_putF, e_gst0, e_gst1, e_sld, e_iald, e_cald, e_bald, e_iast, e_cast, e_aald, e_aast, e_alen, e_slen, e_blen, e_newa, e_newq, e_new, e_oinit, e_ctor, e_virt, e_stat, e_min, e_copy, e_ldc, List.cons_append, List.nil_append, List.append_nil, List.length_cons, List.length_nil, List.replicate_succ, List.replicate_zero, List.getElem?_cons_zero, List.getElem?_cons_succ, List.set_cons_zero, List.set_cons_succ, List.take_succ_cons, List.take_zero, List.drop_succ_cons, List.drop_zero, List.reverse_cons, List.reverse_nil, Option.toList_some, Option.toList_none, Nat.reduceSub, Nat.reduceAdd, Nat.reduceLeDiff, true_and, and_true, and_self, Option.some.injEq, exists_eq_left', Nat.zero_add, Value.int.injEq, Value.ref.injEq, List.cons.injEq, exists_and_left, and_assoc, exists_eq_left, List.all_cons, List.all_nil, m1_i, m1_r, Bool.and_self, Bool.and_true, E_in 74, N_74, B_74_0, bk_74_0, B_74_23, bk_74_23, C_81, C_39, m_isSp hs, m_letO zwA f3A q, a0, a1, gs0, gs1, gs2, zw0A, rwA, n_in, n_cl, true_or, or_true, o_eq, if_pos, if_neg, not_true_eq_false, not_false_eq_true, or_true, true_or, or_false, false_or, false_and, and_false, Nat.reduceEqDiff, Nat.reduceLT, Nat.reduceMul, Nat.not_lt_zero, Nat.zero_le, Nat.le_refl, ne_eq, reduceIte, reduceCtorEq]
  rw [if_neg (by omega)]
  have hp1 : pA = 1 := by
    rcases (show pA = 0 ∨ pA = 1 by omega) with e | e
    · have := (k0A e).2; omega
    · exact e
  subst hp1
  have cy := w_rng hw0
  have cls : ∀ Q, Ev 74 (mB 74 25) [.ref 0, .int (nI s), .int (nI w), .int (nI i), .null, .null] [] (K, R, I) Q = EvM 75 [.ref 0, .int (nI s), .int (nI w), .int (nI i)] (K, R, I) Q := by
    intro Q
    apply propext
    simp (disch := omega) only [e_iconst, e_bipush, e_sipush, e_iload_n, e_iload, e_aload_n, e_aload, e_istore_n, e_istore, e_astore_n, e_astore, e_iinc, e_iadd, e_isub, e_imul, e_iand, e_ishr, e_idiv, e_i2c, e_dup_i, e_dup_r, e_dup2, e_pop, e_goto, e_nop, e_if_eq, e_if_ne, e_if_lt, e_if_ge, e_if_gt, e_if_le, e_icmp_eq, e_icmp_ne, e_icmp_lt, e_icmp_ge, e_icmp_gt, e_icmp_le, e_tsw, e_ret0, e_ret1, e_retn, e_getI, e_getZ, e_getR, e_getV, e_getC, e_putI, e_putZ, e_putF, e_gst0, e_gst1, e_sld, e_iald, e_cald, e_bald, e_iast, e_cast, e_aald, e_aast, e_alen, e_slen, e_blen, e_newa, e_newq, e_new, e_oinit, e_ctor, e_virt, e_stat, e_min, e_copy, e_ldc, List.cons_append, List.nil_append, List.append_nil, List.length_cons, List.length_nil, List.replicate_succ, List.replicate_zero, List.getElem?_cons_zero, List.getElem?_cons_succ, List.set_cons_zero, List.set_cons_succ, List.take_succ_cons, List.take_zero, List.drop_succ_cons, List.drop_zero, List.reverse_cons, List.reverse_nil, Option.toList_some, Option.toList_none, Nat.reduceSub, Nat.reduceAdd, Nat.reduceLeDiff, true_and, and_true, and_self, Option.some.injEq, exists_eq_left', Nat.zero_add, Value.int.injEq, Value.ref.injEq, List.cons.injEq, exists_and_left, and_assoc, exists_eq_left, List.all_cons, List.all_nil, m1_i, m1_r, Bool.and_self, Bool.and_true, E_in 74, N_74, B_74_0, bk_74_0, C_81, C_39, m_isSp hs, m_letI zwA f3A hl (show cA ≤ 1000 by omega), a0, a1, gs0, gs1, gs2, zw0A, rwA, n_in, n_cl, true_or, or_true, o_eq, if_pos, if_neg, not_true_eq_false, not_false_eq_true, or_true, true_or, or_false, false_or, false_and, and_false, Nat.reduceEqDiff, Nat.reduceLT, Nat.reduceMul, Nat.not_lt_zero, Nat.zero_le, Nat.le_refl, ne_eq, reduceIte, reduceCtorEq]
  by_cases cb : w = 2 ∧ clA = 0
  · rw [if_pos cb]
    have cb' : nI w = 2 ∧ clA = 0 := ⟨(w_2 hw0).mpr cb.1, cb.2⟩
    refine ⟨I, ?_, SCR_id⟩
    rw [← cls, B_74_25]
    simp (disch := omega) only [e_iconst, e_bipush, e_sipush, e_iload_n, e_iload, e_aload_n, e_aload, e_istore_n, e_istore, e_astore_n, e_astore, e_iinc, e_iadd, e_isub, e_imul, e_iand, e_ishr, e_idiv, e_i2c, e_dup_i, e_dup_r, e_dup2, e_pop, e_goto, e_nop, e_if_eq, e_if_ne, e_if_lt, e_if_ge, e_if_gt, e_if_le, e_icmp_eq, e_icmp_ne, e_icmp_lt, e_icmp_ge, e_icmp_gt, e_icmp_le, e_tsw, e_ret0, e_ret1, e_retn, e_getI, e_getZ, e_getR, e_getV, e_getC, e_putI, e_putZ, e_putF, e_gst0, e_gst1, e_sld, e_iald, e_cald, e_bald, e_iast, e_cast, e_aald, e_aast, e_alen, e_slen, e_blen, e_newa, e_newq, e_new, e_oinit, e_ctor, e_virt, e_stat, e_min, e_copy, e_ldc, List.cons_append, List.nil_append, List.append_nil, List.length_cons, List.length_nil, List.replicate_succ, List.replicate_zero, List.getElem?_cons_zero, List.getElem?_cons_succ, List.set_cons_zero, List.set_cons_succ, List.take_succ_cons, List.take_zero, List.drop_succ_cons, List.drop_zero, List.reverse_cons, List.reverse_nil, Option.toList_some, Option.toList_none, Nat.reduceSub, Nat.reduceAdd, Nat.reduceLeDiff, true_and, and_true, and_self, Option.some.injEq, exists_eq_left', Nat.zero_add, Value.int.injEq, Value.ref.injEq, List.cons.injEq, exists_and_left, and_assoc, exists_eq_left, List.all_cons, List.all_nil, m1_i, m1_r, Bool.and_self, Bool.and_true, bk_74_25, B_74_35, bk_74_35, C_83, C_40, m_wayI cy, m_canO zwA wfA (Or.inr cb'), a0, a1, gs0, gs1, gs2, zw0A, rwA, n_in, n_cl, true_or, or_true, o_eq, if_pos, if_neg, not_true_eq_false, not_false_eq_true, or_true, true_or, or_false, false_or, false_and, and_false, Nat.reduceEqDiff, Nat.reduceLT, Nat.reduceMul, Nat.not_lt_zero, Nat.zero_le, Nat.le_refl, ne_eq, reduceIte, reduceCtorEq]
  rw [if_neg cb]
  have hw : nI w = 2 → clA = 1 := fun e => by
    have := (w_2 hw0).mp e
    rcases (show clA = 0 ∨ clA = 1 by omega) with e2 | e2
    · exact absurd ⟨this, e2⟩ cb
    · exact e2
  obtain ⟨d1, d2, d3, d4, d5⟩ := rd_cls (r := 186) hwA hw
  have d2 := d2 i hl
  have grz := gr.1
  have gra := gr.2.1
  have grr := gr.2.2.1
  refine ⟨rdS I 186 (7 + 4 * s) cA (nI w), ?_, SCR_rd (by omega)⟩
  rw [← cls, B_74_25]
  rcases nbR_c v s cA (nI w) i with e | ⟨t, ht, e⟩
  · rw [e] at d2
    rw [e, if_pos rfl]
    simp (disch := omega) only [e_iconst, e_bipush, e_sipush, e_iload_n, e_iload, e_aload_n, e_aload, e_istore_n, e_istore, e_astore_n, e_astore, e_iinc, e_iadd, e_isub, e_imul, e_iand, e_ishr, e_idiv, e_i2c, e_dup_i, e_dup_r, e_dup2, e_pop, e_goto, e_nop, e_if_eq, e_if_ne, e_if_lt, e_if_ge, e_if_gt, e_if_le, e_icmp_eq, e_icmp_ne, e_icmp_lt, e_icmp_ge, e_icmp_gt, e_icmp_le, e_tsw, e_ret0, e_ret1, e_retn, e_getI, e_getZ, e_getR, e_getV, e_getC, e_putI, e_putZ, e_putF, e_gst0, e_gst1, e_sld, e_iald, e_cald, e_bald, e_iast, e_cast, e_aald, e_aast, e_alen, e_slen, e_blen, e_newa, e_newq, e_new, e_oinit, e_ctor, e_virt, e_stat, e_min, e_copy, e_ldc, List.cons_append, List.nil_append, List.append_nil, List.length_cons, List.length_nil, List.replicate_succ, List.replicate_zero, List.getElem?_cons_zero, List.getElem?_cons_succ, List.set_cons_zero, List.set_cons_succ, List.take_succ_cons, List.take_zero, List.drop_succ_cons, List.drop_zero, List.reverse_cons, List.reverse_nil, Option.toList_some, Option.toList_none, Nat.reduceSub, Nat.reduceAdd, Nat.reduceLeDiff, true_and, and_true, and_self, Option.some.injEq, exists_eq_left', Nat.zero_add, Value.int.injEq, Value.ref.injEq, List.cons.injEq, exists_and_left, and_assoc, exists_eq_left, List.all_cons, List.all_nil, m1_i, m1_r, Bool.and_self, Bool.and_true, bk_74_25, B_74_35, bk_74_35, C_83, C_40, m_wayI cy, m_canI zwA wfA hw, a0, a1, gs0, gs1, gs2, zw0A, rwA, n_in, n_cl, true_or, or_true, o_eq, if_pos, if_neg, not_true_eq_false, not_false_eq_true, or_true, true_or, or_false, false_or, false_and, and_false, Nat.reduceEqDiff, Nat.reduceLT, Nat.reduceMul, Nat.not_lt_zero, Nat.zero_le, Nat.le_refl, ne_eq, reduceIte, reduceCtorEq]
    simp (disch := omega) only [e_iconst, e_bipush, e_sipush, e_iload_n, e_iload, e_aload_n, e_aload, e_istore_n, e_istore, e_astore_n, e_astore, e_iinc, e_iadd, e_isub, e_imul, e_iand, e_ishr, e_idiv, e_i2c, e_dup_i, e_dup_r, e_dup2, e_pop, e_goto, e_nop, e_if_eq, e_if_ne, e_if_lt, e_if_ge, e_if_gt, e_if_le, e_icmp_eq, e_icmp_ne, e_icmp_lt, e_icmp_ge, e_icmp_gt, e_icmp_le, e_tsw, e_ret0, e_ret1, e_retn, e_getI, e_getZ, e_getR, e_getV, e_getC, e_putI, e_putZ, e_putF, e_gst0, e_gst1, e_sld, e_iald, e_cald, e_bald, e_iast, e_cast, e_aald, e_aast, e_alen, e_slen, e_blen, e_newa, e_newq, e_new, e_oinit, e_ctor, e_virt, e_stat, e_min, e_copy, e_ldc, List.cons_append, List.nil_append, List.append_nil, List.length_cons, List.length_nil, List.replicate_succ, List.replicate_zero, List.getElem?_cons_zero, List.getElem?_cons_succ, List.set_cons_zero, List.set_cons_succ, List.take_succ_cons, List.take_zero, List.drop_succ_cons, List.drop_zero, List.reverse_cons, List.reverse_nil, Option.toList_some, Option.toList_none, Nat.reduceSub, Nat.reduceAdd, Nat.reduceLeDiff, true_and, and_true, and_self, Option.some.injEq, exists_eq_left', Nat.zero_add, Value.int.injEq, Value.ref.injEq, List.cons.injEq, exists_and_left, and_assoc, exists_eq_left, List.all_cons, List.all_nil, m1_i, m1_r, Bool.and_self, Bool.and_true, B_74_58, bk_74_58, B_74_95, bk_74_95, a0, a6, C_18, m_rd gr zwA (by omega) hwA hw, grz, gra, grr, n_in, n_cl, d2, if_pos, if_neg, not_true_eq_false, not_false_eq_true, or_true, true_or, or_false, false_or, false_and, and_false, Nat.reduceEqDiff, Nat.reduceLT, Nat.reduceMul, Nat.not_lt_zero, Nat.zero_le, Nat.le_refl, ne_eq, reduceIte, reduceCtorEq]
  · rw [e] at d2
    rw [e, if_neg (n_m1 (by omega)), show (97 : Int32) + nI t = nI (97 + t) from o_add_r]
    simp (disch := omega) only [e_iconst, e_bipush, e_sipush, e_iload_n, e_iload, e_aload_n, e_aload, e_istore_n, e_istore, e_astore_n, e_astore, e_iinc, e_iadd, e_isub, e_imul, e_iand, e_ishr, e_idiv, e_i2c, e_dup_i, e_dup_r, e_dup2, e_pop, e_goto, e_nop, e_if_eq, e_if_ne, e_if_lt, e_if_ge, e_if_gt, e_if_le, e_icmp_eq, e_icmp_ne, e_icmp_lt, e_icmp_ge, e_icmp_gt, e_icmp_le, e_tsw, e_ret0, e_ret1, e_retn, e_getI, e_getZ, e_getR, e_getV, e_getC, e_putI, e_putZ, e_putF, e_gst0, e_gst1, e_sld, e_iald, e_cald, e_bald, e_iast, e_cast, e_aald, e_aast, e_alen, e_slen, e_blen, e_newa, e_newq, e_new, e_oinit, e_ctor, e_virt, e_stat, e_min, e_copy, e_ldc, List.cons_append, List.nil_append, List.append_nil, List.length_cons, List.length_nil, List.replicate_succ, List.replicate_zero, List.getElem?_cons_zero, List.getElem?_cons_succ, List.set_cons_zero, List.set_cons_succ, List.take_succ_cons, List.take_zero, List.drop_succ_cons, List.drop_zero, List.reverse_cons, List.reverse_nil, Option.toList_some, Option.toList_none, Nat.reduceSub, Nat.reduceAdd, Nat.reduceLeDiff, true_and, and_true, and_self, Option.some.injEq, exists_eq_left', Nat.zero_add, Value.int.injEq, Value.ref.injEq, List.cons.injEq, exists_and_left, and_assoc, exists_eq_left, List.all_cons, List.all_nil, m1_i, m1_r, Bool.and_self, Bool.and_true, bk_74_25, B_74_35, bk_74_35, C_83, C_40, m_wayI cy, m_canI zwA wfA hw, a0, a1, gs0, gs1, gs2, zw0A, rwA, n_in, n_cl, true_or, or_true, o_eq, if_pos, if_neg, not_true_eq_false, not_false_eq_true, or_true, true_or, or_false, false_or, false_and, and_false, Nat.reduceEqDiff, Nat.reduceLT, Nat.reduceMul, Nat.not_lt_zero, Nat.zero_le, Nat.le_refl, ne_eq, reduceIte, reduceCtorEq]
    simp (disch := omega) only [e_iconst, e_bipush, e_sipush, e_iload_n, e_iload, e_aload_n, e_aload, e_istore_n, e_istore, e_astore_n, e_astore, e_iinc, e_iadd, e_isub, e_imul, e_iand, e_ishr, e_idiv, e_i2c, e_dup_i, e_dup_r, e_dup2, e_pop, e_goto, e_nop, e_if_eq, e_if_ne, e_if_lt, e_if_ge, e_if_gt, e_if_le, e_icmp_eq, e_icmp_ne, e_icmp_lt, e_icmp_ge, e_icmp_gt, e_icmp_le, e_tsw, e_ret0, e_ret1, e_retn, e_getI, e_getZ, e_getR, e_getV, e_getC, e_putI, e_putZ, e_putF, e_gst0, e_gst1, e_sld, e_iald, e_cald, e_bald, e_iast, e_cast, e_aald, e_aast, e_alen, e_slen, e_blen, e_newa, e_newq, e_new, e_oinit, e_ctor, e_virt, e_stat, e_min, e_copy, e_ldc, List.cons_append, List.nil_append, List.append_nil, List.length_cons, List.length_nil, List.replicate_succ, List.replicate_zero, List.getElem?_cons_zero, List.getElem?_cons_succ, List.set_cons_zero, List.set_cons_succ, List.take_succ_cons, List.take_zero, List.drop_succ_cons, List.drop_zero, List.reverse_cons, List.reverse_nil, Option.toList_some, Option.toList_none, Nat.reduceSub, Nat.reduceAdd, Nat.reduceLeDiff, true_and, and_true, and_self, Option.some.injEq, exists_eq_left', Nat.zero_add, Value.int.injEq, Value.ref.injEq, List.cons.injEq, exists_and_left, and_assoc, exists_eq_left, List.all_cons, List.all_nil, m1_i, m1_r, Bool.and_self, Bool.and_true, B_74_58, bk_74_58, B_74_90, bk_74_90, B_74_95, bk_74_95, a0, a6, C_18, m_rd gr zwA (by omega) hwA hw, grz, gra, grr, n_in, n_cl, d2, n_m1, o_add_r, if_pos, if_neg, not_true_eq_false, not_false_eq_true, or_true, true_or, or_false, false_or, false_and, and_false, Nat.reduceEqDiff, Nat.reduceLT, Nat.reduceMul, Nat.not_lt_zero, Nat.zero_le, Nat.le_refl, ne_eq, reduceIte, reduceCtorEq]
/-- what errors answers -/
def aErr (v : Nat → Int32) (s w k : Nat) : Int32 := if gp v s = 0 ∨ (w = 2 ∧ gl v s = 0) then -4 else wrR (nbR v s (gc v s) (nI w)) (trR v s) (gc v s) (nI k)
set_option maxHeartbeats 8000000 in
theorem q_errors {K : mK} {R : Nat → Nat → Option Nat} {I : Nat → Nat → Int32} {v H T : Nat → Int32} {n t : Nat} (hrel : REL K R I v n H t T) (s w k : Nat) (hs : s < 6) (hw0 : w ≤ 2) (hk : k ≤ 2) : QO 75 [.int (nI s), .int (nI w), .int (nI k)] K R I (aErr v s w k) := by
  obtain ⟨f, g, hv, hn2, hn, hH, hP, hT⟩ := id hrel
  have q4 := qTu_lt g hn2
  obtain ⟨gs, -, gh, gw, gr, gr', ⟨a0, a1, a2, a3, a4, a5, a6, a7, a8⟩, ⟨b0, b1, b2⟩, cc0⟩ := id g
  have gs0 : K.2.2.1 1 = (1, 4) := gs.1
  have gs1 : R 1 0 = some 2 := gs.2.1
  have gs2 : K.2.2.1 2 = (4, 6) := gs.2.2.1
  have gs3 : R 1 1 = some 3 := gs.2.2.2.1
  have gs4 : zL K R 3 := gs.2.2.2.2.1
  have gW : ∀ s, s < 6 → zW K R (7 + 4 * s) := fun s hs => (gs.2.2.2.2.2.2 s hs).2
  have gR : ∀ s, s < 6 → R 2 s = some (7 + 4 * s) := fun s hs => (gs.2.2.2.2.2.2 s hs).1
  have gh0 := gh.1
  have gsl : K.2.2.1 3 = (1, 2) := gs4.1
  have gT := zG_tu (n := n) g
  have gst : zS K (RTu R n) 1 := gT.1
  have gt1 : RTu R n 1 0 = some 2 := gst.2.1
  have gt3 : RTu R n 1 1 = some 3 := gst.2.2.2.1
  have gt4 : zL K (RTu R n) 3 := gst.2.2.2.2.1
  have gWt : ∀ s, s < 6 → zW K (RTu R n) (7 + 4 * s) := fun s hs => (gst.2.2.2.2.2.2 s hs).2
  have gRt : ∀ s, s < 6 → RTu R n 2 s = some (7 + 4 * s) := fun s hs => (gst.2.2.2.2.2.2 s hs).1
  obtain ⟨-, a1t, a2t, a3t, a4t, a5t, a6t, a7t, a8t⟩ := gT.2.2.2.2.2.2.1
  obtain ⟨pA, clA, cA, hwA⟩ := hv.1 s hs
  rw [show 1 + 6 + 4 * s = 7 + 4 * s by omega] at hwA
  obtain ⟨wfA, vfA, k0A, k1A, k2A, k3A, k4A, k5A⟩ := id hwA
  obtain ⟨f1A, f2A, f3A, f4A, f5A, f6A⟩ := id wfA
  obtain ⟨v1A, v2A, v3A, -⟩ := id vfA
  have zwA := gW s hs
  have zwtA := gWt s hs
  have rwA := gR s hs
  have rwtA := gRt s hs
  have zw0A : K.2.2.1 (7 + 4 * s) = (1, 6) := zwA.1
  obtain ⟨g1, g2, g3⟩ := g_vF vfA
  unfold aErr
  rw [g1, g2, g3]
  have cy := w_rng hw0
  have cls : ∀ Q, Ev 75 (mB 75 28) [.ref 0, .int (nI s), .int (nI w), .int (nI k), .null] [] (K, R, I) Q = EvM 76 [.ref 0, .int (nI s), .int (nI w), .int (nI k)] (K, R, I) Q := by
    intro Q
    apply propext
    simp (disch := omega) only [e_iconst, e_bipush, e_sipush, e_iload_n, e_iload, e_aload_n, e_aload, e_istore_n, e_istore, e_astore_n, e_astore, e_iinc, e_iadd, e_isub, e_imul, e_iand, e_ishr, e_idiv, e_i2c, e_dup_i, e_dup_r, e_dup2, e_pop, e_goto, e_nop, e_if_eq, e_if_ne, e_if_lt, e_if_ge, e_if_gt, e_if_le, e_icmp_eq, e_icmp_ne, e_icmp_lt, e_icmp_ge, e_icmp_gt, e_icmp_le, e_tsw, e_ret0, e_ret1, e_retn, e_getI, e_getZ, e_getR, e_getV, e_getC, e_putI, e_putZ, e_putF, e_gst0, e_gst1, e_sld, e_iald, e_cald, e_bald, e_iast, e_cast, e_aald, e_aast, e_alen, e_slen, e_blen, e_newa, e_newq, e_new, e_oinit, e_ctor, e_virt, e_stat, e_min, e_copy, e_ldc, List.cons_append, List.nil_append, List.append_nil, List.length_cons, List.length_nil, List.replicate_succ, List.replicate_zero, List.getElem?_cons_zero, List.getElem?_cons_succ, List.set_cons_zero, List.set_cons_succ, List.take_succ_cons, List.take_zero, List.drop_succ_cons, List.drop_zero, List.reverse_cons, List.reverse_nil, Option.toList_some, Option.toList_none, Nat.reduceSub, Nat.reduceAdd, Nat.reduceLeDiff, true_and, and_true, and_self, Option.some.injEq, exists_eq_left', Nat.zero_add, Value.int.injEq, Value.ref.injEq, List.cons.injEq, exists_and_left, and_assoc, exists_eq_left, List.all_cons, List.all_nil, m1_i, m1_r, Bool.and_self, Bool.and_true, E_in 75, N_75, B_75_0, bk_75_0, B_75_9, bk_75_9, C_81, C_83, m_isSp hs, m_wayI cy, n_ne0, o_le_l, if_pos, o_eq, if_pos, if_neg, not_true_eq_false, not_false_eq_true, or_true, true_or, or_false, false_or, false_and, and_false, Nat.reduceEqDiff, Nat.reduceLT, Nat.reduceMul, Nat.not_lt_zero, Nat.zero_le, Nat.le_refl, ne_eq, reduceIte, reduceCtorEq]
  by_cases cb : pA = 0 ∨ (w = 2 ∧ clA = 0)
  · rw [if_pos cb]
    have cb' : pA = 0 ∨ (nI w = 2 ∧ clA = 0) := cb.imp id (fun q => ⟨(w_2 hw0).mpr q.1, q.2⟩)
    refine ⟨I, ?_, SCR_id⟩
    rw [← cls, B_75_28]
    simp (disch := omega) only [e_iconst, e_bipush, e_sipush, e_iload_n, e_iload, e_aload_n, e_aload, e_istore_n, e_istore, e_astore_n, e_astore, e_iinc, e_iadd, e_isub, e_imul, e_iand, e_ishr, e_idiv, e_i2c, e_dup_i, e_dup_r, e_dup2, e_pop, e_goto, e_nop, e_if_eq, e_if_ne, e_if_lt, e_if_ge, e_if_gt, e_if_le, e_icmp_eq, e_icmp_ne, e_icmp_lt, e_icmp_ge, e_icmp_gt, e_icmp_le, e_tsw, e_ret0, e_ret1, e_retn, e_getI, e_getZ, e_getR, e_getV, e_getC, e_putI, e_putZ, e_putF, e_gst0, e_gst1, e_sld, e_iald, e_cald, e_bald, e_iast, e_cast, e_aald, e_aast, e_alen, e_slen, e_blen, e_newa, e_newq, e_new, e_oinit, e_ctor, e_virt, e_stat, e_min, e_copy, e_ldc, List.cons_append, List.nil_append, List.append_nil, List.length_cons, List.length_nil, List.replicate_succ, List.replicate_zero, List.getElem?_cons_zero, List.getElem?_cons_succ, List.set_cons_zero, List.set_cons_succ, List.take_succ_cons, List.take_zero, List.drop_succ_cons, List.drop_zero, List.reverse_cons, List.reverse_nil, Option.toList_some, Option.toList_none, Nat.reduceSub, Nat.reduceAdd, Nat.reduceLeDiff, true_and, and_true, and_self, Option.some.injEq, exists_eq_left', Nat.zero_add, Value.int.injEq, Value.ref.injEq, List.cons.injEq, exists_and_left, and_assoc, exists_eq_left, List.all_cons, List.all_nil, m1_i, m1_r, Bool.and_self, Bool.and_true, bk_75_28, C_40, m_canO zwA wfA cb', a0, a1, gs0, gs1, gs2, zw0A, rwA, n_in, n_cl, true_or, or_true, o_eq, if_pos, if_neg, not_true_eq_false, not_false_eq_true, or_true, true_or, or_false, false_or, false_and, and_false, Nat.reduceEqDiff, Nat.reduceLT, Nat.reduceMul, Nat.not_lt_zero, Nat.zero_le, Nat.le_refl, ne_eq, reduceIte, reduceCtorEq]
  rw [if_neg cb]
  have hp1 : pA = 1 := by
    rcases (show pA = 0 ∨ pA = 1 by omega) with e | e
    · exact absurd (Or.inl e) cb
    · exact e
  subst hp1
  have hw : nI w = 2 → clA = 1 := fun e => by
    have := (w_2 hw0).mp e
    rcases (show clA = 0 ∨ clA = 1 by omega) with e2 | e2
    · exact absurd (Or.inr ⟨this, e2⟩) cb
    · exact e2
  obtain ⟨d1, d2, d3, d4, d5⟩ := rd_cls (r := 186) hwA hw
  have grz := gr.1
  have gra := gr.2.1
  have grr := gr.2.2.1
  refine ⟨rdS I 186 (7 + 4 * s) cA (nI w), ?_, SCR_rd (by omega)⟩
  rw [← cls, B_75_28]
  simp (disch := omega) only [e_iconst, e_bipush, e_sipush, e_iload_n, e_iload, e_aload_n, e_aload, e_istore_n, e_istore, e_astore_n, e_astore, e_iinc, e_iadd, e_isub, e_imul, e_iand, e_ishr, e_idiv, e_i2c, e_dup_i, e_dup_r, e_dup2, e_pop, e_goto, e_nop, e_if_eq, e_if_ne, e_if_lt, e_if_ge, e_if_gt, e_if_le, e_icmp_eq, e_icmp_ne, e_icmp_lt, e_icmp_ge, e_icmp_gt, e_icmp_le, e_tsw, e_ret0, e_ret1, e_retn, e_getI, e_getZ, e_getR, e_getV, e_getC, e_putI, e_putZ, e_putF, e_gst0, e_gst1, e_sld, e_iald, e_cald, e_bald, e_iast, e_cast, e_aald, e_aast, e_alen, e_slen, e_blen, e_newa, e_newq, e_new, e_oinit, e_ctor, e_virt, e_stat, e_min, e_copy, e_ldc, List.cons_append, List.nil_append, List.append_nil, List.length_cons, List.length_nil, List.replicate_succ, List.replicate_zero, List.getElem?_cons_zero, List.getElem?_cons_succ, List.set_cons_zero, List.set_cons_succ, List.take_succ_cons, List.take_zero, List.drop_succ_cons, List.drop_zero, List.reverse_cons, List.reverse_nil, Option.toList_some, Option.toList_none, Nat.reduceSub, Nat.reduceAdd, Nat.reduceLeDiff, true_and, and_true, and_self, Option.some.injEq, exists_eq_left', Nat.zero_add, Value.int.injEq, Value.ref.injEq, List.cons.injEq, exists_and_left, and_assoc, exists_eq_left, List.all_cons, List.all_nil, m1_i, m1_r, Bool.and_self, Bool.and_true, bk_75_28, C_40, m_canI zwA wfA hw, a0, a1, gs0, gs1, gs2, zw0A, rwA, n_in, n_cl, true_or, or_true, o_eq, if_pos, if_neg, not_true_eq_false, not_false_eq_true, or_true, true_or, or_false, false_or, false_and, and_false, Nat.reduceEqDiff, Nat.reduceLT, Nat.reduceMul, Nat.not_lt_zero, Nat.zero_le, Nat.le_refl, ne_eq, reduceIte, reduceCtorEq]
  rcases (show k = 0 ∨ k = 1 ∨ k = 2 by omega) with rfl | rfl | rfl
  · simp (disch := omega) only [e_iconst, e_bipush, e_sipush, e_iload_n, e_iload, e_aload_n, e_aload, e_istore_n, e_istore, e_astore_n, e_astore, e_iinc, e_iadd, e_isub, e_imul, e_iand, e_ishr, e_idiv, e_i2c, e_dup_i, e_dup_r, e_dup2, e_pop, e_goto, e_nop, e_if_eq, e_if_ne, e_if_lt, e_if_ge, e_if_gt, e_if_le, e_icmp_eq, e_icmp_ne, e_icmp_lt, e_icmp_ge, e_icmp_gt, e_icmp_le, e_tsw, e_ret0, e_ret1, e_retn, e_getI, e_getZ, e_getR, e_getV, e_getC, e_putI, e_putZ, e_putF, e_gst0, e_gst1, e_sld, e_iald, e_cald, e_bald, e_iast, e_cast, e_aald, e_aast, e_alen, e_slen, e_blen, e_newa, e_newq, e_new, e_oinit, e_ctor, e_virt, e_stat, e_min, e_copy, e_ldc, List.cons_append, List.nil_append, List.append_nil, List.length_cons, List.length_nil, List.replicate_succ, List.replicate_zero, List.getElem?_cons_zero, List.getElem?_cons_succ, List.set_cons_zero, List.set_cons_succ, List.take_succ_cons, List.take_zero, List.drop_succ_cons, List.drop_zero, List.reverse_cons, List.reverse_nil, Option.toList_some, Option.toList_none, Nat.reduceSub, Nat.reduceAdd, Nat.reduceLeDiff, true_and, and_true, and_self, Option.some.injEq, exists_eq_left', Nat.zero_add, Value.int.injEq, Value.ref.injEq, List.cons.injEq, exists_and_left, and_assoc, exists_eq_left, List.all_cons, List.all_nil, m1_i, m1_r, Bool.and_self, Bool.and_true, B_75_51, bk_75_51, a0, a6, C_18, m_rd gr zwA (by omega) hwA hw, grz, d3, o_eq_l, if_pos, if_neg, not_true_eq_false, not_false_eq_true, or_true, true_or, or_false, false_or, false_and, and_false, Nat.reduceEqDiff, Nat.reduceLT, Nat.reduceMul, Nat.not_lt_zero, Nat.zero_le, Nat.le_refl, ne_eq, reduceIte, reduceCtorEq]
    exact (wrR_0 _ _ _).symm
  · simp (disch := omega) only [e_iconst, e_bipush, e_sipush, e_iload_n, e_iload, e_aload_n, e_aload, e_istore_n, e_istore, e_astore_n, e_astore, e_iinc, e_iadd, e_isub, e_imul, e_iand, e_ishr, e_idiv, e_i2c, e_dup_i, e_dup_r, e_dup2, e_pop, e_goto, e_nop, e_if_eq, e_if_ne, e_if_lt, e_if_ge, e_if_gt, e_if_le, e_icmp_eq, e_icmp_ne, e_icmp_lt, e_icmp_ge, e_icmp_gt, e_icmp_le, e_tsw, e_ret0, e_ret1, e_retn, e_getI, e_getZ, e_getR, e_getV, e_getC, e_putI, e_putZ, e_putF, e_gst0, e_gst1, e_sld, e_iald, e_cald, e_bald, e_iast, e_cast, e_aald, e_aast, e_alen, e_slen, e_blen, e_newa, e_newq, e_new, e_oinit, e_ctor, e_virt, e_stat, e_min, e_copy, e_ldc, List.cons_append, List.nil_append, List.append_nil, List.length_cons, List.length_nil, List.replicate_succ, List.replicate_zero, List.getElem?_cons_zero, List.getElem?_cons_succ, List.set_cons_zero, List.set_cons_succ, List.take_succ_cons, List.take_zero, List.drop_succ_cons, List.drop_zero, List.reverse_cons, List.reverse_nil, Option.toList_some, Option.toList_none, Nat.reduceSub, Nat.reduceAdd, Nat.reduceLeDiff, true_and, and_true, and_self, Option.some.injEq, exists_eq_left', Nat.zero_add, Value.int.injEq, Value.ref.injEq, List.cons.injEq, exists_and_left, and_assoc, exists_eq_left, List.all_cons, List.all_nil, m1_i, m1_r, Bool.and_self, Bool.and_true, B_75_51, bk_75_51, B_75_73, bk_75_73, a0, a6, C_18, m_rd gr zwA (by omega) hwA hw, grz, d4, o_eq_l, if_pos, if_neg, not_true_eq_false, not_false_eq_true, or_true, true_or, or_false, false_or, false_and, and_false, Nat.reduceEqDiff, Nat.reduceLT, Nat.reduceMul, Nat.not_lt_zero, Nat.zero_le, Nat.le_refl, ne_eq, reduceIte, reduceCtorEq]
    exact (wrR_1 _ _ _).symm
  · have e2 : wrR (nbR v s cA (nI w)) (trR v s) cA (nI 2) = if fB (pWr (nbR v s cA (nI w)) (trR v s)) cA cA = cA then -5 else nI (fB (pWr (nbR v s cA (nI w)) (trR v s)) cA cA) := by
      unfold wrR
      rw [if_neg (by decide), if_neg (by decide)]
    have fl := (fB_le (pWr (nbR v s cA (nI w)) (trR v s)) cA cA (Nat.le_refl _)).1
    rw [e2]
    by_cases e : fB (pWr (nbR v s cA (nI w)) (trR v s)) cA cA = cA
    · rw [if_pos e] at d5
      rw [if_pos e]
      simp (disch := omega) only [e_iconst, e_bipush, e_sipush, e_iload_n, e_iload, e_aload_n, e_aload, e_istore_n, e_istore, e_astore_n, e_astore, e_iinc, e_iadd, e_isub, e_imul, e_iand, e_ishr, e_idiv, e_i2c, e_dup_i, e_dup_r, e_dup2, e_pop, e_goto, e_nop, e_if_eq, e_if_ne, e_if_lt, e_if_ge, e_if_gt, e_if_le, e_icmp_eq, e_icmp_ne, e_icmp_lt, e_icmp_ge, e_icmp_gt, e_icmp_le, e_tsw, e_ret0, e_ret1, e_retn, e_getI, e_getZ, e_getR, e_getV, e_getC, e_putI, e_putZ, e_putF, e_gst0, e_gst1, e_sld, e_iald, e_cald, e_bald, e_iast, e_cast, e_aald, e_aast, e_alen, e_slen, e_blen, e_newa, e_newq, e_new, e_oinit, e_ctor, e_virt, e_stat, e_min, e_copy, e_ldc, List.cons_append, List.nil_append, List.append_nil, List.length_cons, List.length_nil, List.replicate_succ, List.replicate_zero, List.getElem?_cons_zero, List.getElem?_cons_succ, List.set_cons_zero, List.set_cons_succ, List.take_succ_cons, List.take_zero, List.drop_succ_cons, List.drop_zero, List.reverse_cons, List.reverse_nil, Option.toList_some, Option.toList_none, Nat.reduceSub, Nat.reduceAdd, Nat.reduceLeDiff, true_and, and_true, and_self, Option.some.injEq, exists_eq_left', Nat.zero_add, Value.int.injEq, Value.ref.injEq, List.cons.injEq, exists_and_left, and_assoc, exists_eq_left, List.all_cons, List.all_nil, m1_i, m1_r, Bool.and_self, Bool.and_true, B_75_51, bk_75_51, B_75_73, bk_75_73, B_75_86, bk_75_86, B_75_109, bk_75_109, a0, a6, C_18, m_rd gr zwA (by omega) hwA hw, grz, d5, o_eq_l, if_pos, if_neg, not_true_eq_false, not_false_eq_true, or_true, true_or, or_false, false_or, false_and, and_false, Nat.reduceEqDiff, Nat.reduceLT, Nat.reduceMul, Nat.not_lt_zero, Nat.zero_le, Nat.le_refl, ne_eq, reduceIte, reduceCtorEq]
    · rw [if_neg e] at d5
      rw [if_neg e]
      simp (disch := omega) only [e_iconst, e_bipush, e_sipush, e_iload_n, e_iload, e_aload_n, e_aload, e_istore_n, e_istore, e_astore_n, e_astore, e_iinc, e_iadd, e_isub, e_imul, e_iand, e_ishr, e_idiv, e_i2c, e_dup_i, e_dup_r, e_dup2, e_pop, e_goto, e_nop, e_if_eq, e_if_ne, e_if_lt, e_if_ge, e_if_gt, e_if_le, e_icmp_eq, e_icmp_ne, e_icmp_lt, e_icmp_ge, e_icmp_gt, e_icmp_le, e_tsw, e_ret0, e_ret1, e_retn, e_getI, e_getZ, e_getR, e_getV, e_getC, e_putI, e_putZ, e_putF, e_gst0, e_gst1, e_sld, e_iald, e_cald, e_bald, e_iast, e_cast, e_aald, e_aast, e_alen, e_slen, e_blen, e_newa, e_newq, e_new, e_oinit, e_ctor, e_virt, e_stat, e_min, e_copy, e_ldc, List.cons_append, List.nil_append, List.append_nil, List.length_cons, List.length_nil, List.replicate_succ, List.replicate_zero, List.getElem?_cons_zero, List.getElem?_cons_succ, List.set_cons_zero, List.set_cons_succ, List.take_succ_cons, List.take_zero, List.drop_succ_cons, List.drop_zero, List.reverse_cons, List.reverse_nil, Option.toList_some, Option.toList_none, Nat.reduceSub, Nat.reduceAdd, Nat.reduceLeDiff, true_and, and_true, and_self, Option.some.injEq, exists_eq_left', Nat.zero_add, Value.int.injEq, Value.ref.injEq, List.cons.injEq, exists_and_left, and_assoc, exists_eq_left, List.all_cons, List.all_nil, m1_i, m1_r, Bool.and_self, Bool.and_true, B_75_51, bk_75_51, B_75_73, bk_75_73, B_75_86, bk_75_86, B_75_102, bk_75_102, B_75_109, bk_75_109, a0, a6, C_18, m_rd gr zwA (by omega) hwA hw, grz, d5, n_m1, o_eq_l, if_pos, if_neg, not_true_eq_false, not_false_eq_true, or_true, true_or, or_false, false_or, false_and, and_false, Nat.reduceEqDiff, Nat.reduceLT, Nat.reduceMul, Nat.not_lt_zero, Nat.zero_le, Nat.le_refl, ne_eq, reduceIte, reduceCtorEq]
/-- the letters that are misread or not read by the way w -/
def gTot (v : Nat → Int32) (s w : Nat) : Nat := tot (nbR v s (gc v s) (nI w)) (trR v s) (gc v s)
/-- what bestWay answers -/
def aBest (v : Nat → Int32) (s : Nat) : Int32 := if gp v s = 0 then -4 else nI (if gl v s = 1 ∧ gTot v s 2 < (if gTot v s 1 < gTot v s 0 then gTot v s 1 else gTot v s 0) then 2 else if gTot v s 1 < gTot v s 0 then 1 else 0)
set_option maxHeartbeats 8000000 in
theorem q_bestWay {K : mK} {R : Nat → Nat → Option Nat} {I : Nat → Nat → Int32} {v H T : Nat → Int32} {n t : Nat} (hrel : REL K R I v n H t T) (s : Nat) (hs : s < 6) : QO 76 [.int (nI s)] K R I (aBest v s) := by
  obtain ⟨f, g, hv, hn2, hn, hH, hP, hT⟩ := id hrel
  have q4 := qTu_lt g hn2
  obtain ⟨gs, -, gh, gw, gr, gr', ⟨a0, a1, a2, a3, a4, a5, a6, a7, a8⟩, ⟨b0, b1, b2⟩, cc0⟩ := id g
  have gs0 : K.2.2.1 1 = (1, 4) := gs.1
  have gs1 : R 1 0 = some 2 := gs.2.1
  have gs2 : K.2.2.1 2 = (4, 6) := gs.2.2.1
  have gs3 : R 1 1 = some 3 := gs.2.2.2.1
  have gs4 : zL K R 3 := gs.2.2.2.2.1
  have gW : ∀ s, s < 6 → zW K R (7 + 4 * s) := fun s hs => (gs.2.2.2.2.2.2 s hs).2
  have gR : ∀ s, s < 6 → R 2 s = some (7 + 4 * s) := fun s hs => (gs.2.2.2.2.2.2 s hs).1
  have gh0 := gh.1
  have gsl : K.2.2.1 3 = (1, 2) := gs4.1
  have gT := zG_tu (n := n) g
  have gst : zS K (RTu R n) 1 := gT.1
  have gt1 : RTu R n 1 0 = some 2 := gst.2.1
  have gt3 : RTu R n 1 1 = some 3 := gst.2.2.2.1
  have gt4 : zL K (RTu R n) 3 := gst.2.2.2.2.1
  have gWt : ∀ s, s < 6 → zW K (RTu R n) (7 + 4 * s) := fun s hs => (gst.2.2.2.2.2.2 s hs).2
  have gRt : ∀ s, s < 6 → RTu R n 2 s = some (7 + 4 * s) := fun s hs => (gst.2.2.2.2.2.2 s hs).1
  obtain ⟨-, a1t, a2t, a3t, a4t, a5t, a6t, a7t, a8t⟩ := gT.2.2.2.2.2.2.1
  obtain ⟨pA, clA, cA, hwA⟩ := hv.1 s hs
  rw [show 1 + 6 + 4 * s = 7 + 4 * s by omega] at hwA
  obtain ⟨wfA, vfA, k0A, k1A, k2A, k3A, k4A, k5A⟩ := id hwA
  obtain ⟨f1A, f2A, f3A, f4A, f5A, f6A⟩ := id wfA
  obtain ⟨v1A, v2A, v3A, -⟩ := id vfA
  have zwA := gW s hs
  have zwtA := gWt s hs
  have rwA := gR s hs
  have rwtA := gRt s hs
  have zw0A : K.2.2.1 (7 + 4 * s) = (1, 6) := zwA.1
  obtain ⟨g1, g2, g3⟩ := g_vF vfA
  unfold aBest gTot
  rw [g1, g2, g3]
  rcases (show pA = 0 ∨ pA = 1 by omega) with rfl | rfl
  · rw [if_pos rfl]
    refine ⟨I, ?_, SCR_id⟩
    simp (disch := omega) only [e_iconst, e_bipush, e_sipush, e_iload_n, e_iload, e_aload_n, e_aload, e_istore_n, e_istore, e_astore_n, e_astore, e_iinc, e_iadd, e_isub, e_imul, e_iand, e_ishr, e_idiv, e_i2c, e_dup_i, e_dup_r, e_dup2, e_pop, e_goto, e_nop, e_if_eq, e_if_ne, e_if_lt, e_if_ge, e_if_gt, e_if_le, e_icmp_eq, e_icmp_ne, e_icmp_lt, e_icmp_ge, e_icmp_gt, e_icmp_le, e_tsw, e_ret0, e_ret1, e_retn, e_getI, e_getZ, e_getR, e_getV, e_getC, e_putI, e_putZ, e_putF, e_gst0, e_gst1, e_sld, e_iald, e_cald, e_bald, e_iast, e_cast, e_aald, e_aast, e_alen, e_slen, e_blen, e_newa, e_newq, e_new, e_oinit, e_ctor, e_virt, e_stat, e_min, e_copy, e_ldc, List.cons_append, List.nil_append, List.append_nil, List.length_cons, List.length_nil, List.replicate_succ, List.replicate_zero, List.getElem?_cons_zero, List.getElem?_cons_succ, List.set_cons_zero, List.set_cons_succ, List.take_succ_cons, List.take_zero, List.drop_succ_cons, List.drop_zero, List.reverse_cons, List.reverse_nil, Option.toList_some, Option.toList_none, Nat.reduceSub, Nat.reduceAdd, Nat.reduceLeDiff, true_and, and_true, and_self, Option.some.injEq, exists_eq_left', Nat.zero_add, Value.int.injEq, Value.ref.injEq, List.cons.injEq, exists_and_left, and_assoc, exists_eq_left, List.all_cons, List.all_nil, m1_i, m1_r, Bool.and_self, Bool.and_true, E_in 76, N_76, B_76_0, bk_76_0, B_76_9, bk_76_9, C_81, m_isSp hs, a0, a1, gs0, gs1, gs2, zw0A, rwA, n_in, n_cl, true_or, or_true, f1A, o_eq_l, o_eq, if_pos, if_neg, not_true_eq_false, not_false_eq_true, or_true, true_or, or_false, false_or, false_and, and_false, Nat.reduceEqDiff, Nat.reduceLT, Nat.reduceMul, Nat.not_lt_zero, Nat.zero_le, Nat.le_refl, ne_eq, reduceIte, reduceCtorEq]
  rw [if_neg (by omega)]
  have grz := gr.1
  obtain ⟨E, hE⟩ : ∃ E : Nat → Nat, ∀ w, E w = tot (nbR v s cA (nI w)) (trR v s) cA := ⟨_, fun _ => rfl⟩
  have hE30 : ∀ w, E w ≤ 30 := fun w => by rw [hE]; exact Nat.le_trans (tot_le _ _ _) f6A
  rw [← hE, ← hE, ← hE]
  -- the class's loop
  have stp : ∀ (X : Nat → Nat → Int32), (∀ x, x ≠ 186 ∧ x ≠ 187 → X x = I x) → ∀ (w b fw : Nat), w ≤ 2 → (w = 2 → clA = 1) → fw ≤ 31 → ∀ Q,
      Ev 76 (mB 76 38) [.ref 0, .int (nI s), .ref (7 + 4 * s), .int (nI b), .int (nI fw), .int (nI w)] [] (K, R, X) Q ↔ Ev 76 (mB 76 38) [.ref 0, .int (nI s), .ref (7 + 4 * s), .int (nI (if E w < fw then w else b)), .int (nI (if E w < fw then E w else fw)), .int (nI (w + 1))] [] (K, R, rdS X 186 (7 + 4 * s) cA (nI w)) Q := by
    intro X hX w b fw hw hwc hfw Q
    have hwX : rW X (7 + 4 * s) v s 1 clA cA := rW_out hwA (fun x x1 x2 => hX x (by omega))
    have hw2 : nI w = 2 → clA = 1 := fun e => hwc (by rw [show (2 : Int32) = nI 2 from rfl, n_eq (by omega) (by omega)] at e; exact e)
    obtain ⟨d1, d2, d3, d4, d5⟩ := rd_cls (r := 186) hwX hw2
    have d6 : nI (cnt (pMi (nbR v s cA (nI w)) (trR v s)) cA + cnt (pUn (nbR v s cA (nI w)) (trR v s)) cA) = nI (E w) := by rw [hE]; rfl
    have he := hE30 w
    conv => lhs; rw [B_76_38]
    by_cases c1 : E w < fw
    · rw [if_pos c1, if_pos c1]
      simp (disch := omega) only [e_iconst, e_bipush, e_sipush, e_iload_n, e_iload, e_aload_n, e_aload, e_istore_n, e_istore, e_astore_n, e_astore, e_iinc, e_iadd, e_isub, e_imul, e_iand, e_ishr, e_idiv, e_i2c, e_dup_i, e_dup_r, e_dup2, e_pop, e_goto, e_nop, e_if_eq, e_if_ne, e_if_lt, e_if_ge, e_if_gt, e_if_le, e_icmp_eq, e_icmp_ne, e_icmp_lt, e_icmp_ge, e_icmp_gt, e_icmp_le, e_tsw, e_ret0, e_ret1, e_retn, e_getI, e_getZ, e_getR, e_getV, e_getC, e_putI, e_putZ, e_putF, e_gst0, e_gst1, e_sld, e_iald, e_cald, e_bald, e_iast, e_cast, e_aald, e_aast, e_alen, e_slen, e_blen, e_newa, e_newq, e_new, e_oinit, e_ctor, e_virt, e_stat, e_min, e_copy, e_ldc, List.cons_append, List.nil_append, List.append_nil, List.length_cons, List.length_nil, List.replicate_succ, List.replicate_zero, List.getElem?_cons_zero, List.getElem?_cons_succ, List.set_cons_zero, List.set_cons_succ, List.take_succ_cons, List.take_zero, List.drop_succ_cons, List.drop_zero, List.reverse_cons, List.reverse_nil, Option.toList_some, Option.toList_none, Nat.reduceSub, Nat.reduceAdd, Nat.reduceLeDiff, true_and, and_true, and_self, Option.some.injEq, exists_eq_left', Nat.zero_add, Value.int.injEq, Value.ref.injEq, List.cons.injEq, exists_and_left, and_assoc, exists_eq_left, List.all_cons, List.all_nil, m1_i, m1_r, Bool.and_self, Bool.and_true, bk_76_38, a0, a6, grz, zw0A, true_or, or_true, o_lt_r, if_neg, C_40, C_18, C_22, m_canI zwA hwX.1 hw2, o_eq, m_rd gr zwA (by omega) hwX hw2, m_errorCount gr, d3, d4, n_add, d6, n_le, if_pos, if_neg, not_true_eq_false, not_false_eq_true, or_true, true_or, or_false, false_or, false_and, and_false, Nat.reduceEqDiff, Nat.reduceLT, Nat.reduceMul, Nat.not_lt_zero, Nat.zero_le, Nat.le_refl, ne_eq, reduceIte, reduceCtorEq]
      rw [B_76_87]
      simp (disch := omega) only [e_iconst, e_bipush, e_sipush, e_iload_n, e_iload, e_aload_n, e_aload, e_istore_n, e_istore, e_astore_n, e_astore, e_iinc, e_iadd, e_isub, e_imul, e_iand, e_ishr, e_idiv, e_i2c, e_dup_i, e_dup_r, e_dup2, e_pop, e_goto, e_nop, e_if_eq, e_if_ne, e_if_lt, e_if_ge, e_if_gt, e_if_le, e_icmp_eq, e_icmp_ne, e_icmp_lt, e_icmp_ge, e_icmp_gt, e_icmp_le, e_tsw, e_ret0, e_ret1, e_retn, e_getI, e_getZ, e_getR, e_getV, e_getC, e_putI, e_putZ, e_putF, e_gst0, e_gst1, e_sld, e_iald, e_cald, e_bald, e_iast, e_cast, e_aald, e_aast, e_alen, e_slen, e_blen, e_newa, e_newq, e_new, e_oinit, e_ctor, e_virt, e_stat, e_min, e_copy, e_ldc, List.cons_append, List.nil_append, List.append_nil, List.length_cons, List.length_nil, List.replicate_succ, List.replicate_zero, List.getElem?_cons_zero, List.getElem?_cons_succ, List.set_cons_zero, List.set_cons_succ, List.take_succ_cons, List.take_zero, List.drop_succ_cons, List.drop_zero, List.reverse_cons, List.reverse_nil, Option.toList_some, Option.toList_none, Nat.reduceSub, Nat.reduceAdd, Nat.reduceLeDiff, true_and, and_true, and_self, Option.some.injEq, exists_eq_left', Nat.zero_add, Value.int.injEq, Value.ref.injEq, List.cons.injEq, exists_and_left, and_assoc, exists_eq_left, List.all_cons, List.all_nil, m1_i, m1_r, Bool.and_self, Bool.and_true, bk_76_87, o_add_l, if_pos, if_neg, not_true_eq_false, not_false_eq_true, or_true, true_or, or_false, false_or, false_and, and_false, Nat.reduceEqDiff, Nat.reduceLT, Nat.reduceMul, Nat.not_lt_zero, Nat.zero_le, Nat.le_refl, ne_eq, reduceIte, reduceCtorEq]
    · rw [if_neg c1, if_neg c1]
      simp (disch := omega) only [e_iconst, e_bipush, e_sipush, e_iload_n, e_iload, e_aload_n, e_aload, e_istore_n, e_istore, e_astore_n, e_astore, e_iinc, e_iadd, e_isub, e_imul, e_iand, e_ishr, e_idiv, e_i2c, e_dup_i, e_dup_r, e_dup2, e_pop, e_goto, e_nop, e_if_eq, e_if_ne, e_if_lt, e_if_ge, e_if_gt, e_if_le, e_icmp_eq, e_icmp_ne, e_icmp_lt, e_icmp_ge, e_icmp_gt, e_icmp_le, e_tsw, e_ret0, e_ret1, e_retn, e_getI, e_getZ, e_getR, e_getV, e_getC, e_putI, e_putZ, e_putF, e_gst0, e_gst1, e_sld, e_iald, e_cald, e_bald, e_iast, e_cast, e_aald, e_aast, e_alen, e_slen, e_blen, e_newa, e_newq, e_new, e_oinit, e_ctor, e_virt, e_stat, e_min, e_copy, e_ldc, List.cons_append, List.nil_append, List.append_nil, List.length_cons, List.length_nil, List.replicate_succ, List.replicate_zero, List.getElem?_cons_zero, List.getElem?_cons_succ, List.set_cons_zero, List.set_cons_succ, List.take_succ_cons, List.take_zero, List.drop_succ_cons, List.drop_zero, List.reverse_cons, List.reverse_nil, Option.toList_some, Option.toList_none, Nat.reduceSub, Nat.reduceAdd, Nat.reduceLeDiff, true_and, and_true, and_self, Option.some.injEq, exists_eq_left', Nat.zero_add, Value.int.injEq, Value.ref.injEq, List.cons.injEq, exists_and_left, and_assoc, exists_eq_left, List.all_cons, List.all_nil, m1_i, m1_r, Bool.and_self, Bool.and_true, bk_76_38, a0, a6, grz, zw0A, true_or, or_true, o_lt_r, if_neg, if_pos, C_40, C_18, C_22, m_canI zwA hwX.1 hw2, o_eq, m_rd gr zwA (by omega) hwX hw2, m_errorCount gr, d3, d4, n_add, d6, n_le, if_pos, if_neg, not_true_eq_false, not_false_eq_true, or_true, true_or, or_false, false_or, false_and, and_false, Nat.reduceEqDiff, Nat.reduceLT, Nat.reduceMul, Nat.not_lt_zero, Nat.zero_le, Nat.le_refl, ne_eq, reduceIte, reduceCtorEq]
      rw [B_76_87]
      simp (disch := omega) only [e_iconst, e_bipush, e_sipush, e_iload_n, e_iload, e_aload_n, e_aload, e_istore_n, e_istore, e_astore_n, e_astore, e_iinc, e_iadd, e_isub, e_imul, e_iand, e_ishr, e_idiv, e_i2c, e_dup_i, e_dup_r, e_dup2, e_pop, e_goto, e_nop, e_if_eq, e_if_ne, e_if_lt, e_if_ge, e_if_gt, e_if_le, e_icmp_eq, e_icmp_ne, e_icmp_lt, e_icmp_ge, e_icmp_gt, e_icmp_le, e_tsw, e_ret0, e_ret1, e_retn, e_getI, e_getZ, e_getR, e_getV, e_getC, e_putI, e_putZ, e_putF, e_gst0, e_gst1, e_sld, e_iald, e_cald, e_bald, e_iast, e_cast, e_aald, e_aast, e_alen, e_slen, e_blen, e_newa, e_newq, e_new, e_oinit, e_ctor, e_virt, e_stat, e_min, e_copy, e_ldc, List.cons_append, List.nil_append, List.append_nil, List.length_cons, List.length_nil, List.replicate_succ, List.replicate_zero, List.getElem?_cons_zero, List.getElem?_cons_succ, List.set_cons_zero, List.set_cons_succ, List.take_succ_cons, List.take_zero, List.drop_succ_cons, List.drop_zero, List.reverse_cons, List.reverse_nil, Option.toList_some, Option.toList_none, Nat.reduceSub, Nat.reduceAdd, Nat.reduceLeDiff, true_and, and_true, and_self, Option.some.injEq, exists_eq_left', Nat.zero_add, Value.int.injEq, Value.ref.injEq, List.cons.injEq, exists_and_left, and_assoc, exists_eq_left, List.all_cons, List.all_nil, m1_i, m1_r, Bool.and_self, Bool.and_true, bk_76_87, o_add_l, if_pos, if_neg, not_true_eq_false, not_false_eq_true, or_true, true_or, or_false, false_or, false_and, and_false, Nat.reduceEqDiff, Nat.reduceLT, Nat.reduceMul, Nat.not_lt_zero, Nat.zero_le, Nat.le_refl, ne_eq, reduceIte, reduceCtorEq]
  have stX : ∀ (X : Nat → Nat → Int32) (w : Nat), (∀ x, x ≠ 186 ∧ x ≠ 187 → X x = I x) → (∀ x, x ≠ 186 ∧ x ≠ 187 → rdS X 186 (7 + 4 * s) cA (nI w) x = I x) := fun X w h x hx => by
    rw [rdS_o hx, h x hx]
  have sSC : ∀ (X : Nat → Nat → Int32), (∀ x, x ≠ 186 ∧ x ≠ 187 → X x = I x) → SCR I X := fun X h x hx => h x (by omega)
  obtain ⟨b1, hb1⟩ : ∃ b1, (if E 1 < E 0 then 1 else 0) = b1 := ⟨_, rfl⟩
  obtain ⟨w1, hw1⟩ : ∃ w1, (if E 1 < E 0 then E 1 else E 0) = w1 := ⟨_, rfl⟩
  rw [hb1, hw1]
  have h0 := hE30 0
  have h1 := hE30 1
  have h2 := hE30 2
  have hw31 : w1 ≤ 30 := by rw [← hw1]; split <;> omega
  have cls : ∀ Q, Ev 76 (mB 76 38) [.ref 0, .int (nI s), .ref (7 + 4 * s), .int (nI 0), .int (nI 31), .int (nI 0)] [] (K, R, I) Q = EvM 77 [.ref 0, .int (nI s)] (K, R, I) Q := by
    intro Q
    apply propext
    simp (disch := omega) only [e_iconst, e_bipush, e_sipush, e_iload_n, e_iload, e_aload_n, e_aload, e_istore_n, e_istore, e_astore_n, e_astore, e_iinc, e_iadd, e_isub, e_imul, e_iand, e_ishr, e_idiv, e_i2c, e_dup_i, e_dup_r, e_dup2, e_pop, e_goto, e_nop, e_if_eq, e_if_ne, e_if_lt, e_if_ge, e_if_gt, e_if_le, e_icmp_eq, e_icmp_ne, e_icmp_lt, e_icmp_ge, e_icmp_gt, e_icmp_le, e_tsw, e_ret0, e_ret1, e_retn, e_getI, e_getZ, e_getR, e_getV, e_getC, e_putI, e_putZ, e_putF, e_gst0, e_gst1, e_sld, e_iald, e_cald, e_bald, e_iast, e_cast, e_aald, e_aast, e_alen, e_slen, e_blen, e_newa, e_newq, e_new, e_oinit, e_ctor, e_virt, e_stat, e_min, e_copy, e_ldc, List.cons_append, List.nil_append, List.append_nil, List.length_cons, List.length_nil, List.replicate_succ, List.replicate_zero, List.getElem?_cons_zero, List.getElem?_cons_succ, List.set_cons_zero, List.set_cons_succ, List.take_succ_cons, List.take_zero, List.drop_succ_cons, List.drop_zero, List.reverse_cons, List.reverse_nil, Option.toList_some, Option.toList_none, Nat.reduceSub, Nat.reduceAdd, Nat.reduceLeDiff, true_and, and_true, and_self, Option.some.injEq, exists_eq_left', Nat.zero_add, Value.int.injEq, Value.ref.injEq, List.cons.injEq, exists_and_left, and_assoc, exists_eq_left, List.all_cons, List.all_nil, m1_i, m1_r, Bool.and_self, Bool.and_true, E_in 76, N_76, B_76_0, bk_76_0, B_76_9, bk_76_9, B_76_29, bk_76_29, C_81, m_isSp hs, a0, a1, gs0, gs1, gs2, zw0A, rwA, n_in, n_cl, true_or, or_true, f1A, o_eq_l, o_eq, if_neg, if_pos, if_neg, not_true_eq_false, not_false_eq_true, or_true, true_or, or_false, false_or, false_and, and_false, Nat.reduceEqDiff, Nat.reduceLT, Nat.reduceMul, Nat.not_lt_zero, Nat.zero_le, Nat.le_refl, ne_eq, reduceIte, reduceCtorEq]
    exact Iff.rfl
  have X0 : ∀ x, x ≠ 186 ∧ x ≠ 187 → rdS I 186 (7 + 4 * s) cA (nI 0) x = I x := stX I 0 (fun x _ => rfl)
  have X1 := stX _ 1 X0
  rcases (show clA = 0 ∨ clA = 1 by omega) with hcl | hcl
  · rw [if_neg (by omega)]
    refine ⟨rdS (rdS I 186 (7 + 4 * s) cA (nI 0)) 186 (7 + 4 * s) cA (nI 1), ?_, sSC _ X1⟩
    rw [← cls, stp I (fun x _ => rfl) 0 0 31 (by omega) (by omega) (by omega), if_pos (by omega), if_pos (by omega), stp _ X0 1 0 (E 0) (by omega) (by omega) (by omega), hb1, hw1, B_76_38]
    have hwX := rW_out (X := rdS (rdS I 186 (7 + 4 * s) cA (nI 0)) 186 (7 + 4 * s) cA (nI 1)) hwA (fun x x1 x2 => X1 x (by omega))
    have cb : (1 = 0) ∨ (nI 2 = 2 ∧ clA = 0) := Or.inr ⟨rfl, hcl⟩
    simp (disch := omega) only [e_iconst, e_bipush, e_sipush, e_iload_n, e_iload, e_aload_n, e_aload, e_istore_n, e_istore, e_astore_n, e_astore, e_iinc, e_iadd, e_isub, e_imul, e_iand, e_ishr, e_idiv, e_i2c, e_dup_i, e_dup_r, e_dup2, e_pop, e_goto, e_nop, e_if_eq, e_if_ne, e_if_lt, e_if_ge, e_if_gt, e_if_le, e_icmp_eq, e_icmp_ne, e_icmp_lt, e_icmp_ge, e_icmp_gt, e_icmp_le, e_tsw, e_ret0, e_ret1, e_retn, e_getI, e_getZ, e_getR, e_getV, e_getC, e_putI, e_putZ, e_putF, e_gst0, e_gst1, e_sld, e_iald, e_cald, e_bald, e_iast, e_cast, e_aald, e_aast, e_alen, e_slen, e_blen, e_newa, e_newq, e_new, e_oinit, e_ctor, e_virt, e_stat, e_min, e_copy, e_ldc, List.cons_append, List.nil_append, List.append_nil, List.length_cons, List.length_nil, List.replicate_succ, List.replicate_zero, List.getElem?_cons_zero, List.getElem?_cons_succ, List.set_cons_zero, List.set_cons_succ, List.take_succ_cons, List.take_zero, List.drop_succ_cons, List.drop_zero, List.reverse_cons, List.reverse_nil, Option.toList_some, Option.toList_none, Nat.reduceSub, Nat.reduceAdd, Nat.reduceLeDiff, true_and, and_true, and_self, Option.some.injEq, exists_eq_left', Nat.zero_add, Value.int.injEq, Value.ref.injEq, List.cons.injEq, exists_and_left, and_assoc, exists_eq_left, List.all_cons, List.all_nil, m1_i, m1_r, Bool.and_self, Bool.and_true, bk_76_38, a0, zw0A, true_or, or_true, o_lt_r, if_neg, C_40, m_canO zwA hwX.1 cb, o_eq, B_76_87, bk_76_87, o_add_l, if_pos, if_neg, not_true_eq_false, not_false_eq_true, or_true, true_or, or_false, false_or, false_and, and_false, Nat.reduceEqDiff, Nat.reduceLT, Nat.reduceMul, Nat.not_lt_zero, Nat.zero_le, Nat.le_refl, ne_eq, reduceIte, reduceCtorEq]
    rw [B_76_38]
    simp (disch := omega) only [e_iconst, e_bipush, e_sipush, e_iload_n, e_iload, e_aload_n, e_aload, e_istore_n, e_istore, e_astore_n, e_astore, e_iinc, e_iadd, e_isub, e_imul, e_iand, e_ishr, e_idiv, e_i2c, e_dup_i, e_dup_r, e_dup2, e_pop, e_goto, e_nop, e_if_eq, e_if_ne, e_if_lt, e_if_ge, e_if_gt, e_if_le, e_icmp_eq, e_icmp_ne, e_icmp_lt, e_icmp_ge, e_icmp_gt, e_icmp_le, e_tsw, e_ret0, e_ret1, e_retn, e_getI, e_getZ, e_getR, e_getV, e_getC, e_putI, e_putZ, e_putF, e_gst0, e_gst1, e_sld, e_iald, e_cald, e_bald, e_iast, e_cast, e_aald, e_aast, e_alen, e_slen, e_blen, e_newa, e_newq, e_new, e_oinit, e_ctor, e_virt, e_stat, e_min, e_copy, e_ldc, List.cons_append, List.nil_append, List.append_nil, List.length_cons, List.length_nil, List.replicate_succ, List.replicate_zero, List.getElem?_cons_zero, List.getElem?_cons_succ, List.set_cons_zero, List.set_cons_succ, List.take_succ_cons, List.take_zero, List.drop_succ_cons, List.drop_zero, List.reverse_cons, List.reverse_nil, Option.toList_some, Option.toList_none, Nat.reduceSub, Nat.reduceAdd, Nat.reduceLeDiff, true_and, and_true, and_self, Option.some.injEq, exists_eq_left', Nat.zero_add, Value.int.injEq, Value.ref.injEq, List.cons.injEq, exists_and_left, and_assoc, exists_eq_left, List.all_cons, List.all_nil, m1_i, m1_r, Bool.and_self, Bool.and_true, bk_76_38, o_lt_r, if_pos, B_76_93, bk_76_93, if_pos, if_neg, not_true_eq_false, not_false_eq_true, or_true, true_or, or_false, false_or, false_and, and_false, Nat.reduceEqDiff, Nat.reduceLT, Nat.reduceMul, Nat.not_lt_zero, Nat.zero_le, Nat.le_refl, ne_eq, reduceIte, reduceCtorEq]
  · obtain ⟨b2, hb2⟩ : ∃ b2, (if E 2 < w1 then 2 else b1) = b2 := ⟨_, rfl⟩
    have X2 := stX _ 2 X1
    have hb3 : (if clA = 1 ∧ E 2 < w1 then 2 else b1) = b2 := by
      rw [← hb2]
      by_cases e : E 2 < w1
      · rw [if_pos ⟨hcl, e⟩, if_pos e]
      · rw [if_neg (fun q => e q.2), if_neg e]
    rw [hb3]
    refine ⟨rdS (rdS (rdS I 186 (7 + 4 * s) cA (nI 0)) 186 (7 + 4 * s) cA (nI 1)) 186 (7 + 4 * s) cA (nI 2), ?_, sSC _ X2⟩
    rw [← cls, stp I (fun x _ => rfl) 0 0 31 (by omega) (by omega) (by omega), if_pos (by omega), if_pos (by omega), stp _ X0 1 0 (E 0) (by omega) (by omega) (by omega), hb1, hw1, stp _ X1 2 b1 w1 (by omega) (fun _ => hcl) (by omega), hb2, B_76_38]
    simp (disch := omega) only [e_iconst, e_bipush, e_sipush, e_iload_n, e_iload, e_aload_n, e_aload, e_istore_n, e_istore, e_astore_n, e_astore, e_iinc, e_iadd, e_isub, e_imul, e_iand, e_ishr, e_idiv, e_i2c, e_dup_i, e_dup_r, e_dup2, e_pop, e_goto, e_nop, e_if_eq, e_if_ne, e_if_lt, e_if_ge, e_if_gt, e_if_le, e_icmp_eq, e_icmp_ne, e_icmp_lt, e_icmp_ge, e_icmp_gt, e_icmp_le, e_tsw, e_ret0, e_ret1, e_retn, e_getI, e_getZ, e_getR, e_getV, e_getC, e_putI, e_putZ, e_putF, e_gst0, e_gst1, e_sld, e_iald, e_cald, e_bald, e_iast, e_cast, e_aald, e_aast, e_alen, e_slen, e_blen, e_newa, e_newq, e_new, e_oinit, e_ctor, e_virt, e_stat, e_min, e_copy, e_ldc, List.cons_append, List.nil_append, List.append_nil, List.length_cons, List.length_nil, List.replicate_succ, List.replicate_zero, List.getElem?_cons_zero, List.getElem?_cons_succ, List.set_cons_zero, List.set_cons_succ, List.take_succ_cons, List.take_zero, List.drop_succ_cons, List.drop_zero, List.reverse_cons, List.reverse_nil, Option.toList_some, Option.toList_none, Nat.reduceSub, Nat.reduceAdd, Nat.reduceLeDiff, true_and, and_true, and_self, Option.some.injEq, exists_eq_left', Nat.zero_add, Value.int.injEq, Value.ref.injEq, List.cons.injEq, exists_and_left, and_assoc, exists_eq_left, List.all_cons, List.all_nil, m1_i, m1_r, Bool.and_self, Bool.and_true, bk_76_38, o_lt_r, if_pos, B_76_93, bk_76_93, if_pos, if_neg, not_true_eq_false, not_false_eq_true, or_true, true_or, or_false, false_or, false_and, and_false, Nat.reduceEqDiff, Nat.reduceLT, Nat.reduceMul, Nat.not_lt_zero, Nat.zero_le, Nat.le_refl, ne_eq, reduceIte, reduceCtorEq]
end
section
/-! punch -/
def nomQ (q : Nat → Int32) (c j : Nat) : Int32 := if j = 0 then 5000 else if j ≤ c then 2000 + 1000 * q (j - 1) else 5000
theorem nomQ_i {q : Nat → Int32} {c i : Nat} (h : i < c) : nomQ q c (i + 1) = 2000 + 1000 * q i := by
  unfold nomQ
  rw [if_neg (by omega), if_pos (by omega), show i + 1 - 1 = i by omega]
theorem nomQ_e {q : Nat → Int32} {c : Nat} : nomQ q c (c + 1) = 5000 := by
  unfold nomQ
  rw [if_neg (by omega), if_neg (by omega)]
theorem nomQ_0 {q : Nat → Int32} {c : Nat} : nomQ q c 0 = 5000 := if_pos rfl
theorem nomQ_ok {q : Nat → Int32} {c j : Nat} (hq : ∀ i, i < c → ∃ t, t < 8 ∧ q i = nI t) : okG (nomQ q c j) (nomQ q c j) := by
  unfold nomQ
  by_cases c0 : j = 0
  · rw [if_pos c0]; exact okG_5
  · rw [if_neg c0]
    by_cases c1 : j ≤ c
    · rw [if_pos c1]
      obtain ⟨t, t1, t2⟩ := hq (j - 1) (by omega)
      rw [t2, show (2000 : Int32) = nI 2000 from rfl, show (1000 : Int32) = nI 1000 from rfl, n_mul, n_add]
      exact okG_n (by omega) (by omega)
    · rw [if_neg c1]; exact okG_5
/-- the row v with the first m gaps of the wire s punched -/
def vPn (v : Nat → Int32) (s : Nat) (nom : Nat → Int32) (m : Nat) : Nat → Int32 := fun x =>
  if 98 * s + 4 ≤ x ∧ x < 98 * s + 4 + m then nom (x - (98 * s + 4)) else if 98 * s + 36 ≤ x ∧ x < 98 * s + 36 + m then nom (x - (98 * s + 36)) else if x = 591 then v 591 + sm nom m else v x
theorem vPn_o {v nom : Nat → Int32} {s m x : Nat} (h : ¬ (98 * s + 4 ≤ x ∧ x < 98 * s + 4 + m) ∧ ¬ (98 * s + 36 ≤ x ∧ x < 98 * s + 36 + m) ∧ x ≠ 591) : vPn v s nom m x = v x := by
  unfold vPn
  rw [if_neg h.1, if_neg h.2.1, if_neg h.2.2]
theorem vPn_l {v nom : Nat → Int32} {s m k : Nat} (hk : k < m) : vPn v s nom m (98 * s + (4 + k)) = nom k := by
  unfold vPn
  rw [if_pos (by omega), show 98 * s + (4 + k) - (98 * s + 4) = k by omega]
theorem vPn_n {v nom : Nat → Int32} {s m k : Nat} (hk : k < m) (hm : m ≤ 32) : vPn v s nom m (98 * s + (36 + k)) = nom k := by
  unfold vPn
  rw [if_neg (by omega), if_pos (by omega), show 98 * s + (36 + k) - (98 * s + 36) = k by omega]
theorem vPn_u {v nom : Nat → Int32} {s m : Nat} (hs : s < 6) (hm : m ≤ 32) : vPn v s nom m 591 = v 591 + sm nom m := by
  unfold vPn
  rw [if_neg (by omega), if_neg (by omega), if_pos rfl]
theorem vPn_0 {v nom : Nat → Int32} {s : Nat} (hs : s < 6) : vPn v s nom 0 = v := by
  funext x
  by_cases e : x = 591
  · subst e
    rw [vPn_u hs (by omega), show sm nom 0 = 0 from rfl, Int32.add_zero]
  · exact vPn_o ⟨by omega, by omega, e⟩
theorem vPn_s {v nom : Nat → Int32} {s m : Nat} (hs : s < 6) (hm : m < 32) : vU (vU (vU (vPn v s nom m) (98 * s + (4 + m)) (nom m)) (98 * s + (36 + m)) (nom m)) 591 (vPn v s nom m 591 + nom m) = vPn v s nom (m + 1) := by
  funext x
  by_cases c0 : x = 591
  · subst c0
    rw [u_eq, vPn_u hs (by omega), vPn_u hs (by omega), Int32.add_assoc]; rfl
  · rw [u_ne c0]
    by_cases c1 : x = 98 * s + (36 + m)
    · subst c1; rw [u_eq, vPn_n (by omega) (by omega)]
    · rw [u_ne c1]
      by_cases c2 : x = 98 * s + (4 + m)
      · subst c2; rw [u_eq, vPn_l (by omega)]
      · rw [u_ne c2]
        unfold vPn
        by_cases c3 : 98 * s + 4 ≤ x ∧ x < 98 * s + 4 + m
        · rw [if_pos c3, if_pos (by omega)]
        · rw [if_neg c3, if_neg (show ¬ (98 * s + 4 ≤ x ∧ x < 98 * s + 4 + (m + 1)) by omega)]
          by_cases c4 : 98 * s + 36 ≤ x ∧ x < 98 * s + 36 + m
          · rw [if_pos c4, if_pos (by omega)]
          · rw [if_neg c4, if_neg (show ¬ (98 * s + 36 ≤ x ∧ x < 98 * s + 36 + (m + 1)) by omega), if_neg c0, if_neg c0]
/-- the class's wire, punched anew by the row r -/
def cPu (J : Nat → Nat → Int32) (a r cl c : Nat) : Nat → Nat → Int32 := mSet (if cl = 1 then mSet (mSet (mSet (mSet (wPu (mSet (mSet (mSet J (a + 1) 0 5000) (a + 2) 0 5000) (a + 3) 0 (-1)) a r c) a 4 1) (a + 1) (c + 1) 5000) (a + 2) (c + 1) 5000) (a + 3) (c + 1) (-1) else wPu (mSet (mSet (mSet J (a + 1) 0 5000) (a + 2) 0 5000) (a + 3) 0 (-1)) a r c) a 6 0
theorem cPu_o {J : Nat → Nat → Int32} {a r cl c x j : Nat} (h : x < a ∨ a + 3 < x ∨ (x = a ∧ j ≠ 4 ∧ j ≠ 6)) : cPu J a r cl c x j = J x j := by
  unfold cPu
  split <;> simp (disch := omega) only [s_ne, wPu_o]
theorem cPu_6 {J : Nat → Nat → Int32} {a r cl c : Nat} : cPu J a r cl c a 6 = 0 := s_eq
theorem cPu_4 {J : Nat → Nat → Int32} {a r cl c : Nat} (hcl : cl ≤ 1) (h : J a 4 = nI cl) : cPu J a r cl c a 4 = nI cl := by
  unfold cPu
  by_cases e : cl = 1
  · subst e
    rw [if_pos rfl]
    simp (disch := omega) only [s_ne, s_eq]; rfl
  · rw [if_neg e]
    simp (disch := omega) only [s_ne, wPu_o]; exact h
theorem wPu_i {J : Nat → Nat → Int32} {a r k x i : Nat} (h : x = a + 1 ∨ x = a + 2) (hi : i < k) : wPu J a r k x (i + 1) = 2000 + 1000 * J r i := by
  unfold wPu
  rw [if_pos ⟨h, by omega, by omega⟩, show i + 1 - 1 = i by omega]
theorem wPu_0 {J : Nat → Nat → Int32} {a r k x j : Nat} (h : j = 0 ∨ k + 1 ≤ j) : wPu J a r k x j = J x j := if_neg (by omega)
theorem cPu_g {J : Nat → Nat → Int32} {q : Nat → Int32} {a r cl c x j : Nat} (hx : x = a + 1 ∨ x = a + 2) (hr : r < a ∨ a + 3 < r) (hq : ∀ i, i < c → J r i = q i) (hj : j < c + 1 + cl) (hcl : cl ≤ 1) : cPu J a r cl c x j = nomQ q c j := by
  unfold cPu
  rw [s_ne (by omega)]
  rcases (show j = 0 ∨ (1 ≤ j ∧ j ≤ c) ∨ j = c + 1 by omega) with e | e | e
  · subst e
    rw [nomQ_0]
    split
    · rcases hx with rfl | rfl <;> simp (disch := omega) only [s_ne, s_eq, wPu_0]
    · rcases hx with rfl | rfl <;> simp (disch := omega) only [s_ne, s_eq, wPu_0]
  · obtain ⟨i, rfl⟩ : ∃ i, j = i + 1 := ⟨j - 1, by omega⟩
    rw [nomQ_i (by omega), ← hq i (by omega)]
    split
    · rcases hx with rfl | rfl <;> simp (disch := omega) only [s_ne, wPu_i, true_or, or_true]
    · rcases hx with rfl | rfl <;> simp (disch := omega) only [s_ne, wPu_i, true_or, or_true]
  · have e1 : cl = 1 := by omega
    subst e
    rw [nomQ_e, if_pos e1]
    rcases hx with rfl | rfl <;> simp (disch := omega) only [s_ne, s_eq]
theorem cPu_t0 {J : Nat → Nat → Int32} {a r cl c : Nat} : cPu J a r cl c (a + 3) 0 = -1 := by
  unfold cPu
  split <;> simp (disch := omega) only [s_ne, s_eq, wPu_o]
theorem cPu_t {J : Nat → Nat → Int32} {a r cl c i : Nat} (h : i < c) : cPu J a r cl c (a + 3) (i + 1) = J (a + 3) (i + 1) := by
  unfold cPu
  split <;> simp (disch := omega) only [s_ne, wPu_o]
theorem cPu_te {J : Nat → Nat → Int32} {a r c : Nat} : cPu J a r 1 c (a + 3) (c + 1) = -1 := by
  unfold cPu
  rw [if_pos rfl]
  simp (disch := omega) only [s_ne, s_eq]
/-- the ghost behind punch by the way y -/
def wPunch (v : Nat → Int32) (s y : Nat) : Nat → Int32 := vTl (vU (vPn v s (nomQ (nbR v s (gc v s) (nI y)) (gc v s)) (gn v s)) (98 * s + 3) 0) (gln v) 6 (nI s) (nI y)
set_option maxHeartbeats 8000000 in
theorem punch_act {K : mK} {R : Nat → Nat → Option Nat} {I : Nat → Nat → Int32} {v H T : Nat → Int32} {n t : Nat} {s cl c : Nat} {y : Nat} (hs : s < 6) (hrel : REL K R I v n H t T) (hw : rW I (7 + 4 * s) v s 1 cl c) (h7 : ∀ i, i < c → I 187 i = nbR v s c (nI y) i) (hu : ∀ i, i < c → nbR v s c (nI y) i ≠ -1) (h86 : I 186 1 = nI (cnt (pMi (nbR v s c (nI y)) (trR v s)) c)) :
    ∃ R1 I1, Ev 65 (mB 65 62) [.ref 0, .int (nI s), .int (nI y), .ref (7 + 4 * s)] [] (K, R, I) (fun w k => w = some (.int (nI (cnt (pMi (nbR v s c (nI y)) (trR v s)) c))) ∧ k = (K, R1, I1)) ∧ REL K R1 I1 (wPunch v s y) (nTu n) (vRec H v n) t T := by
  obtain ⟨f, g, hv, hn2, hn, hH, hP, hT⟩ := id hrel
  have q4 := qTu_lt g hn2
  obtain ⟨gs, -, gh, gw, gr, gr', ⟨a0, a1, a2, a3, a4, a5, a6, a7, a8⟩, ⟨b0, b1, b2⟩, cc0⟩ := id g
  have gs0 : K.2.2.1 1 = (1, 4) := gs.1
  have gs1 : R 1 0 = some 2 := gs.2.1
  have gs2 : K.2.2.1 2 = (4, 6) := gs.2.2.1
  have gs3 : R 1 1 = some 3 := gs.2.2.2.1
  have gs4 : zL K R 3 := gs.2.2.2.2.1
  have gW : ∀ s, s < 6 → zW K R (7 + 4 * s) := fun s hs => (gs.2.2.2.2.2.2 s hs).2
  have gR : ∀ s, s < 6 → R 2 s = some (7 + 4 * s) := fun s hs => (gs.2.2.2.2.2.2 s hs).1
  have gh0 := gh.1
  have gsl : K.2.2.1 3 = (1, 2) := gs4.1
  have gT := zG_tu (n := n) g
  have gst : zS K (RTu R n) 1 := gT.1
  have gt1 : RTu R n 1 0 = some 2 := gst.2.1
  have gt3 : RTu R n 1 1 = some 3 := gst.2.2.2.1
  have gt4 : zL K (RTu R n) 3 := gst.2.2.2.2.1
  have gWt : ∀ s, s < 6 → zW K (RTu R n) (7 + 4 * s) := fun s hs => (gst.2.2.2.2.2.2 s hs).2
  have gRt : ∀ s, s < 6 → RTu R n 2 s = some (7 + 4 * s) := fun s hs => (gst.2.2.2.2.2.2 s hs).1
  obtain ⟨-, a1t, a2t, a3t, a4t, a5t, a6t, a7t, a8t⟩ := gT.2.2.2.2.2.2.1
  have hV := rW_V hw
  obtain ⟨wf, vf, k0, k1, k2, k3, k4, k5⟩ := id hw
  obtain ⟨f1, f2, f3, f4, f5, f6⟩ := id wf
  obtain ⟨v1, v2, v3, -⟩ := id vf
  obtain ⟨g1, g2, g3⟩ := g_vF vf
  have g4 : gn v s = c + 1 + cl := by unfold gn; rw [g2, g3]
  have zwt := gWt s hs
  have zw0 : K.2.2.1 (7 + 4 * s) = (1, 6) := zwt.1
  obtain ⟨e2, e3, e4, e5, e6, e7, e8, e9, e10, ln, l1, l2, l3, l4⟩ := id hv.2
  have gl1 : gln v = ln := by unfold gln; rw [l3]; exact n_cl (by omega)
  have grz := gr.1
  have gra := gr.2.1
  have grt := gT.2.2.2.2.1
  have grr : RTu R n 186 0 = some 187 := grt.2.2.1
  unfold wPunch
  rw [g3, g4, gl1]
  generalize hmis : cnt (pMi (nbR v s c (nI y)) (trR v s)) c = mis at h86 ⊢
  obtain ⟨q, hq0⟩ : ∃ q, nbR v s c (nI y) = q := ⟨_, rfl⟩
  have hq : ∀ i, i < c → ∃ t, t < 8 ∧ q i = nI t := by
    intro i hi
    rw [← hq0]
    exact (nbR_c v s c (nI y) i).resolve_left (hu i hi)
  rw [hq0]
  obtain ⟨P, hPd⟩ : ∃ P, cPu (hRm I (qTu f n) n) (7 + 4 * s) 187 cl c = P := ⟨_, rfl⟩
  have pO : ∀ x j, x < 7 + 4 * s ∨ 7 + 4 * s + 3 < x ∨ (x = 7 + 4 * s ∧ j ≠ 4 ∧ j ≠ 6) → P x j = hRm I (qTu f n) n x j := fun x j h => by rw [← hPd]; exact cPu_o h
  have p4 : P (7 + 4 * s) 4 = nI cl := by rw [← hPd]; exact cPu_4 f5 (by rw [hRm_l (by omega)]; exact f2)
  have p6 : P (7 + 4 * s) 6 = 0 := by rw [← hPd]; exact cPu_6
  have pg : ∀ j, j < c + 1 + cl → P (7 + 4 * s + 1) j = nomQ q c j ∧ P (7 + 4 * s + 2) j = nomQ q c j := by
    intro j hj
    have h7' : ∀ i, i < c → hRm I (qTu f n) n 187 i = q i := fun i hi => by rw [hRm_o (by omega) (by omega), ← hq0]; exact h7 i hi
    rw [← hPd]
    exact ⟨cPu_g (Or.inl rfl) (by omega) h7' hj f5, cPu_g (Or.inr rfl) (by omega) h7' hj f5⟩
  have pt0 : P (7 + 4 * s + 3) 0 = -1 := by rw [← hPd]; exact cPu_t0
  have pt : ∀ i, i < c → P (7 + 4 * s + 3) (i + 1) = I (7 + 4 * s + 3) (i + 1) := fun i hi => by rw [← hPd, cPu_t hi, hRm_l (by omega)]
  have pte : cl = 1 → P (7 + 4 * s + 3) (c + 1) = -1 := fun e => by rw [← hPd, e]; exact cPu_te
  have pOl : ∀ x j, x < 31 → (x < 7 + 4 * s ∨ 7 + 4 * s + 3 < x ∨ (x = 7 + 4 * s ∧ j ≠ 4 ∧ j ≠ 6)) → P x j = I x j := fun x j h h2 => by rw [pO x j h2, hRm_l h]
  have wfH : wF (hRm I (qTu f n) n) (7 + 4 * s) 1 cl c := by unfold wF; rw [hRm_l (by omega)]; exact wf
  have wfP : wF P (7 + 4 * s) 1 cl c := ⟨by rw [pOl _ _ (by omega) (by omega)]; exact f1, p4, by rw [pOl _ _ (by omega) (by omega)]; exact f3, f4, f5, f6⟩
  have hpa : ∀ {Q : Option Value → mH → Prop}, EvM 50 [.ref (7 + 4 * s), .ref 187] (K, RTu R n, hRm I (qTu f n) n) Q ↔ Q none (K, RTu R n, P) := by
    intro Q
    rw [← hPd]
    exact m_punchAll zwt wfH gra (by omega)
  have hsm : sm (P (7 + 4 * s + 2)) (ngp 1 cl c) = sm (nomQ q c) (c + 1 + cl) := sm_cg _ (fun j hj => (pg j hj).2)
  have p15 : P 1 5 = v 591 := by rw [pOl _ _ (by omega) (by omega)]; exact e5
  have p33 : P 3 3 = nI ln := by rw [pOl _ _ (by omega) (by omega)]; exact l2
  have p86 : P 186 1 = nI mis := by rw [pO _ _ (by omega), hRm_o (by omega) (by omega)]; exact h86
  refine ⟨RTu R n, lAd (mSet P 1 5 (v 591 + sm (nomQ q c) (c + 1 + cl))) 3 ln 6 (nI s) (nI y), ?_, ?_⟩
  · rw [B_65_62]
    simp (disch := omega) only [e_iconst, e_bipush, e_sipush, e_iload_n, e_iload, e_aload_n, e_aload, e_istore_n, e_istore, e_astore_n, e_astore, e_iinc, e_iadd, e_isub, e_imul, e_iand, e_ishr, e_idiv, e_i2c, e_dup_i, e_dup_r, e_dup2, e_pop, e_goto, e_nop, e_if_eq, e_if_ne, e_if_lt, e_if_ge, e_if_gt, e_if_le, e_icmp_eq, e_icmp_ne, e_icmp_lt, e_icmp_ge, e_icmp_gt, e_icmp_le, e_tsw, e_ret0, e_ret1, e_retn, e_getI, e_getZ, e_getR, e_getV, e_getC, e_putI, e_putZ, e_putF, e_gst0, e_gst1, e_sld, e_iald, e_cald, e_bald, e_iast, e_cast, e_aald, e_aast, e_alen, e_slen, e_blen, e_newa, e_newq, e_new, e_oinit, e_ctor, e_virt, e_stat, e_min, e_copy, e_ldc, List.cons_append, List.nil_append, List.append_nil, List.length_cons, List.length_nil, List.replicate_succ, List.replicate_zero, List.getElem?_cons_zero, List.getElem?_cons_succ, List.set_cons_zero, List.set_cons_succ, List.take_succ_cons, List.take_zero, List.drop_succ_cons, List.drop_zero, List.reverse_cons, List.reverse_nil, Option.toList_some, Option.toList_none, Nat.reduceSub, Nat.reduceAdd, Nat.reduceLeDiff, true_and, and_true, and_self, Option.some.injEq, exists_eq_left', Nat.zero_add, Value.int.injEq, Value.ref.injEq, List.cons.injEq, exists_and_left, and_assoc, exists_eq_left, List.all_cons, List.all_nil, m1_i, m1_r, Bool.and_self, Bool.and_true, bk_65_62, a0, a1, a2, a1t, a6t, gs0, gh0, grz, grr, zw0, gt3, gsl, C_9, C_50, C_54, C_14, a_remember g hv hn hn2, hpa, m_sumOfNominals zwt wfP, hsm, p15, if_pos, if_neg, not_true_eq_false, not_false_eq_true, or_true, true_or, or_false, false_or, false_and, and_false, Nat.reduceEqDiff, Nat.reduceLT, Nat.reduceMul, Nat.not_lt_zero, Nat.zero_le, Nat.le_refl, ne_eq, reduceIte, reduceCtorEq]
    rw [m_logAdd gt4 (n := ln) ?_ l1]
    · simp (disch := omega) only [e_iconst, e_bipush, e_sipush, e_iload_n, e_iload, e_aload_n, e_aload, e_istore_n, e_istore, e_astore_n, e_astore, e_iinc, e_iadd, e_isub, e_imul, e_iand, e_ishr, e_idiv, e_i2c, e_dup_i, e_dup_r, e_dup2, e_pop, e_goto, e_nop, e_if_eq, e_if_ne, e_if_lt, e_if_ge, e_if_gt, e_if_le, e_icmp_eq, e_icmp_ne, e_icmp_lt, e_icmp_ge, e_icmp_gt, e_icmp_le, e_tsw, e_ret0, e_ret1, e_retn, e_getI, e_getZ, e_getR, e_getV, e_getC, e_putI, e_putZ, e_putF, e_gst0, e_gst1, e_sld, e_iald, e_cald, e_bald, e_iast, e_cast, e_aald, e_aast, e_alen, e_slen, e_blen, e_newa, e_newq, e_new, e_oinit, e_ctor, e_virt, e_stat, e_min, e_copy, e_ldc, List.cons_append, List.nil_append, List.append_nil, List.length_cons, List.length_nil, List.replicate_succ, List.replicate_zero, List.getElem?_cons_zero, List.getElem?_cons_succ, List.set_cons_zero, List.set_cons_succ, List.take_succ_cons, List.take_zero, List.drop_succ_cons, List.drop_zero, List.reverse_cons, List.reverse_nil, Option.toList_some, Option.toList_none, Nat.reduceSub, Nat.reduceAdd, Nat.reduceLeDiff, true_and, and_true, and_self, Option.some.injEq, exists_eq_left', Nat.zero_add, Value.int.injEq, Value.ref.injEq, List.cons.injEq, exists_and_left, and_assoc, exists_eq_left, List.all_cons, List.all_nil, m1_i, m1_r, Bool.and_self, Bool.and_true, a0, a6t, grz, lAd_o, s_ne, p86, if_pos, if_neg, not_true_eq_false, not_false_eq_true, or_true, true_or, or_false, false_or, false_and, and_false, Nat.reduceEqDiff, Nat.reduceLT, Nat.reduceMul, Nat.not_lt_zero, Nat.zero_le, Nat.le_refl, ne_eq, reduceIte, reduceCtorEq]
    · simp (disch := omega) only [s_ne]; exact p33
  · refine REL_act g hv hn2 hH hP hT (fun x x1 x2 => by funext j; simp (disch := omega) only [lAd_o, s_ne, pO]) (by funext j; simp (disch := omega) only [lAd_o, s_ne, pO, hRm_o]) ?_
    refine RC_upd (fun z => z = s) hv (fun z _ hz => ?_) (fun z hz1 hz2 => ⟨fun d hd => ?_, fun x x1 x2 => ?_⟩) ?_
    · subst hz
      have hng : ngp 1 cl c = c + 1 + cl := rfl
      refine ⟨1, cl, c, ⟨?_, ?_, ?_, by omega, f5, f6⟩, ⟨?_, ?_, ?_, by omega, f5, f6⟩, fun q => absurd q (by omega), fun _ => ?_, fun _ => ?_, fun k hk => ?_, fun i hi => ?_, fun e => ?_⟩
      · simp (disch := omega) only [lAd_o, s_ne, pOl]; exact f1
      · simp (disch := omega) only [lAd_o, s_ne]; exact p4
      · simp (disch := omega) only [lAd_o, s_ne, pOl]; exact f3
      · simp (disch := omega) only [vTl_o, u_ne, vPn_o]; exact v1
      · simp (disch := omega) only [vTl_o, u_ne, vPn_o]; exact v2
      · simp (disch := omega) only [vTl_o, u_ne, vPn_o]; exact v3
      · simp (disch := omega) only [lAd_o, s_ne, vTl_o, u_eq]; exact p6
      · simp (disch := omega) only [lAd_o, s_ne]; exact pt0
      · rw [hng] at hk
        simp (disch := omega) only [lAd_o, s_ne, vTl_o, u_ne, vPn_l, vPn_n]
        exact ⟨(pg k hk).1, (pg k hk).2, nomQ_ok hq⟩
      · simp (disch := omega) only [lAd_o, s_ne, vTl_o, u_ne, vPn_o, pt]; exact k4 i hi
      · simp (disch := omega) only [lAd_o, s_ne]; exact pte e
    · funext j; simp (disch := omega) only [lAd_o, s_ne, pOl]
    · simp (disch := omega) only [vTl_o, u_ne, vPn_o]
    · refine rE_mk ?_ ?_ ?_ ?_ ?_ ?_ ?_ ?_ ?_ (rL_add l1 ?_ ?_ (fun e he => ?_)) <;> simp (disch := omega) only [lAd_o, s_ne, s_eq, pOl, vTl_o, u_ne, u_eq, vPn_o, vPn_u, e2, e3, e4, e5, e6, e7, e8]
      · exact e9
      · exact e10
      · exact l2
      · exact l3
      · exact l4 e he
/-- what punch answers where it can't -/
def gBar (v : Nat → Int32) (s y : Nat) : Prop := gp v s = 0 ∨ (y = 2 ∧ gl v s = 0) ∨ 0 < cnt (pUn (nbR v s (gc v s) (nI y)) (trR v s)) (gc v s)
set_option maxHeartbeats 8000000 in
theorem q_punch {K : mK} {R : Nat → Nat → Option Nat} {I : Nat → Nat → Int32} {v H T : Nat → Int32} {n t : Nat} (hrel : REL K R I v n H t T) (s y : Nat) (hs : s < 6) (hy : y ≤ 2) : (gBar v s y → QO 65 [.int (nI s), .int (nI y)] K R I (-4)) ∧ (¬ gBar v s y → AO 65 [.int (nI s), .int (nI y)] K R I (nI (cnt (pMi (nbR v s (gc v s) (nI y)) (trR v s)) (gc v s))) (wPunch v s y) (nTu n) (vRec H v n) t T) := by
  obtain ⟨f, g, hv, hn2, hn, hH, hP, hT⟩ := id hrel
  have q4 := qTu_lt g hn2
  obtain ⟨gs, -, gh, gw, gr, gr', ⟨a0, a1, a2, a3, a4, a5, a6, a7, a8⟩, ⟨b0, b1, b2⟩, cc0⟩ := id g
  have gs0 : K.2.2.1 1 = (1, 4) := gs.1
  have gs1 : R 1 0 = some 2 := gs.2.1
  have gs2 : K.2.2.1 2 = (4, 6) := gs.2.2.1
  have gs3 : R 1 1 = some 3 := gs.2.2.2.1
  have gs4 : zL K R 3 := gs.2.2.2.2.1
  have gW : ∀ s, s < 6 → zW K R (7 + 4 * s) := fun s hs => (gs.2.2.2.2.2.2 s hs).2
  have gR : ∀ s, s < 6 → R 2 s = some (7 + 4 * s) := fun s hs => (gs.2.2.2.2.2.2 s hs).1
  have gh0 := gh.1
  have gsl : K.2.2.1 3 = (1, 2) := gs4.1
  have gT := zG_tu (n := n) g
  have gst : zS K (RTu R n) 1 := gT.1
  have gt1 : RTu R n 1 0 = some 2 := gst.2.1
  have gt3 : RTu R n 1 1 = some 3 := gst.2.2.2.1
  have gt4 : zL K (RTu R n) 3 := gst.2.2.2.2.1
  have gWt : ∀ s, s < 6 → zW K (RTu R n) (7 + 4 * s) := fun s hs => (gst.2.2.2.2.2.2 s hs).2
  have gRt : ∀ s, s < 6 → RTu R n 2 s = some (7 + 4 * s) := fun s hs => (gst.2.2.2.2.2.2 s hs).1
  obtain ⟨-, a1t, a2t, a3t, a4t, a5t, a6t, a7t, a8t⟩ := gT.2.2.2.2.2.2.1
  obtain ⟨pA, clA, cA, hwA⟩ := hv.1 s hs
  rw [show 1 + 6 + 4 * s = 7 + 4 * s by omega] at hwA
  obtain ⟨wfA, vfA, k0A, k1A, k2A, k3A, k4A, k5A⟩ := id hwA
  obtain ⟨f1A, f2A, f3A, f4A, f5A, f6A⟩ := id wfA
  obtain ⟨v1A, v2A, v3A, -⟩ := id vfA
  have zwA := gW s hs
  have zwtA := gWt s hs
  have rwA := gR s hs
  have rwtA := gRt s hs
  have zw0A : K.2.2.1 (7 + 4 * s) = (1, 6) := zwA.1
  obtain ⟨g1, g2, g3⟩ := g_vF vfA
  unfold gBar
  rw [g1, g2, g3]
  have cy := w_rng hy
  have cls : ∀ Q, Ev 65 (mB 65 19) [.ref 0, .int (nI s), .int (nI y), .null] [] (K, R, I) Q = EvM 65 [.ref 0, .int (nI s), .int (nI y)] (K, R, I) Q := by
    intro Q
    apply propext
    simp (disch := omega) only [e_iconst, e_bipush, e_sipush, e_iload_n, e_iload, e_aload_n, e_aload, e_istore_n, e_istore, e_astore_n, e_astore, e_iinc, e_iadd, e_isub, e_imul, e_iand, e_ishr, e_idiv, e_i2c, e_dup_i, e_dup_r, e_dup2, e_pop, e_goto, e_nop, e_if_eq, e_if_ne, e_if_lt, e_if_ge, e_if_gt, e_if_le, e_icmp_eq, e_icmp_ne, e_icmp_lt, e_icmp_ge, e_icmp_gt, e_icmp_le, e_tsw, e_ret0, e_ret1, e_retn, e_getI, e_getZ, e_getR, e_getV, e_getC, e_putI, e_putZ, e_putF, e_gst0, e_gst1, e_sld, e_iald, e_cald, e_bald, e_iast, e_cast, e_aald, e_aast, e_alen, e_slen, e_blen, e_newa, e_newq, e_new, e_oinit, e_ctor, e_virt, e_stat, e_min, e_copy, e_ldc, List.cons_append, List.nil_append, List.append_nil, List.length_cons, List.length_nil, List.replicate_succ, List.replicate_zero, List.getElem?_cons_zero, List.getElem?_cons_succ, List.set_cons_zero, List.set_cons_succ, List.take_succ_cons, List.take_zero, List.drop_succ_cons, List.drop_zero, List.reverse_cons, List.reverse_nil, Option.toList_some, Option.toList_none, Nat.reduceSub, Nat.reduceAdd, Nat.reduceLeDiff, true_and, and_true, and_self, Option.some.injEq, exists_eq_left', Nat.zero_add, Value.int.injEq, Value.ref.injEq, List.cons.injEq, exists_and_left, and_assoc, exists_eq_left, List.all_cons, List.all_nil, m1_i, m1_r, Bool.and_self, Bool.and_true, E_in 65, N_65, B_65_0, bk_65_0, B_65_9, bk_65_9, C_81, C_83, m_isSp hs, m_wayI cy, o_eq, if_pos, if_neg, not_true_eq_false, not_false_eq_true, or_true, true_or, or_false, false_or, false_and, and_false, Nat.reduceEqDiff, Nat.reduceLT, Nat.reduceMul, Nat.not_lt_zero, Nat.zero_le, Nat.le_refl, ne_eq, reduceIte, reduceCtorEq]
  by_cases cb : pA = 0 ∨ (y = 2 ∧ clA = 0)
  · have cb' : pA = 0 ∨ (nI y = 2 ∧ clA = 0) := cb.imp id (fun q => ⟨(w_2 hy).mpr q.1, q.2⟩)
    refine ⟨fun _ => ⟨I, ?_, SCR_id⟩, fun q => absurd (cb.elim Or.inl (fun z => Or.inr (Or.inl z))) q⟩
    rw [← cls, B_65_19]
    simp (disch := omega) only [e_iconst, e_bipush, e_sipush, e_iload_n, e_iload, e_aload_n, e_aload, e_istore_n, e_istore, e_astore_n, e_astore, e_iinc, e_iadd, e_isub, e_imul, e_iand, e_ishr, e_idiv, e_i2c, e_dup_i, e_dup_r, e_dup2, e_pop, e_goto, e_nop, e_if_eq, e_if_ne, e_if_lt, e_if_ge, e_if_gt, e_if_le, e_icmp_eq, e_icmp_ne, e_icmp_lt, e_icmp_ge, e_icmp_gt, e_icmp_le, e_tsw, e_ret0, e_ret1, e_retn, e_getI, e_getZ, e_getR, e_getV, e_getC, e_putI, e_putZ, e_putF, e_gst0, e_gst1, e_sld, e_iald, e_cald, e_bald, e_iast, e_cast, e_aald, e_aast, e_alen, e_slen, e_blen, e_newa, e_newq, e_new, e_oinit, e_ctor, e_virt, e_stat, e_min, e_copy, e_ldc, List.cons_append, List.nil_append, List.append_nil, List.length_cons, List.length_nil, List.replicate_succ, List.replicate_zero, List.getElem?_cons_zero, List.getElem?_cons_succ, List.set_cons_zero, List.set_cons_succ, List.take_succ_cons, List.take_zero, List.drop_succ_cons, List.drop_zero, List.reverse_cons, List.reverse_nil, Option.toList_some, Option.toList_none, Nat.reduceSub, Nat.reduceAdd, Nat.reduceLeDiff, true_and, and_true, and_self, Option.some.injEq, exists_eq_left', Nat.zero_add, Value.int.injEq, Value.ref.injEq, List.cons.injEq, exists_and_left, and_assoc, exists_eq_left, List.all_cons, List.all_nil, m1_i, m1_r, Bool.and_self, Bool.and_true, bk_65_19, C_40, m_canO zwA wfA cb', a0, a1, gs0, gs1, gs2, zw0A, rwA, n_in, n_cl, true_or, or_true, o_eq, if_pos, if_neg, not_true_eq_false, not_false_eq_true, or_true, true_or, or_false, false_or, false_and, and_false, Nat.reduceEqDiff, Nat.reduceLT, Nat.reduceMul, Nat.not_lt_zero, Nat.zero_le, Nat.le_refl, ne_eq, reduceIte, reduceCtorEq]
  have hp1 : pA = 1 := by
    rcases (show pA = 0 ∨ pA = 1 by omega) with e | e
    · exact absurd (Or.inl e) cb
    · exact e
  subst hp1
  have hw : nI y = 2 → clA = 1 := fun e => by
    have := (w_2 hy).mp e
    rcases (show clA = 0 ∨ clA = 1 by omega) with e2 | e2
    · exact absurd (Or.inr ⟨this, e2⟩) cb
    · exact e2
  have hV := rW_V hwA
  obtain ⟨d1, d2, d3, d4, d5⟩ := rd_cls (r := 186) hwA hw
  have grz := gr.1
  have gra := gr.2.1
  have grr := gr.2.2.1
  have cls2 : ∀ Q, Ev 65 (mB 65 40) [.ref 0, .int (nI s), .int (nI y), .ref (7 + 4 * s)] [] (K, R, I) Q = EvM 65 [.ref 0, .int (nI s), .int (nI y)] (K, R, I) Q := by
    intro Q
    rw [← cls, B_65_19]
    apply propext
    simp (disch := omega) only [e_iconst, e_bipush, e_sipush, e_iload_n, e_iload, e_aload_n, e_aload, e_istore_n, e_istore, e_astore_n, e_astore, e_iinc, e_iadd, e_isub, e_imul, e_iand, e_ishr, e_idiv, e_i2c, e_dup_i, e_dup_r, e_dup2, e_pop, e_goto, e_nop, e_if_eq, e_if_ne, e_if_lt, e_if_ge, e_if_gt, e_if_le, e_icmp_eq, e_icmp_ne, e_icmp_lt, e_icmp_ge, e_icmp_gt, e_icmp_le, e_tsw, e_ret0, e_ret1, e_retn, e_getI, e_getZ, e_getR, e_getV, e_getC, e_putI, e_putZ, e_putF, e_gst0, e_gst1, e_sld, e_iald, e_cald, e_bald, e_iast, e_cast, e_aald, e_aast, e_alen, e_slen, e_blen, e_newa, e_newq, e_new, e_oinit, e_ctor, e_virt, e_stat, e_min, e_copy, e_ldc, List.cons_append, List.nil_append, List.append_nil, List.length_cons, List.length_nil, List.replicate_succ, List.replicate_zero, List.getElem?_cons_zero, List.getElem?_cons_succ, List.set_cons_zero, List.set_cons_succ, List.take_succ_cons, List.take_zero, List.drop_succ_cons, List.drop_zero, List.reverse_cons, List.reverse_nil, Option.toList_some, Option.toList_none, Nat.reduceSub, Nat.reduceAdd, Nat.reduceLeDiff, true_and, and_true, and_self, Option.some.injEq, exists_eq_left', Nat.zero_add, Value.int.injEq, Value.ref.injEq, List.cons.injEq, exists_and_left, and_assoc, exists_eq_left, List.all_cons, List.all_nil, m1_i, m1_r, Bool.and_self, Bool.and_true, bk_65_19, C_40, m_canI zwA wfA hw, a0, a1, gs0, gs1, gs2, zw0A, rwA, n_in, n_cl, true_or, or_true, o_eq, if_pos, if_neg, not_true_eq_false, not_false_eq_true, or_true, true_or, or_false, false_or, false_and, and_false, Nat.reduceEqDiff, Nat.reduceLT, Nat.reduceMul, Nat.not_lt_zero, Nat.zero_le, Nat.le_refl, ne_eq, reduceIte, reduceCtorEq]
  by_cases hun : cnt (pUn (nbR v s cA (nI y)) (trR v s)) cA = 0
  rotate_left
  · have hle := cnt_le (pUn (nbR v s cA (nI y)) (trR v s)) cA
    refine ⟨fun _ => ⟨rdS I 186 (7 + 4 * s) cA (nI y), ?_, SCR_rd (by omega)⟩, fun q => absurd (Or.inr (Or.inr (by omega))) q⟩
    rw [← cls2, B_65_40]
    simp (disch := omega) only [e_iconst, e_bipush, e_sipush, e_iload_n, e_iload, e_aload_n, e_aload, e_istore_n, e_istore, e_astore_n, e_astore, e_iinc, e_iadd, e_isub, e_imul, e_iand, e_ishr, e_idiv, e_i2c, e_dup_i, e_dup_r, e_dup2, e_pop, e_goto, e_nop, e_if_eq, e_if_ne, e_if_lt, e_if_ge, e_if_gt, e_if_le, e_icmp_eq, e_icmp_ne, e_icmp_lt, e_icmp_ge, e_icmp_gt, e_icmp_le, e_tsw, e_ret0, e_ret1, e_retn, e_getI, e_getZ, e_getR, e_getV, e_getC, e_putI, e_putZ, e_putF, e_gst0, e_gst1, e_sld, e_iald, e_cald, e_bald, e_iast, e_cast, e_aald, e_aast, e_alen, e_slen, e_blen, e_newa, e_newq, e_new, e_oinit, e_ctor, e_virt, e_stat, e_min, e_copy, e_ldc, List.cons_append, List.nil_append, List.append_nil, List.length_cons, List.length_nil, List.replicate_succ, List.replicate_zero, List.getElem?_cons_zero, List.getElem?_cons_succ, List.set_cons_zero, List.set_cons_succ, List.take_succ_cons, List.take_zero, List.drop_succ_cons, List.drop_zero, List.reverse_cons, List.reverse_nil, Option.toList_some, Option.toList_none, Nat.reduceSub, Nat.reduceAdd, Nat.reduceLeDiff, true_and, and_true, and_self, Option.some.injEq, exists_eq_left', Nat.zero_add, Value.int.injEq, Value.ref.injEq, List.cons.injEq, exists_and_left, and_assoc, exists_eq_left, List.all_cons, List.all_nil, m1_i, m1_r, Bool.and_self, Bool.and_true, bk_65_40, a0, a6, C_18, m_rd gr zwA (by omega) hwA hw, grz, d4, o_le_l, if_neg, if_pos, if_neg, not_true_eq_false, not_false_eq_true, or_true, true_or, or_false, false_or, false_and, and_false, Nat.reduceEqDiff, Nat.reduceLT, Nat.reduceMul, Nat.not_lt_zero, Nat.zero_le, Nat.le_refl, ne_eq, reduceIte, reduceCtorEq]
  refine ⟨fun q => ?_, fun _ => ?_⟩
  · rcases q with q | q | q
    · omega
    · exact absurd (Or.inr q) cb
    · omega
  have hrel0 : REL K R (rdS I 186 (7 + 4 * s) cA (nI y)) v n H t T := REL_scr hrel (SCR_rd (by omega))
  have hu : ∀ i, i < cA → nbR v s cA (nI y) i ≠ -1 := by
    intro i hi e
    have z : ∀ k, i < k → k ≤ cA → cnt (pUn (nbR v s cA (nI y)) (trR v s)) k ≠ 0 := by
      intro k
      induction k with
      | zero => intro h; omega
      | succ k ih =>
        intro h1 h2
        unfold cnt
        rcases Nat.lt_or_ge i k with q | q
        · have := ih q (by omega); omega
        · have e2 : k = i := by omega
          subst e2
          obtain ⟨t, t1, t2⟩ := hV.2.1 k hi
          have e3 : ¬ (-1 : Int32) = trR v s k := by
            show ¬ (-1 : Int32) = v (98 * s + (68 + k))
            rw [t2]; exact n_m1' (by omega)
          rw [if_pos (by simp [pUn, e, e3])]
          omega
    exact z cA hi (Nat.le_refl _) hun
  obtain ⟨R1, I1, y1, y4⟩ := punch_act (y := y) hs hrel0 (rW_out hwA (fun x x1 x2 => rdS_o (by omega))) d2 hu d3
  refine ⟨R1, I1, ?_, y4⟩
  rw [← cls2, B_65_40]
  simp (disch := omega) only [e_iconst, e_bipush, e_sipush, e_iload_n, e_iload, e_aload_n, e_aload, e_istore_n, e_istore, e_astore_n, e_astore, e_iinc, e_iadd, e_isub, e_imul, e_iand, e_ishr, e_idiv, e_i2c, e_dup_i, e_dup_r, e_dup2, e_pop, e_goto, e_nop, e_if_eq, e_if_ne, e_if_lt, e_if_ge, e_if_gt, e_if_le, e_icmp_eq, e_icmp_ne, e_icmp_lt, e_icmp_ge, e_icmp_gt, e_icmp_le, e_tsw, e_ret0, e_ret1, e_retn, e_getI, e_getZ, e_getR, e_getV, e_getC, e_putI, e_putZ, e_putF, e_gst0, e_gst1, e_sld, e_iald, e_cald, e_bald, e_iast, e_cast, e_aald, e_aast, e_alen, e_slen, e_blen, e_newa, e_newq, e_new, e_oinit, e_ctor, e_virt, e_stat, e_min, e_copy, e_ldc, List.cons_append, List.nil_append, List.append_nil, List.length_cons, List.length_nil, List.replicate_succ, List.replicate_zero, List.getElem?_cons_zero, List.getElem?_cons_succ, List.set_cons_zero, List.set_cons_succ, List.take_succ_cons, List.take_zero, List.drop_succ_cons, List.drop_zero, List.reverse_cons, List.reverse_nil, Option.toList_some, Option.toList_none, Nat.reduceSub, Nat.reduceAdd, Nat.reduceLeDiff, true_and, and_true, and_self, Option.some.injEq, exists_eq_left', Nat.zero_add, Value.int.injEq, Value.ref.injEq, List.cons.injEq, exists_and_left, and_assoc, exists_eq_left, List.all_cons, List.all_nil, m1_i, m1_r, Bool.and_self, Bool.and_true, bk_65_40, a0, a6, C_18, m_rd gr zwA (by omega) hwA hw, grz, d4, hun, o_le_l, if_pos, Nat.le_refl, if_pos, if_neg, not_true_eq_false, not_false_eq_true, or_true, true_or, or_false, false_or, false_and, and_false, Nat.reduceEqDiff, Nat.reduceLT, Nat.reduceMul, Nat.not_lt_zero, Nat.zero_le, Nat.le_refl, ne_eq, reduceIte, reduceCtorEq]
  exact y1
end
section
/-! THE TRIAL WIRE: one rewind more -/
/-- what reading needs of a wire and its row -/
def rV (I : Nat → Nat → Int32) (a : Nat) (v : Nat → Int32) (s cl c : Nat) : Prop := (∀ k, k < c + 1 + cl → I (a + 1) k = v (98 * s + (4 + k)) ∧ okL (v (98 * s + (4 + k)))) ∧ (∀ i, i < c → I (a + 3) (i + 1) = v (98 * s + (68 + i)) ∧ ∃ t, t < 8 ∧ v (98 * s + (68 + i)) = nI t)
theorem rV_rd {I : Nat → Nat → Int32} {a s cl c r : Nat} {v : Nat → Int32} {way : Int32} (h : rV I a v s cl c) (hw : way = 2 → cl = 1) (f6 : c ≤ 30) :
    (∀ i, i < c → ∃ x, rdA I a c way i = nI x ∧ 0 < x ∧ x < 1000000) ∧ (∀ i, i < c → ∃ x, rdA (vL v s) 0 c way i = nI x ∧ 0 < x ∧ x < 1000000) ∧ (∀ i, i < c → rdS I r a c way (r + 1) i = nbR v s c way i) ∧ rdS I r a c way r 1 = nI (cnt (pMi (nbR v s c way) (trR v s)) c) ∧ rdS I r a c way r 2 = nI (cnt (pUn (nbR v s c way) (trR v s)) c) := by
  obtain ⟨k3, k4⟩ := h
  have e : ∀ i, i < c → rdN I a c way i = nbR v s c way i := fun i hi => ((rd_cg (I := I) (I' := vL v s) (w := a) (w' := 0) (cl := cl) (fun j hj => (k3 j hj).1) hw i (by omega)).2 hi).2
  have et : ∀ i, i < c → I (a + 3) (i + 1) = trR v s i := fun i hi => (k4 i hi).1
  have q1 : cnt (pMi (rdN I a c way) (fun i => I (a + 3) (i + 1))) c = cnt (pMi (nbR v s c way) (trR v s)) c := cnt_cg c (fun i hi => by simp only [pMi, e i hi, et i hi])
  have q2 : cnt (pUn (rdN I a c way) (fun i => I (a + 3) (i + 1))) c = cnt (pUn (nbR v s c way) (trR v s)) c := cnt_cg c (fun i hi => by simp only [pUn, e i hi, et i hi])
  refine ⟨fun i hi => ?_, fun i hi => ?_, fun i hi => ?_, ?_, ?_⟩
  · obtain ⟨x, x1, x2, x3⟩ := (rd_rng (I := I) (w := a) (way := way) (fun j hj => by rw [(k3 j hj).1]; exact (k3 j hj).2) hw f6 i (by omega)).2 hi
    exact ⟨x, x1, by omega, by omega⟩
  · obtain ⟨x, x1, x2, x3⟩ := (rd_rng (I := vL v s) (w := 0) (way := way) (fun j hj => (k3 j hj).2) hw f6 i (by omega)).2 hi
    exact ⟨x, x1, by omega, by omega⟩
  · rw [← e i hi]
    show rSt I r (rdN I a c way) (fun i => I (a + 3) (i + 1)) c c (r + 1) i = _
    rw [rSt, if_pos ⟨rfl, hi⟩]
  · rw [← q1]
    show rSt I r (rdN I a c way) (fun i => I (a + 3) (i + 1)) c c r 1 = _
    rw [rSt, if_neg (by omega), if_pos ⟨rfl, rfl⟩]
  · rw [← q2]
    show rSt I r (rdN I a c way) (fun i => I (a + 3) (i + 1)) c c r 2 = _
    rw [rSt, if_neg (by omega), if_neg (by omega), if_pos ⟨rfl, rfl⟩]
/-- what is left in the trial wire, as far as it is read -/
def rFin (X : Nat → Nat → Int32) (v : Nat → Int32) (s c : Nat) : Prop := ∃ p cl, p ≤ 1 ∧ cl ≤ 1 ∧ X 190 4 = nI cl ∧ X 190 5 = nI c ∧ c ≤ 30 ∧ vF v s p cl c ∧ (0 < c → rV X 190 v s cl c)
theorem rFin_c {K : mK} {R : Nat → Nat → Option Nat} {X : Nat → Nat → Int32} {v : Nat → Int32} {s c : Nat} {way : Int32} {Q : Option Value → mH → Prop} (h : rFin X v s c) (hw : way ≠ 2) (gr : zR K R 188) (gw : zW K R 190) :
    (EvM 18 [.ref 188, .ref 190, .int way] (K, R, X) Q ↔ Q none (K, R, rdS X 188 190 c way)) ∧ (∀ i, i < c → rdS X 188 190 c way 189 i = nbR v s c way i) ∧ rdS X 188 190 c way 188 1 = nI (cnt (pMi (nbR v s c way) (trR v s)) c) ∧ rdS X 188 190 c way 188 2 = nI (cnt (pUn (nbR v s c way) (trR v s)) c) := by
  obtain ⟨p, cl, p1, cl1, x4, x5, c1, hf, hV⟩ := h
  rcases Nat.eq_zero_or_pos c with e | e
  · subst e
    have c0 : ∀ P : Nat → Bool, cnt P 0 = 0 := fun _ => rfl
    refine ⟨m_readAll gr gw (by omega) x4 x5 c1 (fun q => absurd q hw) (fun i hi => absurd hi (by omega)) (Or.inr hw), fun i hi => absurd hi (by omega), ?_, ?_⟩
    · unfold rdS
      rw [rSt, if_neg (by omega), if_pos ⟨rfl, rfl⟩, c0, c0]
    · unfold rdS
      rw [rSt, if_neg (by omega), if_neg (by omega), if_pos ⟨rfl, rfl⟩, c0, c0]
  · obtain ⟨y1, y2, y3, y4, y5⟩ := rV_rd (r := 188) (way := way) (hV e) (fun q => absurd q hw) c1
    exact ⟨m_readAll gr gw (by omega) x4 x5 c1 (fun q => absurd q hw) y1 (Or.inr hw), y3, y4, y5⟩
/-- the trial wire is the row's, but for how often it was rewound -/
def rWt (X : Nat → Nat → Int32) (v : Nat → Int32) (s cl c : Nat) : Prop := ∃ I0, rW I0 190 v s 1 cl c ∧ ∀ x j, ¬ (x = 190 ∧ j = 6) → X x j = I0 x j
def tI (X : Nat → Nat → Int32) (v : Nat → Int32) (s cl c ru lm : Nat) : Prop := rWt X v s cl c ∧ v 588 = nI ru ∧ v 589 = nI lm ∧ ∃ ln, ln ≤ 10 ∧ v 595 = nI ln
theorem tI_fin {X : Nat → Nat → Int32} {v : Nat → Int32} {s cl c ru lm : Nat} (h : tI X v s cl c ru lm) : rFin X v s c := by
  obtain ⟨⟨I0, hw, hX⟩, -⟩ := h
  obtain ⟨⟨f1, f2, f3, f4, f5, f6⟩, hf, -, -, -, k3, k4, -⟩ := hw
  refine ⟨1, cl, by omega, f5, by rw [hX _ _ (by omega)]; exact f2, by rw [hX _ _ (by omega)]; exact f3, f6, hf, fun _ => ⟨fun k hk => ⟨?_, okL_G (k3 k hk).2.2⟩, fun i hi => ⟨?_, (k4 i hi).2⟩⟩⟩
  · rw [hX _ _ (by omega)]; exact (k3 k hk).1
  · rw [hX _ _ (by omega)]; exact (k4 i hi).1
/-- whether a rewind doesn't break the wire; the row behind one -/
def gOk (v : Nat → Int32) (s u : Nat) : Prop := fB (vBd v s (nI u) (gn v s)) (gn v s) (gn v s) = gn v s
def gR1 (v : Nat → Int32) (s u : Nat) : Nat → Int32 := vR1 v s (nI u) (gn v s) (gln v)
def gR2 (v : Nat → Int32) (s u : Nat) : Nat → Int32 := vR2 (gR1 v s u) s (gc v s) (gl v s) (fB (vBd v s (nI u) (gn v s)) (gn v s) (gn v s)) (lnx (gln v))
set_option maxHeartbeats 8000000 in
theorem tr_turn {K : mK} {R : Nat → Nat → Option Nat} {X : Nat → Nat → Int32} {v : Nat → Int32} {s cl c ru lm u : Nat} (gw : zW K R 190) (hs : s < 6) (hru : ru ≤ 2) (hlm : lm ≤ 200) (hu : u ≤ 9) (h : tI X v s cl c ru lm) :
    ∃ X', (∀ x, x ≠ 190 ∧ x ≠ 191 → X' x = X x) ∧
      ((gOk v s u ∧ (∀ Q, EvM 51 [.ref 190, .int (nI ru), .int (nI lm), .int (nI u)] (K, R, X) Q ↔ Q (some (.int (-1))) (K, R, X')) ∧ tI X' (gR1 v s u) s cl c ru lm)
      ∨ (¬ gOk v s u ∧ ∃ f Y c', f < 32 ∧ (∀ x, x ≠ 190 ∧ x ≠ 191 → Y x = X x) ∧ (∀ Q, EvM 51 [.ref 190, .int (nI ru), .int (nI lm), .int (nI u)] (K, R, X) Q ↔ Q (some (.int (nI f))) (K, R, Y)) ∧ (∀ Q, EvM 52 [.ref 190, .int (nI f)] (K, R, Y) Q ↔ Q none (K, R, X')) ∧ c' ≤ c ∧ rFin X' (gR2 v s u) s c')) := by
  obtain ⟨⟨I0, hw, hX⟩, r1, r2, ln, l1, l2⟩ := h
  obtain ⟨gg1, gg3, gg2, -⟩ := rW_gn hw
  have gl1 : gln v = ln := by unfold gln; rw [l2]; exact n_cl (by omega)
  obtain ⟨⟨f1, f2, f3, f4, f5, f6⟩, ⟨w1, w2, w3, -⟩, k0, k1, k2, k3, k4, k5⟩ := id hw
  unfold gR2 gR1 gOk
  rw [gg1, gg2, gg3, gl1]
  have wfX : wF X 190 1 cl c := ⟨by rw [hX _ _ (by omega)]; exact f1, by rw [hX _ _ (by omega)]; exact f2, by rw [hX _ _ (by omega)]; exact f3, f4, f5, f6⟩
  obtain ⟨x1, x2⟩ := str_eq (lm := lm) (u := u) hw r1 r2
  have eL : ∀ k, wLn X 190 (nI ru) (nI u) (c + 1 + cl) k = wLn I0 190 (nI ru) (nI u) (c + 1 + cl) k := by
    intro k
    unfold wLn
    rw [hX _ _ (by omega)]
  have x2' : fB (wBd X 190 (nI ru) (nI lm) (nI u) (c + 1 + cl)) (c + 1 + cl) (c + 1 + cl) = fB (vBd v s (nI u) (c + 1 + cl)) (c + 1 + cl) (c + 1 + cl) := by
    rw [← x2]
    refine fB_cg _ (Nat.le_refl _) (fun k hk => ?_)
    unfold wBd
    rw [eL, hX (190 + 2) _ (by omega)]
  have fle := (fB_le (vBd v s (nI u) (c + 1 + cl)) (c + 1 + cl) (c + 1 + cl) (Nat.le_refl _)).1
  have hst := fun (Q : Option Value → mH → Prop) => @m_stretch K R X 190 1 cl c (nI ru) (nI lm) (nI u) Q gw wfX
  rw [show ngp 1 cl c = c + 1 + cl from rfl] at hst
  simp only [x2'] at hst
  have y1 : ∀ x, x < 590 → ¬ (98 * s + 4 ≤ x ∧ x < 98 * s + 4 + (c + 1 + cl)) → x ≠ 98 * s + 3 → vR1 v s (nI u) (c + 1 + cl) ln x = v x := by
    intro x h1 h2 h3
    unfold vR1; simp (disch := omega) only [vTl_o, u_ne, vSt_o]
  have y6 : vR1 v s (nI u) (c + 1 + cl) ln (98 * s + 3) = v (98 * s + 3) + 1 := by
    unfold vR1; simp (disch := omega) only [vTl_o, u_ne, u_eq]
  have yl : ∀ k, k < c + 1 + cl → vR1 v s (nI u) (c + 1 + cl) ln (98 * s + (4 + k)) = vLn v s (nI u) (c + 1 + cl) k := by
    intro k hk
    unfold vR1; simp (disch := omega) only [vTl_o, u_ne]
    rw [vSt, if_pos (by omega), show 98 * s + (4 + k) - (98 * s + 4) = k by omega]
  have y5 : vR1 v s (nI u) (c + 1 + cl) ln 595 = nI (lnx ln) := by
    unfold vR1
    refine vTl_n ?_ l1
    simp (disch := omega) only [u_ne, vSt_o]; exact l2
  have hX2 : ∀ x j, ¬ (x = 190 ∧ j = 6) → ¬ (x = 191 ∧ j < c + 1 + cl) → wSt X 190 (nI ru) (nI u) (c + 1 + cl) (c + 1 + cl) x j = I0 x j := fun x j h1 h2 => by rw [wSt, if_neg (by omega), hX x j h1]
  have hXl : ∀ k, k < c + 1 + cl → wSt X 190 (nI ru) (nI u) (c + 1 + cl) (c + 1 + cl) (190 + 1) k = wLn I0 190 (nI ru) (nI u) (c + 1 + cl) k := fun k hk => by rw [wSt, if_pos ⟨rfl, hk⟩, eL]
  have hXf : ∀ x, x ≠ 190 ∧ x ≠ 191 → wSt X 190 (nI ru) (nI u) (c + 1 + cl) (c + 1 + cl) x = X x := fun x hx => by funext j; rw [wSt_o (by omega)]
  generalize vR1 v s (nI u) (c + 1 + cl) ln = w at y1 y6 yl y5 ⊢
  generalize wSt X 190 (nI ru) (nI u) (c + 1 + cl) (c + 1 + cl) = Y at hst hX2 hXl hXf
  by_cases e : fB (vBd v s (nI u) (c + 1 + cl)) (c + 1 + cl) (c + 1 + cl) = c + 1 + cl
  · refine ⟨Y, hXf, Or.inl ⟨e, fun Q => ?_, ⟨⟨mSet Y 190 6 (I0 190 6 + 1), ?_, fun x j h => (s_ne h).symm⟩, by rw [y1 _ (by omega) (by omega) (by omega)]; exact r1, by rw [y1 _ (by omega) (by omega) (by omega)]; exact r2, lnx ln, lnx_le l1, y5⟩⟩⟩
    · rw [hst, if_pos e]
    · refine rW_str (ru := ru) (lm := lm) (u := u) hw r1 hru r2 hlm hu (by omega) (Nat.le_refl _) f5 (fun q => ⟨q, rfl⟩) ?_ ?_ ?_ ?_ ?_ ?_ ?_ ?_ (fun k hk => ?_) (fun k hk => ?_) (fun k hk => ?_) (fun k hk => ?_) (fun k hk => ?_) (fun i hi => ?_)
      · rw [s_ne (by omega), hX2 _ _ (by omega) (by omega)]; exact f1
      · rw [s_ne (by omega), hX2 _ _ (by omega) (by omega)]; exact f2
      · rw [s_ne (by omega), hX2 _ _ (by omega) (by omega)]; exact f3
      · exact s_eq
      · rw [y1 _ (by omega) (by omega) (by omega)]; exact w1
      · rw [y1 _ (by omega) (by omega) (by omega)]; exact w2
      · rw [y1 _ (by omega) (by omega) (by omega)]; exact w3
      · exact y6
      · rw [s_ne (by omega)]; exact hXl k hk
      · rw [s_ne (by omega), hX2 _ _ (by omega) (by omega)]
      · rw [s_ne (by omega), hX2 _ _ (by omega) (by omega)]
      · exact yl k hk
      · exact y1 _ (by omega) (by omega) (by omega)
      · exact y1 _ (by omega) (by omega) (by omega)
  · generalize hfi : fB (vBd v s (nI u) (c + 1 + cl)) (c + 1 + cl) (c + 1 + cl) = f at hst e fle ⊢
    have kl := kLet_le c f
    have hlx := lnx_le l1
    have hV2 : vR2 w s c cl f (lnx ln) = vU (vU (vU (vTl (vU (vU w 593 (w 593 + 1)) 594 (w 594 + nI (c - kLet c f))) (lnx ln) 2 (nI s) (nI (c + 1 + cl - f))) (98 * s) (if f = 0 then 0 else 1)) (98 * s + 1) 0) (98 * s + 2) (nI (kLet c f)) := by
      unfold vR2
      rw [kLet_v, kLet_lost f5 (by omega)]
    refine ⟨cBr Y 190 c f, fun x hx => ?_, Or.inr ⟨e, f, Y, kLet c f, by omega, hXf, fun Q => ?_, fun Q => ?_, kl, ?_⟩⟩
    · rw [← hXf x hx]; funext j; rw [cBr_o (Or.inl hx.1)]
    · rw [hst, if_neg e]
    · rw [m_breakAt gw (c := c) (by rw [hX2 _ _ (by omega) (by omega)]; exact f3) f6 (by omega)]
      unfold cBr kLet
      by_cases e0 : f = 0
      · rw [if_pos e0, if_pos e0]
      · rw [if_neg e0, if_neg e0, if_neg e0]
    · rw [hV2]
      refine ⟨if f = 0 then 0 else 1, 0, by split <;> omega, by omega, cBr_4, cBr_5, by omega, ⟨?_, ?_, ?_, by split <;> omega, by omega, by omega⟩, fun hc => ?_⟩
      · simp (disch := omega) only [u_ne, u_eq]
        split <;> rfl
      · simp (disch := omega) only [u_ne, u_eq]; rfl
      · simp (disch := omega) only [u_eq]
      · have e0 : ¬ f = 0 := by
          intro e0
          subst e0
          unfold kLet at hc
          simp at hc
        have hk2 : kLet c f + 1 ≤ f := by unfold kLet; split <;> (try split) <;> omega
        have hw2 : rW (mSet (cBr Y 190 c f) 190 6 (I0 190 6 + 1)) 190 (vU (vU (vU (vTl (vU (vU w 593 (w 593 + 1)) 594 (w 594 + nI (c - kLet c f))) (lnx ln) 2 (nI s) (nI (c + 1 + cl - f))) (98 * s) (if f = 0 then 0 else 1)) (98 * s + 1) 0) (98 * s + 2) (nI (kLet c f))) s 1 0 (kLet c f) := by
          refine rW_str (ru := ru) (lm := lm) (u := u) hw r1 hru r2 hlm hu (by omega) kl (by omega) (fun q => absurd q (by omega)) ?_ ?_ ?_ ?_ ?_ ?_ ?_ ?_ (fun k hk => ?_) (fun k hk => ?_) (fun k hk => ?_) (fun k hk => ?_) (fun k hk => ?_) (fun i hi => ?_)
          · simp (disch := omega) only [s_ne, cBr, if_neg, hX2]; exact f1
          · simp (disch := omega) only [s_ne, cBr_4]; rfl
          · simp (disch := omega) only [s_ne, cBr_5]
          · exact s_eq
          · simp (disch := omega) only [u_ne, u_eq, if_neg]
          · simp (disch := omega) only [u_ne, u_eq]; rfl
          · simp (disch := omega) only [u_eq]
          · simp (disch := omega) only [vTl_o, u_ne, y6]
          · rw [s_ne (by omega), cBr_o (by omega)]; exact hXl k (by omega)
          · rw [s_ne (by omega), cBr_o (by omega), hX2 _ _ (by omega) (by omega)]
          · rw [s_ne (by omega), cBr_o (by omega), hX2 _ _ (by omega) (by omega)]
          · simp (disch := omega) only [vTl_o, u_ne, yl]
          · simp (disch := omega) only [vTl_o, u_ne, y1]
          · simp (disch := omega) only [vTl_o, u_ne, y1]
        obtain ⟨-, -, -, -, -, q3, q4, -⟩ := hw2
        refine ⟨fun k hk => ⟨?_, okL_G (q3 k hk).2.2⟩, fun i hi => ⟨?_, (q4 i hi).2⟩⟩
        · rw [← (q3 k hk).1, s_ne (by omega)]
        · rw [← (q4 i hi).1, s_ne (by omega)]
end
section
/-! errorsAfter, safeRewinds -/
theorem m_oneI {y : Int32} {h : mH} {Q : Option Value → mH → Prop} (c : ¬ (y < 0 ∨ 1 < y)) : EvM 84 [.int y] h Q ↔ Q (some (.int 1)) h := by
  obtain ⟨k, hk, rfl⟩ := in_rng (n := 1) (by omega) (fun q => c (Or.inl q)) (fun q => c (Or.inr q))
  rw [m_isWayOfOneEnd]
  rcases (show k = 0 ∨ k = 1 by omega) with rfl | rfl
  · rw [if_pos (show nI 0 = 0 from rfl)]
  · rw [if_neg (by decide), if_pos (show nI 1 = 1 from rfl)]
theorem m_pullI {y : Int32} {h : mH} {Q : Option Value → mH → Prop} (c : ¬ (y < 0 ∨ 9 < y)) : EvM 82 [.int y] h Q ↔ Q (some (.int 1)) h := by
  rw [m_isPull, if_neg (fun q => c (Or.inl q)), if_neg (fun q => c (Or.inr q))]
/-- the row behind d rewinds, or behind the one that breaks the wire -/
noncomputable def wAft (s u : Nat) : Nat → (Nat → Int32) → Nat → Int32
  | 0, v => v
  | d + 1, v => @ite _ (gOk v s u) (Nat.decEq _ _) (wAft s u d (gR1 v s u)) (gR2 v s u)
theorem wAft_ok {s u d : Nat} {v : Nat → Int32} (h : gOk v s u) : wAft s u (d + 1) v = wAft s u d (gR1 v s u) := if_pos h
theorem wAft_no {s u d : Nat} {v : Nat → Int32} (h : ¬ gOk v s u) : wAft s u (d + 1) v = gR2 v s u := if_neg h
set_option maxHeartbeats 8000000 in
theorem ea_loop {K : mK} {R : Nat → Nat → Option Nat} {s cl ru lm u T a : Nat} {y : Int32} (gw : zW K R 190) (hs : s < 6) (hru : ru ≤ 2) (hlm : lm ≤ 200) (hu : u ≤ 9) (hT : T ≤ 30) (a0 : K.2.2.1 0 = (1, 7)) (a1 : R 0 0 = some 1) (a8 : R 0 8 = some 190) (gs0 : K.2.2.1 1 = (1, 4)) :
    ∀ (d t : Nat), t + d = T → ∀ (X : Nat → Nat → Int32) (v : Nat → Int32) (c : Nat) (l8 : Value), tI X v s cl c ru lm → X 1 2 = nI ru → X 1 3 = nI lm → ∃ X' c', c' ≤ c ∧ rFin X' (wAft s u d v) s c' ∧ (∀ x, x ≠ 190 ∧ x ≠ 191 → X' x = X x) ∧
      (∀ Q, (∀ l6 l7 l8, Ev 77 (mB 77 135) [.ref 0, .int (nI s), .int y, .int (nI u), .int (nI T), .ref a, l6, l7, l8] [] (K, R, X') Q) → Ev 77 (mB 77 75) [.ref 0, .int (nI s), .int y, .int (nI u), .int (nI T), .ref a, .int 1, .int (nI t), l8] [] (K, R, X) Q) := by
  have gz := gw.1
  intro d
  induction d with
  | zero =>
    intro t ht X v c l8 h e2 e3
    have hte : t = T := by omega
    subst hte
    refine ⟨X, c, Nat.le_refl _, tI_fin h, fun _ _ => rfl, fun Q hQ => ?_⟩
    rw [B_77_75]
    simp (disch := omega) only [e_iconst, e_bipush, e_sipush, e_iload_n, e_iload, e_aload_n, e_aload, e_istore_n, e_istore, e_astore_n, e_astore, e_iinc, e_iadd, e_isub, e_imul, e_iand, e_ishr, e_idiv, e_i2c, e_dup_i, e_dup_r, e_dup2, e_pop, e_goto, e_nop, e_if_eq, e_if_ne, e_if_lt, e_if_ge, e_if_gt, e_if_le, e_icmp_eq, e_icmp_ne, e_icmp_lt, e_icmp_ge, e_icmp_gt, e_icmp_le, e_tsw, e_ret0, e_ret1, e_retn, e_getI, e_getZ, e_getR, e_getV, e_getC, e_putI, e_putZ, e_putF, e_gst0, e_gst1, e_sld, e_iald, e_cald, e_bald, e_iast, e_cast, e_aald, e_aast, e_alen, e_slen, e_blen, e_newa, e_newq, e_new, e_oinit, e_ctor, e_virt, e_stat, e_min, e_copy, e_ldc, List.cons_append, List.nil_append, List.append_nil, List.length_cons, List.length_nil, List.replicate_succ, List.replicate_zero, List.getElem?_cons_zero, List.getElem?_cons_succ, List.set_cons_zero, List.set_cons_succ, List.take_succ_cons, List.take_zero, List.drop_succ_cons, List.drop_zero, List.reverse_cons, List.reverse_nil, Option.toList_some, Option.toList_none, Nat.reduceSub, Nat.reduceAdd, Nat.reduceLeDiff, true_and, and_true, and_self, Option.some.injEq, exists_eq_left', Nat.zero_add, Value.int.injEq, Value.ref.injEq, List.cons.injEq, exists_and_left, and_assoc, exists_eq_left, List.all_cons, List.all_nil, m1_i, m1_r, Bool.and_self, Bool.and_true, bk_77_75, n_le, if_pos, Nat.le_refl, if_pos, if_neg, not_true_eq_false, not_false_eq_true, or_true, true_or, or_false, false_or, false_and, and_false, Nat.reduceEqDiff, Nat.reduceLT, Nat.reduceMul, Nat.not_lt_zero, Nat.zero_le, Nat.le_refl, ne_eq, reduceIte, reduceCtorEq]
    exact hQ _ _ _
  | succ d ih =>
    intro t ht X v c l8 h e2 e3
    have hle : ¬ T ≤ t := by omega
    obtain ⟨X1, x1, x3⟩ := tr_turn gw hs hru hlm hu h
    rcases x3 with ⟨ok, y1, y2⟩ | ⟨ok, f, Y, c', f1, f2, y1, y2, y3, y4⟩
    · obtain ⟨X', c', z1, z2, z3, z5⟩ := ih (t + 1) (by omega) X1 _ c (.int (-1)) y2 (by rw [x1 1 (by omega)]; exact e2) (by rw [x1 1 (by omega)]; exact e3)
      refine ⟨X', c', z1, by rw [wAft_ok ok]; exact z2, fun x hx => by rw [z3 x hx, x1 x hx], fun Q hQ => ?_⟩
      have q := z5 Q hQ
      rw [B_77_75]
      simp (disch := omega) only [e_iconst, e_bipush, e_sipush, e_iload_n, e_iload, e_aload_n, e_aload, e_istore_n, e_istore, e_astore_n, e_astore, e_iinc, e_iadd, e_isub, e_imul, e_iand, e_ishr, e_idiv, e_i2c, e_dup_i, e_dup_r, e_dup2, e_pop, e_goto, e_nop, e_if_eq, e_if_ne, e_if_lt, e_if_ge, e_if_gt, e_if_le, e_icmp_eq, e_icmp_ne, e_icmp_lt, e_icmp_ge, e_icmp_gt, e_icmp_le, e_tsw, e_ret0, e_ret1, e_retn, e_getI, e_getZ, e_getR, e_getV, e_getC, e_putI, e_putZ, e_putF, e_gst0, e_gst1, e_sld, e_iald, e_cald, e_bald, e_iast, e_cast, e_aald, e_aast, e_alen, e_slen, e_blen, e_newa, e_newq, e_new, e_oinit, e_ctor, e_virt, e_stat, e_min, e_copy, e_ldc, List.cons_append, List.nil_append, List.append_nil, List.length_cons, List.length_nil, List.replicate_succ, List.replicate_zero, List.getElem?_cons_zero, List.getElem?_cons_succ, List.set_cons_zero, List.set_cons_succ, List.take_succ_cons, List.take_zero, List.drop_succ_cons, List.drop_zero, List.reverse_cons, List.reverse_nil, Option.toList_some, Option.toList_none, Nat.reduceSub, Nat.reduceAdd, Nat.reduceLeDiff, true_and, and_true, and_self, Option.some.injEq, exists_eq_left', Nat.zero_add, Value.int.injEq, Value.ref.injEq, List.cons.injEq, exists_and_left, and_assoc, exists_eq_left, List.all_cons, List.all_nil, m1_i, m1_r, Bool.and_self, Bool.and_true, bk_77_75, n_le, hle, if_neg, a0, a1, a8, gs0, gz, e2, e3, C_51, y1, o_eq, if_pos, if_neg, not_true_eq_false, not_false_eq_true, or_true, true_or, or_false, false_or, false_and, and_false, Nat.reduceEqDiff, Nat.reduceLT, Nat.reduceMul, Nat.not_lt_zero, Nat.zero_le, Nat.le_refl, ne_eq, reduceIte, reduceCtorEq]
      rw [B_77_129]
      simp (disch := omega) only [e_iconst, e_bipush, e_sipush, e_iload_n, e_iload, e_aload_n, e_aload, e_istore_n, e_istore, e_astore_n, e_astore, e_iinc, e_iadd, e_isub, e_imul, e_iand, e_ishr, e_idiv, e_i2c, e_dup_i, e_dup_r, e_dup2, e_pop, e_goto, e_nop, e_if_eq, e_if_ne, e_if_lt, e_if_ge, e_if_gt, e_if_le, e_icmp_eq, e_icmp_ne, e_icmp_lt, e_icmp_ge, e_icmp_gt, e_icmp_le, e_tsw, e_ret0, e_ret1, e_retn, e_getI, e_getZ, e_getR, e_getV, e_getC, e_putI, e_putZ, e_putF, e_gst0, e_gst1, e_sld, e_iald, e_cald, e_bald, e_iast, e_cast, e_aald, e_aast, e_alen, e_slen, e_blen, e_newa, e_newq, e_new, e_oinit, e_ctor, e_virt, e_stat, e_min, e_copy, e_ldc, List.cons_append, List.nil_append, List.append_nil, List.length_cons, List.length_nil, List.replicate_succ, List.replicate_zero, List.getElem?_cons_zero, List.getElem?_cons_succ, List.set_cons_zero, List.set_cons_succ, List.take_succ_cons, List.take_zero, List.drop_succ_cons, List.drop_zero, List.reverse_cons, List.reverse_nil, Option.toList_some, Option.toList_none, Nat.reduceSub, Nat.reduceAdd, Nat.reduceLeDiff, true_and, and_true, and_self, Option.some.injEq, exists_eq_left', Nat.zero_add, Value.int.injEq, Value.ref.injEq, List.cons.injEq, exists_and_left, and_assoc, exists_eq_left, List.all_cons, List.all_nil, m1_i, m1_r, Bool.and_self, Bool.and_true, bk_77_129, o_add_l, if_pos, if_neg, not_true_eq_false, not_false_eq_true, or_true, true_or, or_false, false_or, false_and, and_false, Nat.reduceEqDiff, Nat.reduceLT, Nat.reduceMul, Nat.not_lt_zero, Nat.zero_le, Nat.le_refl, ne_eq, reduceIte, reduceCtorEq]
      exact q
    · refine ⟨X1, c', y3, by rw [wAft_no ok]; exact y4, x1, fun Q hQ => ?_⟩
      rw [B_77_75]
      simp (disch := omega) only [e_iconst, e_bipush, e_sipush, e_iload_n, e_iload, e_aload_n, e_aload, e_istore_n, e_istore, e_astore_n, e_astore, e_iinc, e_iadd, e_isub, e_imul, e_iand, e_ishr, e_idiv, e_i2c, e_dup_i, e_dup_r, e_dup2, e_pop, e_goto, e_nop, e_if_eq, e_if_ne, e_if_lt, e_if_ge, e_if_gt, e_if_le, e_icmp_eq, e_icmp_ne, e_icmp_lt, e_icmp_ge, e_icmp_gt, e_icmp_le, e_tsw, e_ret0, e_ret1, e_retn, e_getI, e_getZ, e_getR, e_getV, e_getC, e_putI, e_putZ, e_putF, e_gst0, e_gst1, e_sld, e_iald, e_cald, e_bald, e_iast, e_cast, e_aald, e_aast, e_alen, e_slen, e_blen, e_newa, e_newq, e_new, e_oinit, e_ctor, e_virt, e_stat, e_min, e_copy, e_ldc, List.cons_append, List.nil_append, List.append_nil, List.length_cons, List.length_nil, List.replicate_succ, List.replicate_zero, List.getElem?_cons_zero, List.getElem?_cons_succ, List.set_cons_zero, List.set_cons_succ, List.take_succ_cons, List.take_zero, List.drop_succ_cons, List.drop_zero, List.reverse_cons, List.reverse_nil, Option.toList_some, Option.toList_none, Nat.reduceSub, Nat.reduceAdd, Nat.reduceLeDiff, true_and, and_true, and_self, Option.some.injEq, exists_eq_left', Nat.zero_add, Value.int.injEq, Value.ref.injEq, List.cons.injEq, exists_and_left, and_assoc, exists_eq_left, List.all_cons, List.all_nil, m1_i, m1_r, Bool.and_self, Bool.and_true, bk_77_75, n_le, hle, if_neg, a0, a1, a8, gs0, gz, e2, e3, C_51, C_52, y1, y2, n_m1, o_eq, if_pos, if_neg, not_true_eq_false, not_false_eq_true, or_true, true_or, or_false, false_or, false_and, and_false, Nat.reduceEqDiff, Nat.reduceLT, Nat.reduceMul, Nat.not_lt_zero, Nat.zero_le, Nat.le_refl, ne_eq, reduceIte, reduceCtorEq]
      rw [B_77_129]
      simp (disch := omega) only [e_iconst, e_bipush, e_sipush, e_iload_n, e_iload, e_aload_n, e_aload, e_istore_n, e_istore, e_astore_n, e_astore, e_iinc, e_iadd, e_isub, e_imul, e_iand, e_ishr, e_idiv, e_i2c, e_dup_i, e_dup_r, e_dup2, e_pop, e_goto, e_nop, e_if_eq, e_if_ne, e_if_lt, e_if_ge, e_if_gt, e_if_le, e_icmp_eq, e_icmp_ne, e_icmp_lt, e_icmp_ge, e_icmp_gt, e_icmp_le, e_tsw, e_ret0, e_ret1, e_retn, e_getI, e_getZ, e_getR, e_getV, e_getC, e_putI, e_putZ, e_putF, e_gst0, e_gst1, e_sld, e_iald, e_cald, e_bald, e_iast, e_cast, e_aald, e_aast, e_alen, e_slen, e_blen, e_newa, e_newq, e_new, e_oinit, e_ctor, e_virt, e_stat, e_min, e_copy, e_ldc, List.cons_append, List.nil_append, List.append_nil, List.length_cons, List.length_nil, List.replicate_succ, List.replicate_zero, List.getElem?_cons_zero, List.getElem?_cons_succ, List.set_cons_zero, List.set_cons_succ, List.take_succ_cons, List.take_zero, List.drop_succ_cons, List.drop_zero, List.reverse_cons, List.reverse_nil, Option.toList_some, Option.toList_none, Nat.reduceSub, Nat.reduceAdd, Nat.reduceLeDiff, true_and, and_true, and_self, Option.some.injEq, exists_eq_left', Nat.zero_add, Value.int.injEq, Value.ref.injEq, List.cons.injEq, exists_and_left, and_assoc, exists_eq_left, List.all_cons, List.all_nil, m1_i, m1_r, Bool.and_self, Bool.and_true, bk_77_129, o_add_l, if_pos, if_neg, not_true_eq_false, not_false_eq_true, or_true, true_or, or_false, false_or, false_and, and_false, Nat.reduceEqDiff, Nat.reduceLT, Nat.reduceMul, Nat.not_lt_zero, Nat.zero_le, Nat.le_refl, ne_eq, reduceIte, reduceCtorEq]
      rw [B_77_75]
      simp (disch := omega) only [e_iconst, e_bipush, e_sipush, e_iload_n, e_iload, e_aload_n, e_aload, e_istore_n, e_istore, e_astore_n, e_astore, e_iinc, e_iadd, e_isub, e_imul, e_iand, e_ishr, e_idiv, e_i2c, e_dup_i, e_dup_r, e_dup2, e_pop, e_goto, e_nop, e_if_eq, e_if_ne, e_if_lt, e_if_ge, e_if_gt, e_if_le, e_icmp_eq, e_icmp_ne, e_icmp_lt, e_icmp_ge, e_icmp_gt, e_icmp_le, e_tsw, e_ret0, e_ret1, e_retn, e_getI, e_getZ, e_getR, e_getV, e_getC, e_putI, e_putZ, e_putF, e_gst0, e_gst1, e_sld, e_iald, e_cald, e_bald, e_iast, e_cast, e_aald, e_aast, e_alen, e_slen, e_blen, e_newa, e_newq, e_new, e_oinit, e_ctor, e_virt, e_stat, e_min, e_copy, e_ldc, List.cons_append, List.nil_append, List.append_nil, List.length_cons, List.length_nil, List.replicate_succ, List.replicate_zero, List.getElem?_cons_zero, List.getElem?_cons_succ, List.set_cons_zero, List.set_cons_succ, List.take_succ_cons, List.take_zero, List.drop_succ_cons, List.drop_zero, List.reverse_cons, List.reverse_nil, Option.toList_some, Option.toList_none, Nat.reduceSub, Nat.reduceAdd, Nat.reduceLeDiff, true_and, and_true, and_self, Option.some.injEq, exists_eq_left', Nat.zero_add, Value.int.injEq, Value.ref.injEq, List.cons.injEq, exists_and_left, and_assoc, exists_eq_left, List.all_cons, List.all_nil, m1_i, m1_r, Bool.and_self, Bool.and_true, bk_77_75, n_le, o_eq, if_pos, if_neg, not_true_eq_false, not_false_eq_true, or_true, true_or, or_false, false_or, false_and, and_false, Nat.reduceEqDiff, Nat.reduceLT, Nat.reduceMul, Nat.not_lt_zero, Nat.zero_le, Nat.le_refl, ne_eq, reduceIte, reduceCtorEq]
      split
      · exact hQ _ _ _
      · exact hQ _ _ _
theorem SCR_tri {I X : Nat → Nat → Int32} (h : ∀ x, x < 185 → X x = I x) : SCR I X := h
/-- what errorsAfter answers -/
noncomputable def aAfter (v : Nat → Int32) (s w u T : Nat) : Int32 := if gp v s = 0 then -4 else nI (gc v s - gc (wAft s u T v) s + gTot (wAft s u T v) s w)
theorem one_rng {w : Nat} (h : w ≤ 1) : ¬ (nI w < 0 ∨ 1 < nI w) := by
  rintro (e | e)
  · exact n_ne0 (by omega) e
  · rw [show (1 : Int32) = nI 1 from rfl, n_lt (by omega) (by omega)] at e; omega
theorem pull_rng {w : Nat} (h : w ≤ 9) : ¬ (nI w < 0 ∨ 9 < nI w) := by
  rintro (e | e)
  · exact n_ne0 (by omega) e
  · rw [show (9 : Int32) = nI 9 from rfl, n_lt (by omega) (by omega)] at e; omega
theorem one_n2 {w : Nat} (h : w ≤ 1) : nI w ≠ 2 := by
  intro e
  rw [show (2 : Int32) = nI 2 from rfl, n_eq (by omega) (by omega)] at e; omega
set_option maxHeartbeats 8000000 in
theorem q_after {K : mK} {R : Nat → Nat → Option Nat} {I : Nat → Nat → Int32} {v H TT : Nat → Int32} {n tt : Nat} (hrel : REL K R I v n H tt TT) (s w u T : Nat) (hs : s < 6) (hw0 : w ≤ 1) (hu : u ≤ 9) (hT30 : T ≤ 30) : QO 77 [.int (nI s), .int (nI w), .int (nI u), .int (nI T)] K R I (aAfter v s w u T) := by
  obtain ⟨f, g, hv, hn2, hn, hH, hP, hT⟩ := id hrel
  have q4 := qTu_lt g hn2
  obtain ⟨gs, -, gh, gw, gr, gr', ⟨a0, a1, a2, a3, a4, a5, a6, a7, a8⟩, ⟨b0, b1, b2⟩, cc0⟩ := id g
  have gs0 : K.2.2.1 1 = (1, 4) := gs.1
  have gs1 : R 1 0 = some 2 := gs.2.1
  have gs2 : K.2.2.1 2 = (4, 6) := gs.2.2.1
  have gs3 : R 1 1 = some 3 := gs.2.2.2.1
  have gs4 : zL K R 3 := gs.2.2.2.2.1
  have gW : ∀ s, s < 6 → zW K R (7 + 4 * s) := fun s hs => (gs.2.2.2.2.2.2 s hs).2
  have gR : ∀ s, s < 6 → R 2 s = some (7 + 4 * s) := fun s hs => (gs.2.2.2.2.2.2 s hs).1
  have gh0 := gh.1
  have gsl : K.2.2.1 3 = (1, 2) := gs4.1
  have gT := zG_tu (n := n) g
  have gst : zS K (RTu R n) 1 := gT.1
  have gt1 : RTu R n 1 0 = some 2 := gst.2.1
  have gt3 : RTu R n 1 1 = some 3 := gst.2.2.2.1
  have gt4 : zL K (RTu R n) 3 := gst.2.2.2.2.1
  have gWt : ∀ s, s < 6 → zW K (RTu R n) (7 + 4 * s) := fun s hs => (gst.2.2.2.2.2.2 s hs).2
  have gRt : ∀ s, s < 6 → RTu R n 2 s = some (7 + 4 * s) := fun s hs => (gst.2.2.2.2.2.2 s hs).1
  obtain ⟨-, a1t, a2t, a3t, a4t, a5t, a6t, a7t, a8t⟩ := gT.2.2.2.2.2.2.1
  have c1 := one_rng hw0
  have c2 := pull_rng hu
  have hy := one_n2 hw0
  obtain ⟨pA, clA, cA, hwA⟩ := hv.1 s hs
  rw [show 1 + 6 + 4 * s = 7 + 4 * s by omega] at hwA
  obtain ⟨wfA, vfA, k0A, k1A, k2A, k3A, k4A, k5A⟩ := id hwA
  obtain ⟨f1A, f2A, f3A, f4A, f5A, f6A⟩ := id wfA
  obtain ⟨v1A, v2A, v3A, -⟩ := id vfA
  have zwA := gW s hs
  have zwtA := gWt s hs
  have rwA := gR s hs
  have rwtA := gRt s hs
  have zw0A : K.2.2.1 (7 + 4 * s) = (1, 6) := zwA.1
  obtain ⟨g1, g2, g3⟩ := g_vF vfA
  unfold aAfter
  rw [g1, g3]
  rcases (show pA = 0 ∨ pA = 1 by omega) with rfl | rfl
  · rw [if_pos rfl]
    refine ⟨I, ?_, SCR_id⟩
    simp (disch := omega) only [e_iconst, e_bipush, e_sipush, e_iload_n, e_iload, e_aload_n, e_aload, e_istore_n, e_istore, e_astore_n, e_astore, e_iinc, e_iadd, e_isub, e_imul, e_iand, e_ishr, e_idiv, e_i2c, e_dup_i, e_dup_r, e_dup2, e_pop, e_goto, e_nop, e_if_eq, e_if_ne, e_if_lt, e_if_ge, e_if_gt, e_if_le, e_icmp_eq, e_icmp_ne, e_icmp_lt, e_icmp_ge, e_icmp_gt, e_icmp_le, e_tsw, e_ret0, e_ret1, e_retn, e_getI, e_getZ, e_getR, e_getV, e_getC, e_putI, e_putZ, e_putF, e_gst0, e_gst1, e_sld, e_iald, e_cald, e_bald, e_iast, e_cast, e_aald, e_aast, e_alen, e_slen, e_blen, e_newa, e_newq, e_new, e_oinit, e_ctor, e_virt, e_stat, e_min, e_copy, e_ldc, List.cons_append, List.nil_append, List.append_nil, List.length_cons, List.length_nil, List.replicate_succ, List.replicate_zero, List.getElem?_cons_zero, List.getElem?_cons_succ, List.set_cons_zero, List.set_cons_succ, List.take_succ_cons, List.take_zero, List.drop_succ_cons, List.drop_zero, List.reverse_cons, List.reverse_nil, Option.toList_some, Option.toList_none, Nat.reduceSub, Nat.reduceAdd, Nat.reduceLeDiff, true_and, and_true, and_self, Option.some.injEq, exists_eq_left', Nat.zero_add, Value.int.injEq, Value.ref.injEq, List.cons.injEq, exists_and_left, and_assoc, exists_eq_left, List.all_cons, List.all_nil, m1_i, m1_r, Bool.and_self, Bool.and_true, E_in 77, N_77, B_77_0, bk_77_0, B_77_9, bk_77_9, B_77_38, bk_77_38, C_81, C_84, C_82, m_isSp hs, m_oneI c1, m_pullI c2, n_ne0, o_le_l, if_pos, a0, a1, gs0, gs1, gs2, zw0A, rwA, n_in, n_cl, true_or, or_true, f1A, o_eq_l, o_eq, if_pos, if_neg, not_true_eq_false, not_false_eq_true, or_true, true_or, or_false, false_or, false_and, and_false, Nat.reduceEqDiff, Nat.reduceLT, Nat.reduceMul, Nat.not_lt_zero, Nat.zero_le, Nat.le_refl, ne_eq, reduceIte, reduceCtorEq]
  rw [if_neg (by omega)]
  obtain ⟨e2, e3, e4, e5, e6, e7, e8, ⟨ru, ru1, ru2⟩, ⟨lm, lm0, lm1, lm2⟩, ln, l1, l2, l3, l4⟩ := id hv.2
  have grz := gr'.1
  have gz := gw.1
  -- the trial wire
  have wc : ∀ x, x ≠ 190 ∧ x ≠ 191 ∧ x ≠ 192 ∧ x ≠ 193 → wCp I 190 (7 + 4 * s) x = I x := fun x hx => by
    funext j
    unfold wCp
    rw [if_neg (by omega), if_neg (by omega), if_neg (by omega), if_neg (by omega)]
  have hti : tI (wCp I 190 (7 + 4 * s)) v s clA cA ru lm := by
    refine ⟨⟨wCp I 190 (7 + 4 * s), rW_cong hwA (fun d j hd hd0 hj => ?_) (fun _ _ _ => rfl), fun _ _ _ => rfl⟩, ru2, lm2, ln, l1, l3⟩
    unfold wCp
    rcases (show d = 0 ∨ d = 1 ∨ d = 2 ∨ d = 3 by omega) with rfl | rfl | rfl | rfl
    · rw [if_pos ⟨rfl, (hd0 rfl).1, (hd0 rfl).2⟩]; rfl
    · rw [if_neg (by omega), if_pos ⟨rfl, hj⟩]
    · rw [if_neg (by omega), if_neg (by omega), if_pos ⟨rfl, hj⟩]
    · rw [if_neg (by omega), if_neg (by omega), if_neg (by omega), if_pos ⟨rfl, hj⟩]
  obtain ⟨X', c', z1, z2, z3, z5⟩ := ea_loop (y := nI w) (a := 7 + 4 * s) gw hs ru1 lm1 hu hT30 a0 a1 a8 gs0 T 0 (by omega) (wCp I 190 (7 + 4 * s)) v cA .null hti (by rw [wc _ (by omega), e2, ru2]) (by rw [wc _ (by omega), e3, lm2])
  generalize wAft s u T v = v' at z2 ⊢
  have X5 : X' (7 + 4 * s) 5 = nI cA := by rw [z3 _ (by omega), wc _ (by omega)]; exact f3A
  have X190 := z2
  obtain ⟨pf, clf, pf1, clf1, -, x5, xc, xvF, -⟩ := X190
  obtain ⟨-, -, g5⟩ := g_vF xvF
  unfold gTot
  rw [g5]
  have rc := fun Q => rFin_c (Q := Q) z2 hy gr' gw
  obtain ⟨-, -, rc2, rc3⟩ := rc (fun _ _ => True)
  have rc1 := fun Q => (rc Q).1
  have eqn : cnt (pMi (nbR v' s c' (nI w)) (trR v' s)) c' + cnt (pUn (nbR v' s c' (nI w)) (trR v' s)) c' + cA - c' = cA - c' + tot (nbR v' s c' (nI w)) (trR v' s) c' := by unfold tot; omega
  have cnl1 := cnt_le (pMi (nbR v' s c' (nI w)) (trR v' s)) c'
  have cnl2 := cnt_le (pUn (nbR v' s c' (nI w)) (trR v' s)) c'
  refine ⟨rdS X' 188 190 c' (nI w), ?_, SCR_tri (fun x hx => by rw [rdS_o (by omega), z3 _ (by omega), wc _ (by omega)])⟩
  simp (disch := omega) only [e_iconst, e_bipush, e_sipush, e_iload_n, e_iload, e_aload_n, e_aload, e_istore_n, e_istore, e_astore_n, e_astore, e_iinc, e_iadd, e_isub, e_imul, e_iand, e_ishr, e_idiv, e_i2c, e_dup_i, e_dup_r, e_dup2, e_pop, e_goto, e_nop, e_if_eq, e_if_ne, e_if_lt, e_if_ge, e_if_gt, e_if_le, e_icmp_eq, e_icmp_ne, e_icmp_lt, e_icmp_ge, e_icmp_gt, e_icmp_le, e_tsw, e_ret0, e_ret1, e_retn, e_getI, e_getZ, e_getR, e_getV, e_getC, e_putI, e_putZ, e_putF, e_gst0, e_gst1, e_sld, e_iald, e_cald, e_bald, e_iast, e_cast, e_aald, e_aast, e_alen, e_slen, e_blen, e_newa, e_newq, e_new, e_oinit, e_ctor, e_virt, e_stat, e_min, e_copy, e_ldc, List.cons_append, List.nil_append, List.append_nil, List.length_cons, List.length_nil, List.replicate_succ, List.replicate_zero, List.getElem?_cons_zero, List.getElem?_cons_succ, List.set_cons_zero, List.set_cons_succ, List.take_succ_cons, List.take_zero, List.drop_succ_cons, List.drop_zero, List.reverse_cons, List.reverse_nil, Option.toList_some, Option.toList_none, Nat.reduceSub, Nat.reduceAdd, Nat.reduceLeDiff, true_and, and_true, and_self, Option.some.injEq, exists_eq_left', Nat.zero_add, Value.int.injEq, Value.ref.injEq, List.cons.injEq, exists_and_left, and_assoc, exists_eq_left, List.all_cons, List.all_nil, m1_i, m1_r, Bool.and_self, Bool.and_true, E_in 77, N_77, B_77_0, bk_77_0, B_77_9, bk_77_9, B_77_38, bk_77_38, C_81, C_84, C_82, m_isSp hs, m_oneI c1, m_pullI c2, n_ne0, o_le_l, if_pos, if_neg, a0, a1, gs0, gs1, gs2, zw0A, rwA, n_in, n_cl, true_or, or_true, f1A, o_eq_l, o_eq, if_pos, if_neg, not_true_eq_false, not_false_eq_true, or_true, true_or, or_false, false_or, false_and, and_false, Nat.reduceEqDiff, Nat.reduceLT, Nat.reduceMul, Nat.not_lt_zero, Nat.zero_le, Nat.le_refl, ne_eq, reduceIte, reduceCtorEq]
  simp (disch := omega) only [e_iconst, e_bipush, e_sipush, e_iload_n, e_iload, e_aload_n, e_aload, e_istore_n, e_istore, e_astore_n, e_astore, e_iinc, e_iadd, e_isub, e_imul, e_iand, e_ishr, e_idiv, e_i2c, e_dup_i, e_dup_r, e_dup2, e_pop, e_goto, e_nop, e_if_eq, e_if_ne, e_if_lt, e_if_ge, e_if_gt, e_if_le, e_icmp_eq, e_icmp_ne, e_icmp_lt, e_icmp_ge, e_icmp_gt, e_icmp_le, e_tsw, e_ret0, e_ret1, e_retn, e_getI, e_getZ, e_getR, e_getV, e_getC, e_putI, e_putZ, e_putF, e_gst0, e_gst1, e_sld, e_iald, e_cald, e_bald, e_iast, e_cast, e_aald, e_aast, e_alen, e_slen, e_blen, e_newa, e_newq, e_new, e_oinit, e_ctor, e_virt, e_stat, e_min, e_copy, e_ldc, List.cons_append, List.nil_append, List.append_nil, List.length_cons, List.length_nil, List.replicate_succ, List.replicate_zero, List.getElem?_cons_zero, List.getElem?_cons_succ, List.set_cons_zero, List.set_cons_succ, List.take_succ_cons, List.take_zero, List.drop_succ_cons, List.drop_zero, List.reverse_cons, List.reverse_nil, Option.toList_some, Option.toList_none, Nat.reduceSub, Nat.reduceAdd, Nat.reduceLeDiff, true_and, and_true, and_self, Option.some.injEq, exists_eq_left', Nat.zero_add, Value.int.injEq, Value.ref.injEq, List.cons.injEq, exists_and_left, and_assoc, exists_eq_left, List.all_cons, List.all_nil, m1_i, m1_r, Bool.and_self, Bool.and_true, B_77_60, bk_77_60, a0, a8, gz, true_or, or_true, C_36, m_wcopy gw zwA (by omega) f1A f4A f2A f5A, if_pos, if_neg, not_true_eq_false, not_false_eq_true, or_true, true_or, or_false, false_or, false_and, and_false, Nat.reduceEqDiff, Nat.reduceLT, Nat.reduceMul, Nat.not_lt_zero, Nat.zero_le, Nat.le_refl, ne_eq, reduceIte, reduceCtorEq]
  refine z5 _ (fun l6 l7 l8 => ?_)
  rw [B_77_135]
  simp (disch := omega) only [e_iconst, e_bipush, e_sipush, e_iload_n, e_iload, e_aload_n, e_aload, e_istore_n, e_istore, e_astore_n, e_astore, e_iinc, e_iadd, e_isub, e_imul, e_iand, e_ishr, e_idiv, e_i2c, e_dup_i, e_dup_r, e_dup2, e_pop, e_goto, e_nop, e_if_eq, e_if_ne, e_if_lt, e_if_ge, e_if_gt, e_if_le, e_icmp_eq, e_icmp_ne, e_icmp_lt, e_icmp_ge, e_icmp_gt, e_icmp_le, e_tsw, e_ret0, e_ret1, e_retn, e_getI, e_getZ, e_getR, e_getV, e_getC, e_putI, e_putZ, e_putF, e_gst0, e_gst1, e_sld, e_iald, e_cald, e_bald, e_iast, e_cast, e_aald, e_aast, e_alen, e_slen, e_blen, e_newa, e_newq, e_new, e_oinit, e_ctor, e_virt, e_stat, e_min, e_copy, e_ldc, List.cons_append, List.nil_append, List.append_nil, List.length_cons, List.length_nil, List.replicate_succ, List.replicate_zero, List.getElem?_cons_zero, List.getElem?_cons_succ, List.set_cons_zero, List.set_cons_succ, List.take_succ_cons, List.take_zero, List.drop_succ_cons, List.drop_zero, List.reverse_cons, List.reverse_nil, Option.toList_some, Option.toList_none, Nat.reduceSub, Nat.reduceAdd, Nat.reduceLeDiff, true_and, and_true, and_self, Option.some.injEq, exists_eq_left', Nat.zero_add, Value.int.injEq, Value.ref.injEq, List.cons.injEq, exists_and_left, and_assoc, exists_eq_left, List.all_cons, List.all_nil, m1_i, m1_r, Bool.and_self, Bool.and_true, bk_77_135, a0, a7, a8, grz, gz, zw0A, true_or, or_true, C_18, C_22, rc1, m_errorCount gr', rc2, rc3, rdS_o, X5, x5, n_add, n_sub, eqn, if_pos, if_neg, not_true_eq_false, not_false_eq_true, or_true, true_or, or_false, false_or, false_and, and_false, Nat.reduceEqDiff, Nat.reduceLT, Nat.reduceMul, Nat.not_lt_zero, Nat.zero_le, Nat.le_refl, ne_eq, reduceIte, reduceCtorEq]
theorem tI_out {X X' : Nat → Nat → Int32} {v : Nat → Int32} {s cl c ru lm : Nat} (h : tI X v s cl c ru lm) (hX : ∀ x, 190 ≤ x → x < 194 → X' x = X x) : tI X' v s cl c ru lm := by
  obtain ⟨⟨I0, hw, h0⟩, h1⟩ := h
  refine ⟨⟨fun x j => if x = 190 ∧ j = 6 then I0 x j else X' x j, rW_cong hw (fun d j hd _ _ => ?_) (fun _ _ _ => rfl), fun x j hx => (if_neg hx).symm⟩, h1⟩
  by_cases e : 190 + d = 190 ∧ j = 6
  · exact if_pos e
  · rw [← h0 _ _ e, ← hX (190 + d) (by omega) (by omega)]
    exact if_neg e
def dF (a b : Nat → Int32) (k : Nat) : Bool := !(a k == b k)
/-- how many rewinds are safe, t of them done, at most d more -/
noncomputable def wSafe (s u c : Nat) (y : Int32) (nb : Nat → Int32) : Nat → Nat → (Nat → Int32) → Nat
  | 0, t, _ => t
  | d + 1, t, v => @ite _ (gOk v s u) (Nat.decEq _ _) (if fB (dF (nbR (gR1 v s u) s c y) nb) c c = c then wSafe s u c y nb d (t + 1) (gR1 v s u) else t) t
set_option maxHeartbeats 8000000 in
theorem sr_loop {K : mK} {R : Nat → Nat → Option Nat} {s cl c ru lm u : Nat} {y : Int32} {nb : Nat → Int32} (gw : zW K R 190) (gr : zR K R 186) (gr' : zR K R 188) (hs : s < 6) (hru : ru ≤ 2) (hlm : lm ≤ 200) (hu : u ≤ 9) (hy : y ≠ 2) (hc : c ≤ 30)
    (a0 : K.2.2.1 0 = (1, 7)) (a1 : R 0 0 = some 1) (a6 : R 0 6 = some 186) (a7 : R 0 7 = some 188) (a8 : R 0 8 = some 190) (gs0 : K.2.2.1 1 = (1, 4)) (za : K.2.2.1 (7 + 4 * s) = (1, 6)) :
    ∀ (d t : Nat), t + d = 30 → ∀ (X : Nat → Nat → Int32) (v : Nat → Int32), tI X v s cl c ru lm → X 1 2 = nI ru → X 1 3 = nI lm → X (7 + 4 * s) 5 = nI c → (∀ i, i < c → X 187 i = nb i) → ∃ X', (∀ x, x < 188 ∨ 191 < x → X' x = X x) ∧
      Ev 78 (mB 78 70) [.ref 0, .int (nI s), .int y, .int (nI u), .ref (7 + 4 * s), .int (nI t)] [] (K, R, X) (fun w k => w = some (.int (nI (wSafe s u c y nb d t v))) ∧ k = (K, R, X')) := by
  have gz := gw.1
  have grz := gr.1
  have grz' := gr'.1
  intro d
  induction d with
  | zero =>
    intro t ht X v h e2 e3 e5 e7
    have hte : t = 30 := by omega
    subst hte
    refine ⟨X, fun _ _ => rfl, ?_⟩
    rw [B_78_70]
    simp (disch := omega) only [e_iconst, e_bipush, e_sipush, e_iload_n, e_iload, e_aload_n, e_aload, e_istore_n, e_istore, e_astore_n, e_astore, e_iinc, e_iadd, e_isub, e_imul, e_iand, e_ishr, e_idiv, e_i2c, e_dup_i, e_dup_r, e_dup2, e_pop, e_goto, e_nop, e_if_eq, e_if_ne, e_if_lt, e_if_ge, e_if_gt, e_if_le, e_icmp_eq, e_icmp_ne, e_icmp_lt, e_icmp_ge, e_icmp_gt, e_icmp_le, e_tsw, e_ret0, e_ret1, e_retn, e_getI, e_getZ, e_getR, e_getV, e_getC, e_putI, e_putZ, e_putF, e_gst0, e_gst1, e_sld, e_iald, e_cald, e_bald, e_iast, e_cast, e_aald, e_aast, e_alen, e_slen, e_blen, e_newa, e_newq, e_new, e_oinit, e_ctor, e_virt, e_stat, e_min, e_copy, e_ldc, List.cons_append, List.nil_append, List.append_nil, List.length_cons, List.length_nil, List.replicate_succ, List.replicate_zero, List.getElem?_cons_zero, List.getElem?_cons_succ, List.set_cons_zero, List.set_cons_succ, List.take_succ_cons, List.take_zero, List.drop_succ_cons, List.drop_zero, List.reverse_cons, List.reverse_nil, Option.toList_some, Option.toList_none, Nat.reduceSub, Nat.reduceAdd, Nat.reduceLeDiff, true_and, and_true, and_self, Option.some.injEq, exists_eq_left', Nat.zero_add, Value.int.injEq, Value.ref.injEq, List.cons.injEq, exists_and_left, and_assoc, exists_eq_left, List.all_cons, List.all_nil, m1_i, m1_r, Bool.and_self, Bool.and_true, bk_78_70, o_le_r, if_pos, Nat.le_refl, B_78_146, bk_78_146, if_pos, if_neg, not_true_eq_false, not_false_eq_true, or_true, true_or, or_false, false_or, false_and, and_false, Nat.reduceEqDiff, Nat.reduceLT, Nat.reduceMul, Nat.not_lt_zero, Nat.zero_le, Nat.le_refl, ne_eq, reduceIte, reduceCtorEq]
    rfl
  | succ d ih =>
    intro t ht X v h e2 e3 e5 e7
    have hle : ¬ 30 ≤ t := by omega
    obtain ⟨X1, x1, x3⟩ := tr_turn gw hs hru hlm hu h
    unfold wSafe
    rcases x3 with ⟨ok, y1, y2⟩ | ⟨ok, f, Y, c', f1, f2, y1, y2, y3, y4⟩
    rotate_left
    · rw [if_neg ok]
      refine ⟨Y, fun x hx => f2 x (by omega), ?_⟩
      rw [B_78_70]
      simp (disch := omega) only [e_iconst, e_bipush, e_sipush, e_iload_n, e_iload, e_aload_n, e_aload, e_istore_n, e_istore, e_astore_n, e_astore, e_iinc, e_iadd, e_isub, e_imul, e_iand, e_ishr, e_idiv, e_i2c, e_dup_i, e_dup_r, e_dup2, e_pop, e_goto, e_nop, e_if_eq, e_if_ne, e_if_lt, e_if_ge, e_if_gt, e_if_le, e_icmp_eq, e_icmp_ne, e_icmp_lt, e_icmp_ge, e_icmp_gt, e_icmp_le, e_tsw, e_ret0, e_ret1, e_retn, e_getI, e_getZ, e_getR, e_getV, e_getC, e_putI, e_putZ, e_putF, e_gst0, e_gst1, e_sld, e_iald, e_cald, e_bald, e_iast, e_cast, e_aald, e_aast, e_alen, e_slen, e_blen, e_newa, e_newq, e_new, e_oinit, e_ctor, e_virt, e_stat, e_min, e_copy, e_ldc, List.cons_append, List.nil_append, List.append_nil, List.length_cons, List.length_nil, List.replicate_succ, List.replicate_zero, List.getElem?_cons_zero, List.getElem?_cons_succ, List.set_cons_zero, List.set_cons_succ, List.take_succ_cons, List.take_zero, List.drop_succ_cons, List.drop_zero, List.reverse_cons, List.reverse_nil, Option.toList_some, Option.toList_none, Nat.reduceSub, Nat.reduceAdd, Nat.reduceLeDiff, true_and, and_true, and_self, Option.some.injEq, exists_eq_left', Nat.zero_add, Value.int.injEq, Value.ref.injEq, List.cons.injEq, exists_and_left, and_assoc, exists_eq_left, List.all_cons, List.all_nil, m1_i, m1_r, Bool.and_self, Bool.and_true, bk_78_70, o_le_r, hle, if_neg, a0, a1, a8, gs0, gz, e2, e3, C_51, y1, n_m1, if_pos, if_neg, not_true_eq_false, not_false_eq_true, or_true, true_or, or_false, false_or, false_and, and_false, Nat.reduceEqDiff, Nat.reduceLT, Nat.reduceMul, Nat.not_lt_zero, Nat.zero_le, Nat.le_refl, ne_eq, reduceIte, reduceCtorEq]
    · rw [if_pos ok]
      have hfin := tI_fin y2
      obtain ⟨-, b2, b3, b4⟩ := rFin_c (Q := fun _ _ => True) hfin hy gr' gw
      have b1 := fun Q => (rFin_c (Q := Q) hfin hy gr' gw).1
      have b5 : rdS X1 188 190 c y (7 + 4 * s) 5 = nI c := by rw [rdS_o (by omega), x1 _ (by omega)]; exact e5
      have b6 : fB (fun k => !(rdS X1 188 190 c y (188 + 1) k == rdS X1 188 190 c y (186 + 1) k)) c c = fB (dF (nbR (gR1 v s u) s c y) nb) c c := fB_cg c (Nat.le_refl _) (fun k hk => by
        show (!(rdS X1 188 190 c y 189 k == rdS X1 188 190 c y 187 k)) = _
        rw [b2 k hk, rdS_o (by omega), x1 187 (by omega), e7 k hk]; rfl)
      have b7 := fun Q => m_readTheSame (I := rdS X1 188 190 c y) (Q := Q) gr' gr hc
      rw [b6] at b7
      by_cases e : fB (dF (nbR (gR1 v s u) s c y) nb) c c = c
      · simp only [if_pos e] at b7
        rw [if_pos e]
        obtain ⟨X', z1, z3⟩ := ih (t + 1) (by omega) (rdS X1 188 190 c y) (gR1 v s u) (tI_out y2 (fun x p q => rdS_o (by omega))) (by rw [rdS_o (by omega), x1 1 (by omega)]; exact e2) (by rw [rdS_o (by omega), x1 1 (by omega)]; exact e3) b5 (fun i hi => by rw [rdS_o (by omega), x1 187 (by omega)]; exact e7 i hi)
        refine ⟨X', fun x hx => by rw [z1 x hx, rdS_o (by omega), x1 x (by omega)], ?_⟩
        rw [B_78_70]
        simp (disch := omega) only [e_iconst, e_bipush, e_sipush, e_iload_n, e_iload, e_aload_n, e_aload, e_istore_n, e_istore, e_astore_n, e_astore, e_iinc, e_iadd, e_isub, e_imul, e_iand, e_ishr, e_idiv, e_i2c, e_dup_i, e_dup_r, e_dup2, e_pop, e_goto, e_nop, e_if_eq, e_if_ne, e_if_lt, e_if_ge, e_if_gt, e_if_le, e_icmp_eq, e_icmp_ne, e_icmp_lt, e_icmp_ge, e_icmp_gt, e_icmp_le, e_tsw, e_ret0, e_ret1, e_retn, e_getI, e_getZ, e_getR, e_getV, e_getC, e_putI, e_putZ, e_putF, e_gst0, e_gst1, e_sld, e_iald, e_cald, e_bald, e_iast, e_cast, e_aald, e_aast, e_alen, e_slen, e_blen, e_newa, e_newq, e_new, e_oinit, e_ctor, e_virt, e_stat, e_min, e_copy, e_ldc, List.cons_append, List.nil_append, List.append_nil, List.length_cons, List.length_nil, List.replicate_succ, List.replicate_zero, List.getElem?_cons_zero, List.getElem?_cons_succ, List.set_cons_zero, List.set_cons_succ, List.take_succ_cons, List.take_zero, List.drop_succ_cons, List.drop_zero, List.reverse_cons, List.reverse_nil, Option.toList_some, Option.toList_none, Nat.reduceSub, Nat.reduceAdd, Nat.reduceLeDiff, true_and, and_true, and_self, Option.some.injEq, exists_eq_left', Nat.zero_add, Value.int.injEq, Value.ref.injEq, List.cons.injEq, exists_and_left, and_assoc, exists_eq_left, List.all_cons, List.all_nil, m1_i, m1_r, Bool.and_self, Bool.and_true, bk_78_70, o_le_r, hle, if_neg, a0, a1, a8, gs0, gz, e2, e3, C_51, y1, o_eq, if_pos, if_neg, not_true_eq_false, not_false_eq_true, or_true, true_or, or_false, false_or, false_and, and_false, Nat.reduceEqDiff, Nat.reduceLT, Nat.reduceMul, Nat.not_lt_zero, Nat.zero_le, Nat.le_refl, ne_eq, reduceIte, reduceCtorEq]
        rw [B_78_106]
        simp (disch := omega) only [e_iconst, e_bipush, e_sipush, e_iload_n, e_iload, e_aload_n, e_aload, e_istore_n, e_istore, e_astore_n, e_astore, e_iinc, e_iadd, e_isub, e_imul, e_iand, e_ishr, e_idiv, e_i2c, e_dup_i, e_dup_r, e_dup2, e_pop, e_goto, e_nop, e_if_eq, e_if_ne, e_if_lt, e_if_ge, e_if_gt, e_if_le, e_icmp_eq, e_icmp_ne, e_icmp_lt, e_icmp_ge, e_icmp_gt, e_icmp_le, e_tsw, e_ret0, e_ret1, e_retn, e_getI, e_getZ, e_getR, e_getV, e_getC, e_putI, e_putZ, e_putF, e_gst0, e_gst1, e_sld, e_iald, e_cald, e_bald, e_iast, e_cast, e_aald, e_aast, e_alen, e_slen, e_blen, e_newa, e_newq, e_new, e_oinit, e_ctor, e_virt, e_stat, e_min, e_copy, e_ldc, List.cons_append, List.nil_append, List.append_nil, List.length_cons, List.length_nil, List.replicate_succ, List.replicate_zero, List.getElem?_cons_zero, List.getElem?_cons_succ, List.set_cons_zero, List.set_cons_succ, List.take_succ_cons, List.take_zero, List.drop_succ_cons, List.drop_zero, List.reverse_cons, List.reverse_nil, Option.toList_some, Option.toList_none, Nat.reduceSub, Nat.reduceAdd, Nat.reduceLeDiff, true_and, and_true, and_self, Option.some.injEq, exists_eq_left', Nat.zero_add, Value.int.injEq, Value.ref.injEq, List.cons.injEq, exists_and_left, and_assoc, exists_eq_left, List.all_cons, List.all_nil, m1_i, m1_r, Bool.and_self, Bool.and_true, bk_78_106, a0, a6, a7, a8, grz, grz', gz, za, C_18, C_23, b1, b5, b7, o_eq, if_pos, if_neg, not_true_eq_false, not_false_eq_true, or_true, true_or, or_false, false_or, false_and, and_false, Nat.reduceEqDiff, Nat.reduceLT, Nat.reduceMul, Nat.not_lt_zero, Nat.zero_le, Nat.le_refl, ne_eq, reduceIte, reduceCtorEq]
        rw [B_78_140]
        simp (disch := omega) only [e_iconst, e_bipush, e_sipush, e_iload_n, e_iload, e_aload_n, e_aload, e_istore_n, e_istore, e_astore_n, e_astore, e_iinc, e_iadd, e_isub, e_imul, e_iand, e_ishr, e_idiv, e_i2c, e_dup_i, e_dup_r, e_dup2, e_pop, e_goto, e_nop, e_if_eq, e_if_ne, e_if_lt, e_if_ge, e_if_gt, e_if_le, e_icmp_eq, e_icmp_ne, e_icmp_lt, e_icmp_ge, e_icmp_gt, e_icmp_le, e_tsw, e_ret0, e_ret1, e_retn, e_getI, e_getZ, e_getR, e_getV, e_getC, e_putI, e_putZ, e_putF, e_gst0, e_gst1, e_sld, e_iald, e_cald, e_bald, e_iast, e_cast, e_aald, e_aast, e_alen, e_slen, e_blen, e_newa, e_newq, e_new, e_oinit, e_ctor, e_virt, e_stat, e_min, e_copy, e_ldc, List.cons_append, List.nil_append, List.append_nil, List.length_cons, List.length_nil, List.replicate_succ, List.replicate_zero, List.getElem?_cons_zero, List.getElem?_cons_succ, List.set_cons_zero, List.set_cons_succ, List.take_succ_cons, List.take_zero, List.drop_succ_cons, List.drop_zero, List.reverse_cons, List.reverse_nil, Option.toList_some, Option.toList_none, Nat.reduceSub, Nat.reduceAdd, Nat.reduceLeDiff, true_and, and_true, and_self, Option.some.injEq, exists_eq_left', Nat.zero_add, Value.int.injEq, Value.ref.injEq, List.cons.injEq, exists_and_left, and_assoc, exists_eq_left, List.all_cons, List.all_nil, m1_i, m1_r, Bool.and_self, Bool.and_true, bk_78_140, o_add_l, if_pos, if_neg, not_true_eq_false, not_false_eq_true, or_true, true_or, or_false, false_or, false_and, and_false, Nat.reduceEqDiff, Nat.reduceLT, Nat.reduceMul, Nat.not_lt_zero, Nat.zero_le, Nat.le_refl, ne_eq, reduceIte, reduceCtorEq]
        exact z3
      · simp only [if_neg e] at b7
        rw [if_neg e]
        refine ⟨rdS X1 188 190 c y, fun x hx => by rw [rdS_o (by omega), x1 x (by omega)], ?_⟩
        rw [B_78_70]
        simp (disch := omega) only [e_iconst, e_bipush, e_sipush, e_iload_n, e_iload, e_aload_n, e_aload, e_istore_n, e_istore, e_astore_n, e_astore, e_iinc, e_iadd, e_isub, e_imul, e_iand, e_ishr, e_idiv, e_i2c, e_dup_i, e_dup_r, e_dup2, e_pop, e_goto, e_nop, e_if_eq, e_if_ne, e_if_lt, e_if_ge, e_if_gt, e_if_le, e_icmp_eq, e_icmp_ne, e_icmp_lt, e_icmp_ge, e_icmp_gt, e_icmp_le, e_tsw, e_ret0, e_ret1, e_retn, e_getI, e_getZ, e_getR, e_getV, e_getC, e_putI, e_putZ, e_putF, e_gst0, e_gst1, e_sld, e_iald, e_cald, e_bald, e_iast, e_cast, e_aald, e_aast, e_alen, e_slen, e_blen, e_newa, e_newq, e_new, e_oinit, e_ctor, e_virt, e_stat, e_min, e_copy, e_ldc, List.cons_append, List.nil_append, List.append_nil, List.length_cons, List.length_nil, List.replicate_succ, List.replicate_zero, List.getElem?_cons_zero, List.getElem?_cons_succ, List.set_cons_zero, List.set_cons_succ, List.take_succ_cons, List.take_zero, List.drop_succ_cons, List.drop_zero, List.reverse_cons, List.reverse_nil, Option.toList_some, Option.toList_none, Nat.reduceSub, Nat.reduceAdd, Nat.reduceLeDiff, true_and, and_true, and_self, Option.some.injEq, exists_eq_left', Nat.zero_add, Value.int.injEq, Value.ref.injEq, List.cons.injEq, exists_and_left, and_assoc, exists_eq_left, List.all_cons, List.all_nil, m1_i, m1_r, Bool.and_self, Bool.and_true, bk_78_70, o_le_r, hle, if_neg, a0, a1, a8, gs0, gz, e2, e3, C_51, y1, o_eq, if_pos, if_neg, not_true_eq_false, not_false_eq_true, or_true, true_or, or_false, false_or, false_and, and_false, Nat.reduceEqDiff, Nat.reduceLT, Nat.reduceMul, Nat.not_lt_zero, Nat.zero_le, Nat.le_refl, ne_eq, reduceIte, reduceCtorEq]
        rw [B_78_106]
        simp (disch := omega) only [e_iconst, e_bipush, e_sipush, e_iload_n, e_iload, e_aload_n, e_aload, e_istore_n, e_istore, e_astore_n, e_astore, e_iinc, e_iadd, e_isub, e_imul, e_iand, e_ishr, e_idiv, e_i2c, e_dup_i, e_dup_r, e_dup2, e_pop, e_goto, e_nop, e_if_eq, e_if_ne, e_if_lt, e_if_ge, e_if_gt, e_if_le, e_icmp_eq, e_icmp_ne, e_icmp_lt, e_icmp_ge, e_icmp_gt, e_icmp_le, e_tsw, e_ret0, e_ret1, e_retn, e_getI, e_getZ, e_getR, e_getV, e_getC, e_putI, e_putZ, e_putF, e_gst0, e_gst1, e_sld, e_iald, e_cald, e_bald, e_iast, e_cast, e_aald, e_aast, e_alen, e_slen, e_blen, e_newa, e_newq, e_new, e_oinit, e_ctor, e_virt, e_stat, e_min, e_copy, e_ldc, List.cons_append, List.nil_append, List.append_nil, List.length_cons, List.length_nil, List.replicate_succ, List.replicate_zero, List.getElem?_cons_zero, List.getElem?_cons_succ, List.set_cons_zero, List.set_cons_succ, List.take_succ_cons, List.take_zero, List.drop_succ_cons, List.drop_zero, List.reverse_cons, List.reverse_nil, Option.toList_some, Option.toList_none, Nat.reduceSub, Nat.reduceAdd, Nat.reduceLeDiff, true_and, and_true, and_self, Option.some.injEq, exists_eq_left', Nat.zero_add, Value.int.injEq, Value.ref.injEq, List.cons.injEq, exists_and_left, and_assoc, exists_eq_left, List.all_cons, List.all_nil, m1_i, m1_r, Bool.and_self, Bool.and_true, bk_78_106, a0, a6, a7, a8, grz, grz', gz, za, C_18, C_23, b1, b5, b7, o_eq, if_pos, if_neg, not_true_eq_false, not_false_eq_true, or_true, true_or, or_false, false_or, false_and, and_false, Nat.reduceEqDiff, Nat.reduceLT, Nat.reduceMul, Nat.not_lt_zero, Nat.zero_le, Nat.le_refl, ne_eq, reduceIte, reduceCtorEq]
theorem wCp_o {I : Nat → Nat → Int32} {a b x : Nat} (hx : x ≠ a ∧ x ≠ a + 1 ∧ x ≠ a + 2 ∧ x ≠ a + 3) : wCp I a b x = I x := by
  funext j
  unfold wCp
  rw [if_neg (by omega), if_neg (by omega), if_neg (by omega), if_neg (by omega)]
theorem wCp_rW {I : Nat → Nat → Int32} {a b s p cl c : Nat} {v : Nat → Int32} (h : rW I b v s p cl c) : rW (wCp I a b) a v s p cl c := by
  refine rW_cong h (fun d j hd hd0 hj => ?_) (fun _ _ _ => rfl)
  unfold wCp
  rcases (show d = 0 ∨ d = 1 ∨ d = 2 ∨ d = 3 by omega) with rfl | rfl | rfl | rfl
  · rw [if_pos ⟨rfl, (hd0 rfl).1, (hd0 rfl).2⟩]; rfl
  · rw [if_neg (by omega), if_pos ⟨rfl, hj⟩]
  · rw [if_neg (by omega), if_neg (by omega), if_pos ⟨rfl, hj⟩]
  · rw [if_neg (by omega), if_neg (by omega), if_neg (by omega), if_pos ⟨rfl, hj⟩]
/-- the reading kept in the row 201 -/
/-- what safeRewinds answers -/
noncomputable def aSafe (v : Nat → Int32) (s w u : Nat) : Int32 := if gp v s = 0 then -4 else nI (wSafe s u (gc v s) (nI w) (nbR v s (gc v s) (nI w)) 30 0 v)
set_option maxHeartbeats 8000000 in
theorem q_safe {K : mK} {R : Nat → Nat → Option Nat} {I : Nat → Nat → Int32} {v H T : Nat → Int32} {n t : Nat} (hrel : REL K R I v n H t T) (s w u : Nat) (hs : s < 6) (hw0 : w ≤ 1) (hu : u ≤ 9) : QO 78 [.int (nI s), .int (nI w), .int (nI u)] K R I (aSafe v s w u) := by
  obtain ⟨f, g, hv, hn2, hn, hH, hP, hT⟩ := id hrel
  have q4 := qTu_lt g hn2
  obtain ⟨gs, -, gh, gw, gr, gr', ⟨a0, a1, a2, a3, a4, a5, a6, a7, a8⟩, ⟨b0, b1, b2⟩, cc0⟩ := id g
  have gs0 : K.2.2.1 1 = (1, 4) := gs.1
  have gs1 : R 1 0 = some 2 := gs.2.1
  have gs2 : K.2.2.1 2 = (4, 6) := gs.2.2.1
  have gs3 : R 1 1 = some 3 := gs.2.2.2.1
  have gs4 : zL K R 3 := gs.2.2.2.2.1
  have gW : ∀ s, s < 6 → zW K R (7 + 4 * s) := fun s hs => (gs.2.2.2.2.2.2 s hs).2
  have gR : ∀ s, s < 6 → R 2 s = some (7 + 4 * s) := fun s hs => (gs.2.2.2.2.2.2 s hs).1
  have gh0 := gh.1
  have gsl : K.2.2.1 3 = (1, 2) := gs4.1
  have gT := zG_tu (n := n) g
  have gst : zS K (RTu R n) 1 := gT.1
  have gt1 : RTu R n 1 0 = some 2 := gst.2.1
  have gt3 : RTu R n 1 1 = some 3 := gst.2.2.2.1
  have gt4 : zL K (RTu R n) 3 := gst.2.2.2.2.1
  have gWt : ∀ s, s < 6 → zW K (RTu R n) (7 + 4 * s) := fun s hs => (gst.2.2.2.2.2.2 s hs).2
  have gRt : ∀ s, s < 6 → RTu R n 2 s = some (7 + 4 * s) := fun s hs => (gst.2.2.2.2.2.2 s hs).1
  obtain ⟨-, a1t, a2t, a3t, a4t, a5t, a6t, a7t, a8t⟩ := gT.2.2.2.2.2.2.1
  have c1 := one_rng hw0
  have c2 := pull_rng hu
  have hy := one_n2 hw0
  obtain ⟨pA, clA, cA, hwA⟩ := hv.1 s hs
  rw [show 1 + 6 + 4 * s = 7 + 4 * s by omega] at hwA
  obtain ⟨wfA, vfA, k0A, k1A, k2A, k3A, k4A, k5A⟩ := id hwA
  obtain ⟨f1A, f2A, f3A, f4A, f5A, f6A⟩ := id wfA
  obtain ⟨v1A, v2A, v3A, -⟩ := id vfA
  have zwA := gW s hs
  have zwtA := gWt s hs
  have rwA := gR s hs
  have rwtA := gRt s hs
  have zw0A : K.2.2.1 (7 + 4 * s) = (1, 6) := zwA.1
  obtain ⟨g1, g2, g3⟩ := g_vF vfA
  unfold aSafe
  rw [g1, g3]
  rcases (show pA = 0 ∨ pA = 1 by omega) with rfl | rfl
  · rw [if_pos rfl]
    refine ⟨I, ?_, SCR_id⟩
    simp (disch := omega) only [e_iconst, e_bipush, e_sipush, e_iload_n, e_iload, e_aload_n, e_aload, e_istore_n, e_istore, e_astore_n, e_astore, e_iinc, e_iadd, e_isub, e_imul, e_iand, e_ishr, e_idiv, e_i2c, e_dup_i, e_dup_r, e_dup2, e_pop, e_goto, e_nop, e_if_eq, e_if_ne, e_if_lt, e_if_ge, e_if_gt, e_if_le, e_icmp_eq, e_icmp_ne, e_icmp_lt, e_icmp_ge, e_icmp_gt, e_icmp_le, e_tsw, e_ret0, e_ret1, e_retn, e_getI, e_getZ, e_getR, e_getV, e_getC, e_putI, e_putZ, e_putF, e_gst0, e_gst1, e_sld, e_iald, e_cald, e_bald, e_iast, e_cast, e_aald, e_aast, e_alen, e_slen, e_blen, e_newa, e_newq, e_new, e_oinit, e_ctor, e_virt, e_stat, e_min, e_copy, e_ldc, List.cons_append, List.nil_append, List.append_nil, List.length_cons, List.length_nil, List.replicate_succ, List.replicate_zero, List.getElem?_cons_zero, List.getElem?_cons_succ, List.set_cons_zero, List.set_cons_succ, List.take_succ_cons, List.take_zero, List.drop_succ_cons, List.drop_zero, List.reverse_cons, List.reverse_nil, Option.toList_some, Option.toList_none, Nat.reduceSub, Nat.reduceAdd, Nat.reduceLeDiff, true_and, and_true, and_self, Option.some.injEq, exists_eq_left', Nat.zero_add, Value.int.injEq, Value.ref.injEq, List.cons.injEq, exists_and_left, and_assoc, exists_eq_left, List.all_cons, List.all_nil, m1_i, m1_r, Bool.and_self, Bool.and_true, E_in 78, N_78, B_78_0, bk_78_0, B_78_9, bk_78_9, B_78_26, bk_78_26, C_81, C_84, C_82, m_isSp hs, m_oneI c1, m_pullI c2, a0, a1, gs0, gs1, gs2, zw0A, rwA, n_in, n_cl, true_or, or_true, f1A, o_eq_l, o_eq, if_pos, if_neg, not_true_eq_false, not_false_eq_true, or_true, true_or, or_false, false_or, false_and, and_false, Nat.reduceEqDiff, Nat.reduceLT, Nat.reduceMul, Nat.not_lt_zero, Nat.zero_le, Nat.le_refl, ne_eq, reduceIte, reduceCtorEq]
  rw [if_neg (by omega)]
  obtain ⟨e2, e3, e4, e5, e6, e7, e8, ⟨ru, ru1, ru2⟩, ⟨lm, lm0, lm1, lm2⟩, ln, l1, l2, l3, l4⟩ := id hv.2
  have hw2 : nI w = 2 → clA = 1 := fun e => absurd e hy
  have grz := gr.1
  have gz := gw.1
  obtain ⟨d1, d2, d3, d4, d5⟩ := rd_cls (r := 186) hwA hw2
  have wc : ∀ x, x < 186 ∨ 193 < x → wCp (rdS I 186 (7 + 4 * s) cA (nI w)) 190 (7 + 4 * s) x = I x := fun x hx => by rw [wCp_o (by omega), rdS_o (by omega)]
  have hw0' : rW (rdS I 186 (7 + 4 * s) cA (nI w)) (7 + 4 * s) v s 1 clA cA := rW_out hwA (fun x x1 x2 => rdS_o (by omega))
  obtain ⟨p1, p2, p3, p4, p5, p6⟩ := id hw0'.1
  have hti : tI (wCp (rdS I 186 (7 + 4 * s) cA (nI w)) 190 (7 + 4 * s)) v s clA cA ru lm := ⟨⟨_, wCp_rW hw0', fun _ _ _ => rfl⟩, ru2, lm2, ln, l1, l3⟩
  obtain ⟨X', z1, z3⟩ := sr_loop (y := nI w) (nb := nbR v s cA (nI w)) gw gr gr' hs ru1 lm1 hu hy f6A a0 a1 a6 a7 a8 gs0 zw0A 30 0 (by omega) _ v hti (by rw [wc _ (by omega), e2, ru2]) (by rw [wc _ (by omega), e3, lm2]) (by rw [wc _ (by omega)]; exact f3A) (fun i hi => by rw [wCp_o (by omega)]; exact d2 i hi)
  refine ⟨X', ?_, SCR_tri (fun x hx => by rw [z1 x (by omega), wc x (by omega)])⟩
  simp (disch := omega) only [e_iconst, e_bipush, e_sipush, e_iload_n, e_iload, e_aload_n, e_aload, e_istore_n, e_istore, e_astore_n, e_astore, e_iinc, e_iadd, e_isub, e_imul, e_iand, e_ishr, e_idiv, e_i2c, e_dup_i, e_dup_r, e_dup2, e_pop, e_goto, e_nop, e_if_eq, e_if_ne, e_if_lt, e_if_ge, e_if_gt, e_if_le, e_icmp_eq, e_icmp_ne, e_icmp_lt, e_icmp_ge, e_icmp_gt, e_icmp_le, e_tsw, e_ret0, e_ret1, e_retn, e_getI, e_getZ, e_getR, e_getV, e_getC, e_putI, e_putZ, e_putF, e_gst0, e_gst1, e_sld, e_iald, e_cald, e_bald, e_iast, e_cast, e_aald, e_aast, e_alen, e_slen, e_blen, e_newa, e_newq, e_new, e_oinit, e_ctor, e_virt, e_stat, e_min, e_copy, e_ldc, List.cons_append, List.nil_append, List.append_nil, List.length_cons, List.length_nil, List.replicate_succ, List.replicate_zero, List.getElem?_cons_zero, List.getElem?_cons_succ, List.set_cons_zero, List.set_cons_succ, List.take_succ_cons, List.take_zero, List.drop_succ_cons, List.drop_zero, List.reverse_cons, List.reverse_nil, Option.toList_some, Option.toList_none, Nat.reduceSub, Nat.reduceAdd, Nat.reduceLeDiff, true_and, and_true, and_self, Option.some.injEq, exists_eq_left', Nat.zero_add, Value.int.injEq, Value.ref.injEq, List.cons.injEq, exists_and_left, and_assoc, exists_eq_left, List.all_cons, List.all_nil, m1_i, m1_r, Bool.and_self, Bool.and_true, E_in 78, N_78, B_78_0, bk_78_0, B_78_9, bk_78_9, B_78_26, bk_78_26, C_81, C_84, C_82, m_isSp hs, m_oneI c1, m_pullI c2, a0, a1, gs0, gs1, gs2, zw0A, rwA, n_in, n_cl, true_or, or_true, f1A, o_eq_l, o_eq, if_neg, if_pos, if_neg, not_true_eq_false, not_false_eq_true, or_true, true_or, or_false, false_or, false_and, and_false, Nat.reduceEqDiff, Nat.reduceLT, Nat.reduceMul, Nat.not_lt_zero, Nat.zero_le, Nat.le_refl, ne_eq, reduceIte, reduceCtorEq]
  simp (disch := omega) only [e_iconst, e_bipush, e_sipush, e_iload_n, e_iload, e_aload_n, e_aload, e_istore_n, e_istore, e_astore_n, e_astore, e_iinc, e_iadd, e_isub, e_imul, e_iand, e_ishr, e_idiv, e_i2c, e_dup_i, e_dup_r, e_dup2, e_pop, e_goto, e_nop, e_if_eq, e_if_ne, e_if_lt, e_if_ge, e_if_gt, e_if_le, e_icmp_eq, e_icmp_ne, e_icmp_lt, e_icmp_ge, e_icmp_gt, e_icmp_le, e_tsw, e_ret0, e_ret1, e_retn, e_getI, e_getZ, e_getR, e_getV, e_getC, e_putI, e_putZ, e_putF, e_gst0, e_gst1, e_sld, e_iald, e_cald, e_bald, e_iast, e_cast, e_aald, e_aast, e_alen, e_slen, e_blen, e_newa, e_newq, e_new, e_oinit, e_ctor, e_virt, e_stat, e_min, e_copy, e_ldc, List.cons_append, List.nil_append, List.append_nil, List.length_cons, List.length_nil, List.replicate_succ, List.replicate_zero, List.getElem?_cons_zero, List.getElem?_cons_succ, List.set_cons_zero, List.set_cons_succ, List.take_succ_cons, List.take_zero, List.drop_succ_cons, List.drop_zero, List.reverse_cons, List.reverse_nil, Option.toList_some, Option.toList_none, Nat.reduceSub, Nat.reduceAdd, Nat.reduceLeDiff, true_and, and_true, and_self, Option.some.injEq, exists_eq_left', Nat.zero_add, Value.int.injEq, Value.ref.injEq, List.cons.injEq, exists_and_left, and_assoc, exists_eq_left, List.all_cons, List.all_nil, m1_i, m1_r, Bool.and_self, Bool.and_true, B_78_48, bk_78_48, a0, a6, a8, grz, gz, true_or, or_true, C_18, C_36, m_rd gr zwA (by omega) hwA hw2, m_wcopy gw zwA (by omega) p1 p4 p2 p5, if_pos, if_neg, not_true_eq_false, not_false_eq_true, or_true, true_or, or_false, false_or, false_and, and_false, Nat.reduceEqDiff, Nat.reduceLT, Nat.reduceMul, Nat.not_lt_zero, Nat.zero_le, Nat.le_refl, ne_eq, reduceIte, reduceCtorEq]
  exact z3
end
