-- ===== PART A: goes FIRST, ahead of the names: the tables' words, and 'selects' of the private methods out of them =====
/-- a private method of a class that the tables say can be made, by its rows of tables_1 -/
def lw_okq (q : MethodName × Nat) : Prop := (q.1.cls ≠ "java/lang/invoke/MethodHandle" ∧ q.1.cls ≠ "java/lang/invoke/VarHandle") ∧ Cond.instantiable q.1.cls q.2 ∈ tables_1 ∧ Cond.privateMethod q.1 ∈ tables_1 ∧ Cond.instanceMethod q.1 ∈ tables_1
theorem lw_p0 : lw_okq (⟨"StretchSpool$Command", "parseNumber", "(LStretchSpool$Text;)I"⟩, 6) := ⟨⟨by decide +kernel, by decide +kernel⟩, List.mem_of_getElem? (i := 161) (by decide +kernel), List.mem_of_getElem? (i := 324) (by decide +kernel), List.mem_of_getElem? (i := 325) (by decide +kernel)⟩
theorem lw_p1 : lw_okq (⟨"StretchSpool$Command", "parseBlank", "(LStretchSpool$Text;)V"⟩, 6) := ⟨⟨by decide +kernel, by decide +kernel⟩, List.mem_of_getElem? (i := 161) (by decide +kernel), List.mem_of_getElem? (i := 328) (by decide +kernel), List.mem_of_getElem? (i := 329) (by decide +kernel)⟩
theorem lw_p2 : lw_okq (⟨"StretchSpool$Command", "parseLetters", "(LStretchSpool$Text;)V"⟩, 6) := ⟨⟨by decide +kernel, by decide +kernel⟩, List.mem_of_getElem? (i := 161) (by decide +kernel), List.mem_of_getElem? (i := 332) (by decide +kernel), List.mem_of_getElem? (i := 333) (by decide +kernel)⟩
theorem lw_p3 : lw_okq (⟨"StretchSpool", "writeWire", "(III)I"⟩, 9) := ⟨⟨by decide +kernel, by decide +kernel⟩, List.mem_of_getElem? (i := 16) (by decide +kernel), List.mem_of_getElem? (i := 336) (by decide +kernel), List.mem_of_getElem? (i := 337) (by decide +kernel)⟩
theorem lw_p4 : lw_okq (⟨"StretchSpool$History", "turn", "()V"⟩, 2) := ⟨⟨by decide +kernel, by decide +kernel⟩, List.mem_of_getElem? (i := 129) (by decide +kernel), List.mem_of_getElem? (i := 347) (by decide +kernel), List.mem_of_getElem? (i := 348) (by decide +kernel)⟩
theorem lw_p5 : lw_okq (⟨"StretchSpool$Wire", "putGap", "(III)V"⟩, 7) := ⟨⟨by decide +kernel, by decide +kernel⟩, List.mem_of_getElem? (i := 51) (by decide +kernel), List.mem_of_getElem? (i := 375) (by decide +kernel), List.mem_of_getElem? (i := 376) (by decide +kernel)⟩
theorem lw_p6 : lw_okq (⟨"StretchSpool$Wire", "sum", "([I)I"⟩, 7) := ⟨⟨by decide +kernel, by decide +kernel⟩, List.mem_of_getElem? (i := 51) (by decide +kernel), List.mem_of_getElem? (i := 395) (by decide +kernel), List.mem_of_getElem? (i := 396) (by decide +kernel)⟩
theorem lw_p7 : lw_okq (⟨"StretchSpool$Log", "dropOldest", "()V"⟩, 4) := ⟨⟨by decide +kernel, by decide +kernel⟩, List.mem_of_getElem? (i := 32) (by decide +kernel), List.mem_of_getElem? (i := 410) (by decide +kernel), List.mem_of_getElem? (i := 411) (by decide +kernel)⟩
theorem lw_p8 : lw_okq (⟨"StretchSpool$State", "breakWire", "(II)V"⟩, 9) := ⟨⟨by decide +kernel, by decide +kernel⟩, List.mem_of_getElem? (i := 24) (by decide +kernel), List.mem_of_getElem? (i := 433) (by decide +kernel), List.mem_of_getElem? (i := 434) (by decide +kernel)⟩
theorem lw_p9 : lw_okq (⟨"StretchSpool$Wire", "appendBehind", "(LStretchSpool$Wire;I)V"⟩, 7) := ⟨⟨by decide +kernel, by decide +kernel⟩, List.mem_of_getElem? (i := 51) (by decide +kernel), List.mem_of_getElem? (i := 459) (by decide +kernel), List.mem_of_getElem? (i := 460) (by decide +kernel)⟩
theorem lw_p10 : lw_okq (⟨"StretchSpool$Wire", "copyGap", "(LStretchSpool$Wire;II)V"⟩, 7) := ⟨⟨by decide +kernel, by decide +kernel⟩, List.mem_of_getElem? (i := 51) (by decide +kernel), List.mem_of_getElem? (i := 463) (by decide +kernel), List.mem_of_getElem? (i := 464) (by decide +kernel)⟩
theorem lw_p11 : lw_okq (⟨"StretchSpool$Reader", "judge", "(III)V"⟩, 4) := ⟨⟨by decide +kernel, by decide +kernel⟩, List.mem_of_getElem? (i := 191) (by decide +kernel), List.mem_of_getElem? (i := 504) (by decide +kernel), List.mem_of_getElem? (i := 505) (by decide +kernel)⟩
def lw_privs_1 : List (MethodName × Nat) := [(⟨"StretchSpool$Command", "parseNumber", "(LStretchSpool$Text;)I"⟩, 6), (⟨"StretchSpool$Command", "parseBlank", "(LStretchSpool$Text;)V"⟩, 6), (⟨"StretchSpool$Command", "parseLetters", "(LStretchSpool$Text;)V"⟩, 6), (⟨"StretchSpool", "writeWire", "(III)I"⟩, 9), (⟨"StretchSpool$History", "turn", "()V"⟩, 2), (⟨"StretchSpool$Wire", "putGap", "(III)V"⟩, 7), (⟨"StretchSpool$Wire", "sum", "([I)I"⟩, 7), (⟨"StretchSpool$Log", "dropOldest", "()V"⟩, 4), (⟨"StretchSpool$State", "breakWire", "(II)V"⟩, 9), (⟨"StretchSpool$Wire", "appendBehind", "(LStretchSpool$Wire;I)V"⟩, 7), (⟨"StretchSpool$Wire", "copyGap", "(LStretchSpool$Wire;II)V"⟩, 7), (⟨"StretchSpool$Reader", "judge", "(III)V"⟩, 4)]
theorem lw_r1 : ∀ q ∈ lw_privs_1, lw_okq q := List.forall_mem_cons.mpr ⟨lw_p0, List.forall_mem_cons.mpr ⟨lw_p1, List.forall_mem_cons.mpr ⟨lw_p2, List.forall_mem_cons.mpr ⟨lw_p3, List.forall_mem_cons.mpr ⟨lw_p4, List.forall_mem_cons.mpr ⟨lw_p5, List.forall_mem_cons.mpr ⟨lw_p6, List.forall_mem_cons.mpr ⟨lw_p7, List.forall_mem_cons.mpr ⟨lw_p8, List.forall_mem_cons.mpr ⟨lw_p9, List.forall_mem_cons.mpr ⟨lw_p10, List.forall_mem_cons.mpr ⟨lw_p11, fun _ h => absurd h List.not_mem_nil⟩⟩⟩⟩⟩⟩⟩⟩⟩⟩⟩⟩
def lw_privs : List (MethodName × Nat) := lw_privs_1
def lw_tbl : List Cond := k2_sels lw_privs ++ tables_1
theorem lw_privs_ok : ∀ q ∈ lw_privs, lw_okq q := lw_r1
def RX0 : String := "StretchSpool$Command"
def TX0 : u_T := fun k => match k with
  | 0 => ("StretchSpool$Command", "word", "I", false)
  | 1 => ("StretchSpool$Command", "first", "I", false)
  | 2 => ("StretchSpool$Command", "second", "I", false)
  | 3 => ("StretchSpool$Command", "letterPlace", "I", false)
  | 4 => ("StretchSpool$Command", "fault", "I", false)
  | _ => ("StretchSpool$Command", "place", "I", false)
def tyX0 : Nat → FieldType := fun k => match k with
  | 0 => .int
  | 1 => .int
  | 2 => .int
  | 3 => .int
  | 4 => .int
  | _ => .int
theorem nmX0 : ∀ a, a < 6 → ∀ b, b < 6 → a ≠ b → (TX0 a).2.1 ≠ (TX0 b).2.1 := by decide +kernel
theorem tyX0_ok : ∀ k, k < 6 → parseFieldDescriptor (TX0 k).2.2.1 = some (tyX0 k) := by decide +kernel
abbrev cX0_init : ByteArray := prog_2_method_1_code
def yX0_init : MethodName := ⟨RX0, "<init>", "()V"⟩
abbrev cX0_parse : ByteArray := prog_2_method_2_code
def yX0_parse : MethodName := ⟨RX0, "parse", "(LStretchSpool$Text;)V"⟩
abbrev cX0_lengthOfWord : ByteArray := prog_2_method_3_code
def yX0_lengthOfWord : MethodName := ⟨RX0, "lengthOfWord", "(LStretchSpool$Text;)I"⟩
abbrev cX0_wordOf : ByteArray := prog_2_method_4_code
def yX0_wordOf : MethodName := ⟨RX0, "wordOf", "(LStretchSpool$Text;I)I"⟩
abbrev cX0_parseNumber : ByteArray := prog_2_method_5_code
def yX0_parseNumber : MethodName := ⟨RX0, "parseNumber", "(LStretchSpool$Text;)I"⟩
abbrev cX0_parseLetters : ByteArray := prog_2_method_6_code
def yX0_parseLetters : MethodName := ⟨RX0, "parseLetters", "(LStretchSpool$Text;)V"⟩
abbrev cX0_parseBlank : ByteArray := prog_2_method_7_code
def yX0_parseBlank : MethodName := ⟨RX0, "parseBlank", "(LStretchSpool$Text;)V"⟩
abbrev cX0_isBetween : ByteArray := prog_2_method_8_code
def yX0_isBetween : MethodName := ⟨RX0, "isBetween", "(III)Z"⟩
def RX1 : String := "StretchSpool$History"
def TX1 : u_T := fun k => match k with
  | 0 => ("StretchSpool$History", "states", "[LStretchSpool$State;", true)
  | _ => ("StretchSpool$History", "size", "I", false)
def tyX1 : Nat → FieldType := fun k => match k with
  | 0 => .array (.object "StretchSpool$State")
  | _ => .int
theorem nmX1 : ∀ a, a < 2 → ∀ b, b < 2 → a ≠ b → (TX1 a).2.1 ≠ (TX1 b).2.1 := by decide +kernel
theorem tyX1_ok : ∀ k, k < 2 → parseFieldDescriptor (TX1 k).2.2.1 = some (tyX1 k) := by decide +kernel
abbrev cX1_init : ByteArray := prog_3_method_1_code
def yX1_init : MethodName := ⟨RX1, "<init>", "()V"⟩
abbrev cX1_remember : ByteArray := prog_3_method_2_code
def yX1_remember : MethodName := ⟨RX1, "remember", "(LStretchSpool$State;)V"⟩
abbrev cX1_turn : ByteArray := prog_3_method_3_code
def yX1_turn : MethodName := ⟨RX1, "turn", "()V"⟩
abbrev cX1_takeBack : ByteArray := prog_3_method_4_code
def yX1_takeBack : MethodName := ⟨RX1, "takeBack", "(LStretchSpool$State;)Z"⟩
def RX2 : String := "StretchSpool$Log"
def TX2 : u_T := fun k => match k with
  | 0 => ("StretchSpool$Log", "kinds", "[I", true)
  | 1 => ("StretchSpool$Log", "spools", "[I", true)
  | 2 => ("StretchSpool$Log", "numbers", "[I", true)
  | _ => ("StretchSpool$Log", "size", "I", false)
def tyX2 : Nat → FieldType := fun k => match k with
  | 0 => .array .int
  | 1 => .array .int
  | 2 => .array .int
  | _ => .int
theorem nmX2 : ∀ a, a < 4 → ∀ b, b < 4 → a ≠ b → (TX2 a).2.1 ≠ (TX2 b).2.1 := by decide +kernel
theorem tyX2_ok : ∀ k, k < 4 → parseFieldDescriptor (TX2 k).2.2.1 = some (tyX2 k) := by decide +kernel
abbrev cX2_init : ByteArray := prog_4_method_1_code
def yX2_init : MethodName := ⟨RX2, "<init>", "()V"⟩
abbrev cX2_copyFrom : ByteArray := prog_4_method_2_code
def yX2_copyFrom : MethodName := ⟨RX2, "copyFrom", "(LStretchSpool$Log;)V"⟩
abbrev cX2_add : ByteArray := prog_4_method_3_code
def yX2_add : MethodName := ⟨RX2, "add", "(III)V"⟩
abbrev cX2_dropOldest : ByteArray := prog_4_method_4_code
def yX2_dropOldest : MethodName := ⟨RX2, "dropOldest", "()V"⟩
abbrev cX2_tell : ByteArray := prog_4_method_5_code
def yX2_tell : MethodName := ⟨RX2, "tell", "(II)I"⟩
def RX3 : String := "StretchSpool$Reader"
def TX3 : u_T := fun k => match k with
  | 0 => ("StretchSpool$Reader", "numbers", "[I", true)
  | 1 => ("StretchSpool$Reader", "misread", "I", false)
  | 2 => ("StretchSpool$Reader", "unread", "I", false)
  | _ => ("StretchSpool$Reader", "firstError", "I", false)
def tyX3 : Nat → FieldType := fun k => match k with
  | 0 => .array .int
  | 1 => .int
  | 2 => .int
  | _ => .int
theorem nmX3 : ∀ a, a < 4 → ∀ b, b < 4 → a ≠ b → (TX3 a).2.1 ≠ (TX3 b).2.1 := by decide +kernel
theorem tyX3_ok : ∀ k, k < 4 → parseFieldDescriptor (TX3 k).2.2.1 = some (tyX3 k) := by decide +kernel
abbrev cX3_init : ByteArray := prog_5_method_1_code
def yX3_init : MethodName := ⟨RX3, "<init>", "()V"⟩
abbrev cX3_readAll : ByteArray := prog_5_method_2_code
def yX3_readAll : MethodName := ⟨RX3, "readAll", "(LStretchSpool$Wire;I)V"⟩
abbrev cX3_measureBetweenEnds : ByteArray := prog_5_method_3_code
def yX3_measureBetweenEnds : MethodName := ⟨RX3, "measureBetweenEnds", "(LStretchSpool$Wire;I)I"⟩
abbrev cX3_numberOf : ByteArray := prog_5_method_4_code
def yX3_numberOf : MethodName := ⟨RX3, "numberOf", "(II)I"⟩
abbrev cX3_judge : ByteArray := prog_5_method_5_code
def yX3_judge : MethodName := ⟨RX3, "judge", "(III)V"⟩
abbrev cX3_errorCount : ByteArray := prog_5_method_6_code
def yX3_errorCount : MethodName := ⟨RX3, "errorCount", "()I"⟩
abbrev cX3_readTheSame : ByteArray := prog_5_method_7_code
def yX3_readTheSame : MethodName := ⟨RX3, "readTheSame", "(LStretchSpool$Reader;I)Z"⟩
def RX4 : String := "StretchSpool$State"
def TX4 : u_T := fun k => match k with
  | 0 => ("StretchSpool$State", "wires", "[LStretchSpool$Wire;", true)
  | 1 => ("StretchSpool$State", "log", "LStretchSpool$Log;", true)
  | 2 => ("StretchSpool$State", "rule", "I", false)
  | 3 => ("StretchSpool$State", "limit", "I", false)
  | 4 => ("StretchSpool$State", "minutes", "I", false)
  | 5 => ("StretchSpool$State", "used", "I", false)
  | 6 => ("StretchSpool$State", "rewinds", "I", false)
  | 7 => ("StretchSpool$State", "breaks", "I", false)
  | _ => ("StretchSpool$State", "lettersLost", "I", false)
def tyX4 : Nat → FieldType := fun k => match k with
  | 0 => .array (.object "StretchSpool$Wire")
  | 1 => .object "StretchSpool$Log"
  | 2 => .int
  | 3 => .int
  | 4 => .int
  | 5 => .int
  | 6 => .int
  | 7 => .int
  | _ => .int
theorem nmX4 : ∀ a, a < 9 → ∀ b, b < 9 → a ≠ b → (TX4 a).2.1 ≠ (TX4 b).2.1 := by decide +kernel
theorem tyX4_ok : ∀ k, k < 9 → parseFieldDescriptor (TX4 k).2.2.1 = some (tyX4 k) := by decide +kernel
abbrev cX4_init : ByteArray := prog_6_method_1_code
def yX4_init : MethodName := ⟨RX4, "<init>", "()V"⟩
abbrev cX4_copyFrom : ByteArray := prog_6_method_2_code
def yX4_copyFrom : MethodName := ⟨RX4, "copyFrom", "(LStretchSpool$State;)V"⟩
abbrev cX4_spoolsWithWire : ByteArray := prog_6_method_3_code
def yX4_spoolsWithWire : MethodName := ⟨RX4, "spoolsWithWire", "()I"⟩
abbrev cX4_lettersOnAll : ByteArray := prog_6_method_4_code
def yX4_lettersOnAll : MethodName := ⟨RX4, "lettersOnAll", "()I"⟩
abbrev cX4_lowestEmpty : ByteArray := prog_6_method_5_code
def yX4_lowestEmpty : MethodName := ⟨RX4, "lowestEmpty", "()I"⟩
abbrev cX4_wind : ByteArray := prog_6_method_6_code
def yX4_wind : MethodName := ⟨RX4, "wind", "(III)I"⟩
abbrev cX4_breakWire : ByteArray := prog_6_method_7_code
def yX4_breakWire : MethodName := ⟨RX4, "breakWire", "(II)V"⟩
def RX5 : String := "StretchSpool$Text"
def TX5 : u_T := fun k => match k with
  | 0 => ("StretchSpool$Text", "characters", "[C", true)
  | _ => ("StretchSpool$Text", "size", "I", false)
def tyX5 : Nat → FieldType := fun k => match k with
  | 0 => .array .char
  | _ => .int
theorem nmX5 : ∀ a, a < 2 → ∀ b, b < 2 → a ≠ b → (TX5 a).2.1 ≠ (TX5 b).2.1 := by decide +kernel
theorem tyX5_ok : ∀ k, k < 2 → parseFieldDescriptor (TX5 k).2.2.1 = some (tyX5 k) := by decide +kernel
abbrev cX5_init : ByteArray := prog_7_method_1_code
def yX5_init : MethodName := ⟨RX5, "<init>", "()V"⟩
abbrev cX5_add : ByteArray := prog_7_method_2_code
def yX5_add : MethodName := ⟨RX5, "add", "(C)Z"⟩
abbrev cX5_codeAt : ByteArray := prog_7_method_3_code
def yX5_codeAt : MethodName := ⟨RX5, "codeAt", "(I)I"⟩
abbrev cX5_startsWith : ByteArray := prog_7_method_4_code
def yX5_startsWith : MethodName := ⟨RX5, "startsWith", "(Ljava/lang/String;I)Z"⟩
def RX6 : String := "StretchSpool$Wire"
def TX6 : u_T := fun k => match k with
  | 0 => ("StretchSpool$Wire", "lengths", "[I", true)
  | 1 => ("StretchSpool$Wire", "nominals", "[I", true)
  | 2 => ("StretchSpool$Wire", "truths", "[I", true)
  | 3 => ("StretchSpool$Wire", "present", "Z", false)
  | 4 => ("StretchSpool$Wire", "closed", "Z", false)
  | 5 => ("StretchSpool$Wire", "letters", "I", false)
  | _ => ("StretchSpool$Wire", "rewinds", "I", false)
def tyX6 : Nat → FieldType := fun k => match k with
  | 0 => .array .int
  | 1 => .array .int
  | 2 => .array .int
  | 3 => .boolean
  | 4 => .boolean
  | 5 => .int
  | _ => .int
theorem nmX6 : ∀ a, a < 7 → ∀ b, b < 7 → a ≠ b → (TX6 a).2.1 ≠ (TX6 b).2.1 := by decide +kernel
theorem tyX6_ok : ∀ k, k < 7 → parseFieldDescriptor (TX6 k).2.2.1 = some (tyX6 k) := by decide +kernel
abbrev cX6_init : ByteArray := prog_8_method_1_code
def yX6_init : MethodName := ⟨RX6, "<init>", "()V"⟩
abbrev cX6_copyFrom : ByteArray := prog_8_method_2_code
def yX6_copyFrom : MethodName := ⟨RX6, "copyFrom", "(LStretchSpool$Wire;)V"⟩
abbrev cX6_gaps : ByteArray := prog_8_method_3_code
def yX6_gaps : MethodName := ⟨RX6, "gaps", "()I"⟩
abbrev cX6_hasGap : ByteArray := prog_8_method_4_code
def yX6_hasGap : MethodName := ⟨RX6, "hasGap", "(I)Z"⟩
abbrev cX6_hasLetter : ByteArray := prog_8_method_5_code
def yX6_hasLetter : MethodName := ⟨RX6, "hasLetter", "(I)Z"⟩
abbrev cX6_canBeReadBy : ByteArray := prog_8_method_6_code
def yX6_canBeReadBy : MethodName := ⟨RX6, "canBeReadBy", "(I)Z"⟩
abbrev cX6_empty : ByteArray := prog_8_method_7_code
def yX6_empty : MethodName := ⟨RX6, "empty", "()V"⟩
abbrev cX6_begin : ByteArray := prog_8_method_8_code
def yX6_begin : MethodName := ⟨RX6, "begin", "()V"⟩
abbrev cX6_write : ByteArray := prog_8_method_9_code
def yX6_write : MethodName := ⟨RX6, "write", "(I)V"⟩
abbrev cX6_putEnd : ByteArray := prog_8_method_10_code
def yX6_putEnd : MethodName := ⟨RX6, "putEnd", "()V"⟩
abbrev cX6_putGap : ByteArray := prog_8_method_11_code
def yX6_putGap : MethodName := ⟨RX6, "putGap", "(III)V"⟩
abbrev cX6_copyGap : ByteArray := prog_8_method_12_code
def yX6_copyGap : MethodName := ⟨RX6, "copyGap", "(LStretchSpool$Wire;II)V"⟩
abbrev cX6_takeTail : ByteArray := prog_8_method_13_code
def yX6_takeTail : MethodName := ⟨RX6, "takeTail", "(LStretchSpool$Wire;I)V"⟩
abbrev cX6_join : ByteArray := prog_8_method_14_code
def yX6_join : MethodName := ⟨RX6, "join", "(LStretchSpool$Wire;)V"⟩
abbrev cX6_appendBehind : ByteArray := prog_8_method_15_code
def yX6_appendBehind : MethodName := ⟨RX6, "appendBehind", "(LStretchSpool$Wire;I)V"⟩
abbrev cX6_punchAll : ByteArray := prog_8_method_16_code
def yX6_punchAll : MethodName := ⟨RX6, "punchAll", "([I)V"⟩
abbrev cX6_stretch : ByteArray := prog_8_method_17_code
def yX6_stretch : MethodName := ⟨RX6, "stretch", "(III)I"⟩
abbrev cX6_breakAt : ByteArray := prog_8_method_18_code
def yX6_breakAt : MethodName := ⟨RX6, "breakAt", "(I)V"⟩
abbrev cX6_sumOfLengths : ByteArray := prog_8_method_19_code
def yX6_sumOfLengths : MethodName := ⟨RX6, "sumOfLengths", "()I"⟩
abbrev cX6_sumOfNominals : ByteArray := prog_8_method_20_code
def yX6_sumOfNominals : MethodName := ⟨RX6, "sumOfNominals", "()I"⟩
abbrev cX6_sum : ByteArray := prog_8_method_21_code
def yX6_sum : MethodName := ⟨RX6, "sum", "([I)I"⟩
abbrev cX6_nearestToLimit : ByteArray := prog_8_method_22_code
def yX6_nearestToLimit : MethodName := ⟨RX6, "nearestToLimit", "()I"⟩
abbrev cX6_strain : ByteArray := prog_8_method_23_code
def yX6_strain : MethodName := ⟨RX6, "strain", "(I)I"⟩
def RX7 : String := "StretchSpool"
def TX7 : u_T := fun k => match k with
  | 0 => ("StretchSpool", "now", "LStretchSpool$State;", true)
  | 1 => ("StretchSpool", "history", "LStretchSpool$History;", true)
  | 2 => ("StretchSpool", "snapshot", "LStretchSpool$State;", true)
  | 3 => ("StretchSpool", "kept", "Z", false)
  | 4 => ("StretchSpool", "text", "LStretchSpool$Text;", true)
  | 5 => ("StretchSpool", "command", "LStretchSpool$Command;", true)
  | 6 => ("StretchSpool", "reader", "LStretchSpool$Reader;", true)
  | 7 => ("StretchSpool", "laterReader", "LStretchSpool$Reader;", true)
  | _ => ("StretchSpool", "trial", "LStretchSpool$Wire;", true)
def tyX7 : Nat → FieldType := fun k => match k with
  | 0 => .object "StretchSpool$State"
  | 1 => .object "StretchSpool$History"
  | 2 => .object "StretchSpool$State"
  | 3 => .boolean
  | 4 => .object "StretchSpool$Text"
  | 5 => .object "StretchSpool$Command"
  | 6 => .object "StretchSpool$Reader"
  | 7 => .object "StretchSpool$Reader"
  | _ => .object "StretchSpool$Wire"
theorem nmX7 : ∀ a, a < 9 → ∀ b, b < 9 → a ≠ b → (TX7 a).2.1 ≠ (TX7 b).2.1 := by decide +kernel
theorem tyX7_ok : ∀ k, k < 9 → parseFieldDescriptor (TX7 k).2.2.1 = some (tyX7 k) := by decide +kernel
abbrev cX7_init : ByteArray := prog_1_method_1_code
def yX7_init : MethodName := ⟨RX7, "<init>", "()V"⟩
abbrev cX7_setRule : ByteArray := prog_1_method_2_code
def yX7_setRule : MethodName := ⟨RX7, "setRule", "(I)I"⟩
abbrev cX7_setLimit : ByteArray := prog_1_method_3_code
def yX7_setLimit : MethodName := ⟨RX7, "setLimit", "(I)I"⟩
abbrev cX7_rewind : ByteArray := prog_1_method_4_code
def yX7_rewind : MethodName := ⟨RX7, "rewind", "(III)I"⟩
abbrev cX7_cut : ByteArray := prog_1_method_5_code
def yX7_cut : MethodName := ⟨RX7, "cut", "(II)I"⟩
abbrev cX7_splice : ByteArray := prog_1_method_6_code
def yX7_splice : MethodName := ⟨RX7, "splice", "(II)I"⟩
abbrev cX7_close : ByteArray := prog_1_method_7_code
def yX7_close : MethodName := ⟨RX7, "close", "(I)I"⟩
abbrev cX7_punch : ByteArray := prog_1_method_8_code
def yX7_punch : MethodName := ⟨RX7, "punch", "(II)I"⟩
abbrev cX7_type : ByteArray := prog_1_method_9_code
def yX7_type : MethodName := ⟨RX7, "type", "(C)I"⟩
abbrev cX7_clearText : ByteArray := prog_1_method_10_code
def yX7_clearText : MethodName := ⟨RX7, "clearText", "()I"⟩
abbrev cX7_perform : ByteArray := prog_1_method_11_code
def yX7_perform : MethodName := ⟨RX7, "perform", "()I"⟩
abbrev cX7_writeWire : ByteArray := prog_1_method_12_code
def yX7_writeWire : MethodName := ⟨RX7, "writeWire", "(III)I"⟩
abbrev cX7_undo : ByteArray := prog_1_method_13_code
def yX7_undo : MethodName := ⟨RX7, "undo", "()I"⟩
abbrev cX7_restore : ByteArray := prog_1_method_15_code
def yX7_restore : MethodName := ⟨RX7, "restore", "()I"⟩
abbrev cX7_spool : ByteArray := prog_1_method_16_code
def yX7_spool : MethodName := ⟨RX7, "spool", "(II)I"⟩
abbrev cX7_gap : ByteArray := prog_1_method_17_code
def yX7_gap : MethodName := ⟨RX7, "gap", "(III)I"⟩
abbrev cX7_read : ByteArray := prog_1_method_18_code
def yX7_read : MethodName := ⟨RX7, "read", "(III)I"⟩
abbrev cX7_errors : ByteArray := prog_1_method_19_code
def yX7_errors : MethodName := ⟨RX7, "errors", "(III)I"⟩
abbrev cX7_bestWay : ByteArray := prog_1_method_20_code
def yX7_bestWay : MethodName := ⟨RX7, "bestWay", "(I)I"⟩
abbrev cX7_errorsAfter : ByteArray := prog_1_method_21_code
def yX7_errorsAfter : MethodName := ⟨RX7, "errorsAfter", "(IIII)I"⟩
abbrev cX7_safeRewinds : ByteArray := prog_1_method_22_code
def yX7_safeRewinds : MethodName := ⟨RX7, "safeRewinds", "(III)I"⟩
abbrev cX7_event : ByteArray := prog_1_method_23_code
def yX7_event : MethodName := ⟨RX7, "event", "(II)I"⟩
abbrev cX7_count : ByteArray := prog_1_method_24_code
def yX7_count : MethodName := ⟨RX7, "count", "(I)I"⟩
abbrev cX7_isSpool : ByteArray := prog_1_method_25_code
def yX7_isSpool : MethodName := ⟨RX7, "isSpool", "(I)Z"⟩
abbrev cX7_isPull : ByteArray := prog_1_method_26_code
def yX7_isPull : MethodName := ⟨RX7, "isPull", "(I)Z"⟩
abbrev cX7_isWay : ByteArray := prog_1_method_27_code
def yX7_isWay : MethodName := ⟨RX7, "isWay", "(I)Z"⟩
abbrev cX7_isWayOfOneEnd : ByteArray := prog_1_method_28_code
def yX7_isWayOfOneEnd : MethodName := ⟨RX7, "isWayOfOneEnd", "(I)Z"⟩
abbrev cX7_nominalOf : ByteArray := prog_1_method_29_code
def yX7_nominalOf : MethodName := ⟨RX7, "nominalOf", "(I)I"⟩
abbrev cX7_stretchOf : ByteArray := prog_1_method_30_code
def yX7_stretchOf : MethodName := ⟨RX7, "stretchOf", "(IIII)I"⟩
def RX8 : String := "StretchSpoolModel"
def TX8 : u_T := fun k => match k with
  | _ => ("", "", "", false)
def tyX8 : Nat → FieldType := fun k => match k with
  | _ => .int
theorem nmX8 : ∀ a, a < 0 → ∀ b, b < 0 → a ≠ b → (TX8 a).2.1 ≠ (TX8 b).2.1 := by decide +kernel
theorem tyX8_ok : ∀ k, k < 0 → parseFieldDescriptor (TX8 k).2.2.1 = some (tyX8 k) := by decide +kernel
def RJ9 : String := "java/lang/Math"
abbrev cJ9_min_7cf53 : ByteArray := prog_11_method_69_code
def yJ9_min_7cf53 : MethodName := ⟨RJ9, "min", "(II)I"⟩
def RJ0 : String := "java/lang/String"
abbrev cJ0_length_8abf5 : ByteArray := prog_12_method_54_code
def yJ0_length_8abf5 : MethodName := ⟨RJ0, "length", "()I"⟩
abbrev cJ0_charAt_5068e : ByteArray := prog_12_method_56_code
def yJ0_charAt_5068e : MethodName := ⟨RJ0, "charAt", "(I)C"⟩
abbrev cJ0_coder_7d493 : ByteArray := prog_12_method_152_code
def yJ0_coder_7d493 : MethodName := ⟨RJ0, "coder", "()B"⟩
abbrev cJ0_isLatin1_aae02 : ByteArray := prog_12_method_154_code
def yJ0_isLatin1_aae02 : MethodName := ⟨RJ0, "isLatin1", "()Z"⟩
abbrev cJ0_checkIndex_df160 : ByteArray := prog_12_method_155_code
def yJ0_checkIndex_df160 : MethodName := ⟨RJ0, "checkIndex", "(II)V"⟩
def RJ1 : String := "java/lang/StringLatin1"
abbrev cJ1_charAt_3b067 : ByteArray := prog_13_method_2_code
def yJ1_charAt_3b067 : MethodName := ⟨RJ1, "charAt", "([BI)C"⟩
def RJ2 : String := "java/lang/StringUTF16"
abbrev cJ2_getChar_3b067 : ByteArray := prog_14_method_5_code
def yJ2_getChar_3b067 : MethodName := ⟨RJ2, "getChar", "([BI)C"⟩
abbrev cJ2_length_9d52b : ByteArray := prog_14_method_6_code
def yJ2_length_9d52b : MethodName := ⟨RJ2, "length", "([B)I"⟩
abbrev cJ2_charAt_3b067 : ByteArray := prog_14_method_83_code
def yJ2_charAt_3b067 : MethodName := ⟨RJ2, "charAt", "([BI)C"⟩
abbrev cJ2_checkIndex_2214a : ByteArray := prog_14_method_91_code
def yJ2_checkIndex_2214a : MethodName := ⟨RJ2, "checkIndex", "(I[B)V"⟩
def RJ10 : String := "java/lang/System"
def RJ3 : String := "jdk/internal/util/Preconditions"
abbrev cJ3_checkIndex_8e157 : ByteArray := prog_16_method_11_code
def yJ3_checkIndex_8e157 : MethodName := ⟨RJ3, "checkIndex", "(IILjava/util/function/BiFunction;)I"⟩
def RL : String := "StretchSpoolLaw"
abbrev cL_cell : ByteArray := method_2_code
def yL_cell : MethodName := ⟨RL, "cell", "([II)I"⟩
abbrev cL_low : ByteArray := method_3_code
def yL_low : MethodName := ⟨RL, "low", "(II)I"⟩
abbrev cL_digest : ByteArray := method_4_code
def yL_digest : MethodName := ⟨RL, "digest", "(LStretchSpool;)J"⟩
abbrev cL_types : ByteArray := method_5_code
def yL_types : MethodName := ⟨RL, "types", "(LStretchSpool;I)V"⟩
abbrev cL_word : ByteArray := method_6_code
def yL_word : MethodName := ⟨RL, "word", "(LStretchSpool;IIIIII)V"⟩
abbrev cL_number : ByteArray := method_7_code
def yL_number : MethodName := ⟨RL, "number", "(LStretchSpool;I)V"⟩
abbrev cL_writes : ByteArray := method_8_code
def yL_writes : MethodName := ⟨RL, "writes", "(LStretchSpool;III)Z"⟩
abbrev cL_told : ByteArray := method_9_code
def yL_told : MethodName := ⟨RL, "told", "(LStretchSpool;I)Z"⟩
abbrev cL_rewinds : ByteArray := method_10_code
def yL_rewinds : MethodName := ⟨RL, "rewinds", "(LStretchSpool;III)Z"⟩
abbrev cL_cuts : ByteArray := method_11_code
def yL_cuts : MethodName := ⟨RL, "cuts", "(LStretchSpool;II)Z"⟩
abbrev cL_splices : ByteArray := method_12_code
def yL_splices : MethodName := ⟨RL, "splices", "(LStretchSpool;II)Z"⟩
abbrev cL_ends : ByteArray := method_13_code
def yL_ends : MethodName := ⟨RL, "ends", "(LStretchSpool;II)Z"⟩
abbrev cL_sets : ByteArray := method_14_code
def yL_sets : MethodName := ⟨RL, "sets", "(LStretchSpool;II)Z"⟩
abbrev cL_law : ByteArray := code
def yL_law : MethodName := ⟨RL, "law", "([I)Z"⟩
abbrev vwCl : List vw_C := [(RX0, TX0, 6), (RX1, TX1, 2), (RX2, TX2, 4), (RX3, TX3, 4), (RX4, TX4, 9), (RX5, TX5, 2), (RX6, TX6, 7), (RX7, TX7, 9)]
