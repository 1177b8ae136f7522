-- ===== PART A: goes FIRST, ahead of the names: the tables' words, and 'selects' of the private methods out of them =====
/-- a private method of a class that the tables say can be made, by its rows of tables_1 -/
def lw_okq (q : MethodName × Nat) : Prop := (q.1.cls ≠ "java/lang/invoke/MethodHandle" ∧ q.1.cls ≠ "java/lang/invoke/VarHandle") ∧ Cond.instantiable q.1.cls q.2 ∈ tables_1 ∧ Cond.privateMethod q.1 ∈ tables_1 ∧ Cond.instanceMethod q.1 ∈ tables_1
theorem lw_p0 : lw_okq (⟨"StretchSpool$History", "turn", "()V"⟩, 2) := ⟨⟨by decide +kernel, by decide +kernel⟩, List.mem_of_getElem? (i := 130) (by decide +kernel), List.mem_of_getElem? (i := 253) (by decide +kernel), List.mem_of_getElem? (i := 254) (by decide +kernel)⟩
theorem lw_p1 : lw_okq (⟨"StretchSpool$Log", "dropOldest", "()V"⟩, 4) := ⟨⟨by decide +kernel, by decide +kernel⟩, List.mem_of_getElem? (i := 33) (by decide +kernel), List.mem_of_getElem? (i := 309) (by decide +kernel), List.mem_of_getElem? (i := 310) (by decide +kernel)⟩
theorem lw_p2 : lw_okq (⟨"StretchSpool$State", "breakWire", "(II)V"⟩, 9) := ⟨⟨by decide +kernel, by decide +kernel⟩, List.mem_of_getElem? (i := 25) (by decide +kernel), List.mem_of_getElem? (i := 313) (by decide +kernel), List.mem_of_getElem? (i := 314) (by decide +kernel)⟩
theorem lw_p3 : lw_okq (⟨"StretchSpool$Wire", "putGap", "(III)V"⟩, 7) := ⟨⟨by decide +kernel, by decide +kernel⟩, List.mem_of_getElem? (i := 52) (by decide +kernel), List.mem_of_getElem? (i := 346) (by decide +kernel), List.mem_of_getElem? (i := 347) (by decide +kernel)⟩
theorem lw_p4 : lw_okq (⟨"StretchSpool$Wire", "appendBehind", "(LStretchSpool$Wire;I)V"⟩, 7) := ⟨⟨by decide +kernel, by decide +kernel⟩, List.mem_of_getElem? (i := 52) (by decide +kernel), List.mem_of_getElem? (i := 350) (by decide +kernel), List.mem_of_getElem? (i := 351) (by decide +kernel)⟩
theorem lw_p5 : lw_okq (⟨"StretchSpool$Wire", "copyGap", "(LStretchSpool$Wire;II)V"⟩, 7) := ⟨⟨by decide +kernel, by decide +kernel⟩, List.mem_of_getElem? (i := 52) (by decide +kernel), List.mem_of_getElem? (i := 354) (by decide +kernel), List.mem_of_getElem? (i := 355) (by decide +kernel)⟩
theorem lw_p6 : lw_okq (⟨"StretchSpool$Reader", "judge", "(III)V"⟩, 4) := ⟨⟨by decide +kernel, by decide +kernel⟩, List.mem_of_getElem? (i := 192) (by decide +kernel), List.mem_of_getElem? (i := 400) (by decide +kernel), List.mem_of_getElem? (i := 401) (by decide +kernel)⟩
theorem lw_p7 : lw_okq (⟨"StretchSpool$Wire", "sum", "([I)I"⟩, 7) := ⟨⟨by decide +kernel, by decide +kernel⟩, List.mem_of_getElem? (i := 52) (by decide +kernel), List.mem_of_getElem? (i := 416) (by decide +kernel), List.mem_of_getElem? (i := 417) (by decide +kernel)⟩
theorem lw_p8 : lw_okq (⟨"StretchSpool$Command", "parseNumber", "(LStretchSpool$Text;)I"⟩, 6) := ⟨⟨by decide +kernel, by decide +kernel⟩, List.mem_of_getElem? (i := 162) (by decide +kernel), List.mem_of_getElem? (i := 512) (by decide +kernel), List.mem_of_getElem? (i := 513) (by decide +kernel)⟩
theorem lw_p9 : lw_okq (⟨"StretchSpool$Command", "parseBlank", "(LStretchSpool$Text;)V"⟩, 6) := ⟨⟨by decide +kernel, by decide +kernel⟩, List.mem_of_getElem? (i := 162) (by decide +kernel), List.mem_of_getElem? (i := 516) (by decide +kernel), List.mem_of_getElem? (i := 517) (by decide +kernel)⟩
theorem lw_p10 : lw_okq (⟨"StretchSpool$Command", "parseLetters", "(LStretchSpool$Text;)V"⟩, 6) := ⟨⟨by decide +kernel, by decide +kernel⟩, List.mem_of_getElem? (i := 162) (by decide +kernel), List.mem_of_getElem? (i := 520) (by decide +kernel), List.mem_of_getElem? (i := 521) (by decide +kernel)⟩
theorem lw_p11 : lw_okq (⟨"StretchSpool", "writeWire", "(III)I"⟩, 9) := ⟨⟨by decide +kernel, by decide +kernel⟩, List.mem_of_getElem? (i := 17) (by decide +kernel), List.mem_of_getElem? (i := 524) (by decide +kernel), List.mem_of_getElem? (i := 525) (by decide +kernel)⟩
theorem lw_p12 : lw_okq (⟨"StretchSpoolModel", "record", "()V"⟩, 15) := ⟨⟨by decide +kernel, by decide +kernel⟩, List.mem_of_getElem? (i := 636) (by decide +kernel), List.mem_of_getElem? (i := 695) (by decide +kernel), List.mem_of_getElem? (i := 696) (by decide +kernel)⟩
theorem lw_p13 : lw_okq (⟨"StretchSpoolModel", "isEmpty", "(I)Z"⟩, 15) := ⟨⟨by decide +kernel, by decide +kernel⟩, List.mem_of_getElem? (i := 636) (by decide +kernel), List.mem_of_getElem? (i := 710) (by decide +kernel), List.mem_of_getElem? (i := 711) (by decide +kernel)⟩
theorem lw_p14 : lw_okq (⟨"StretchSpoolModel", "of", "(II)I"⟩, 15) := ⟨⟨by decide +kernel, by decide +kernel⟩, List.mem_of_getElem? (i := 636) (by decide +kernel), List.mem_of_getElem? (i := 714) (by decide +kernel), List.mem_of_getElem? (i := 715) (by decide +kernel)⟩
theorem lw_p15 : lw_okq (⟨"StretchSpoolModel", "rewinds", "(II)Z"⟩, 15) := ⟨⟨by decide +kernel, by decide +kernel⟩, List.mem_of_getElem? (i := 636) (by decide +kernel), List.mem_of_getElem? (i := 718) (by decide +kernel), List.mem_of_getElem? (i := 719) (by decide +kernel)⟩
def lw_privs_1 : List (MethodName × Nat) := [(⟨"StretchSpool$History", "turn", "()V"⟩, 2), (⟨"StretchSpool$Log", "dropOldest", "()V"⟩, 4), (⟨"StretchSpool$State", "breakWire", "(II)V"⟩, 9), (⟨"StretchSpool$Wire", "putGap", "(III)V"⟩, 7), (⟨"StretchSpool$Wire", "appendBehind", "(LStretchSpool$Wire;I)V"⟩, 7), (⟨"StretchSpool$Wire", "copyGap", "(LStretchSpool$Wire;II)V"⟩, 7), (⟨"StretchSpool$Reader", "judge", "(III)V"⟩, 4), (⟨"StretchSpool$Wire", "sum", "([I)I"⟩, 7), (⟨"StretchSpool$Command", "parseNumber", "(LStretchSpool$Text;)I"⟩, 6), (⟨"StretchSpool$Command", "parseBlank", "(LStretchSpool$Text;)V"⟩, 6), (⟨"StretchSpool$Command", "parseLetters", "(LStretchSpool$Text;)V"⟩, 6), (⟨"StretchSpool", "writeWire", "(III)I"⟩, 9), (⟨"StretchSpoolModel", "record", "()V"⟩, 15), (⟨"StretchSpoolModel", "isEmpty", "(I)Z"⟩, 15), (⟨"StretchSpoolModel", "of", "(II)I"⟩, 15), (⟨"StretchSpoolModel", "rewinds", "(II)Z"⟩, 15)]
theorem lw_r1 : ∀ q ∈ lw_privs_1, lw_okq q := List.forall_mem_cons.mpr ⟨lw_p0, List.forall_mem_cons.mpr ⟨lw_p1, List.forall_mem_cons.mpr ⟨lw_p2, List.forall_mem_cons.mpr ⟨lw_p3, List.forall_mem_cons.mpr ⟨lw_p4, List.forall_mem_cons.mpr ⟨lw_p5, List.forall_mem_cons.mpr ⟨lw_p6, List.forall_mem_cons.mpr ⟨lw_p7, List.forall_mem_cons.mpr ⟨lw_p8, List.forall_mem_cons.mpr ⟨lw_p9, List.forall_mem_cons.mpr ⟨lw_p10, List.forall_mem_cons.mpr ⟨lw_p11, List.forall_mem_cons.mpr ⟨lw_p12, List.forall_mem_cons.mpr ⟨lw_p13, List.forall_mem_cons.mpr ⟨lw_p14, List.forall_mem_cons.mpr ⟨lw_p15, fun _ h => absurd h List.not_mem_nil⟩⟩⟩⟩⟩⟩⟩⟩⟩⟩⟩⟩⟩⟩⟩⟩
theorem lw_p16 : lw_okq (⟨"StretchSpoolModel", "gaps", "(I)I"⟩, 15) := ⟨⟨by decide +kernel, by decide +kernel⟩, List.mem_of_getElem? (i := 636) (by decide +kernel), List.mem_of_getElem? (i := 722) (by decide +kernel), List.mem_of_getElem? (i := 723) (by decide +kernel)⟩
theorem lw_p17 : lw_okq (⟨"StretchSpoolModel", "stretch", "(III)I"⟩, 15) := ⟨⟨by decide +kernel, by decide +kernel⟩, List.mem_of_getElem? (i := 636) (by decide +kernel), List.mem_of_getElem? (i := 726) (by decide +kernel), List.mem_of_getElem? (i := 727) (by decide +kernel)⟩
theorem lw_p18 : lw_okq (⟨"StretchSpoolModel", "puts", "(III)V"⟩, 15) := ⟨⟨by decide +kernel, by decide +kernel⟩, List.mem_of_getElem? (i := 636) (by decide +kernel), List.mem_of_getElem? (i := 730) (by decide +kernel), List.mem_of_getElem? (i := 731) (by decide +kernel)⟩
theorem lw_p19 : lw_okq (⟨"StretchSpoolModel", "tells", "(III)V"⟩, 15) := ⟨⟨by decide +kernel, by decide +kernel⟩, List.mem_of_getElem? (i := 636) (by decide +kernel), List.mem_of_getElem? (i := 734) (by decide +kernel), List.mem_of_getElem? (i := 735) (by decide +kernel)⟩
theorem lw_p20 : lw_okq (⟨"StretchSpoolModel", "copies", "(IIII)V"⟩, 15) := ⟨⟨by decide +kernel, by decide +kernel⟩, List.mem_of_getElem? (i := 636) (by decide +kernel), List.mem_of_getElem? (i := 742) (by decide +kernel), List.mem_of_getElem? (i := 743) (by decide +kernel)⟩
theorem lw_p21 : lw_okq (⟨"StretchSpoolModel", "punches", "(III)V"⟩, 15) := ⟨⟨by decide +kernel, by decide +kernel⟩, List.mem_of_getElem? (i := 636) (by decide +kernel), List.mem_of_getElem? (i := 746) (by decide +kernel), List.mem_of_getElem? (i := 747) (by decide +kernel)⟩
theorem lw_p22 : lw_okq (⟨"StretchSpoolModel", "isBarred", "(II)Z"⟩, 15) := ⟨⟨by decide +kernel, by decide +kernel⟩, List.mem_of_getElem? (i := 636) (by decide +kernel), List.mem_of_getElem? (i := 762) (by decide +kernel), List.mem_of_getElem? (i := 763) (by decide +kernel)⟩
theorem lw_p23 : lw_okq (⟨"StretchSpoolModel", "reads", "(II)V"⟩, 15) := ⟨⟨by decide +kernel, by decide +kernel⟩, List.mem_of_getElem? (i := 636) (by decide +kernel), List.mem_of_getElem? (i := 766) (by decide +kernel), List.mem_of_getElem? (i := 767) (by decide +kernel)⟩
theorem lw_p24 : lw_okq (⟨"StretchSpoolModel", "wrong", "(II)I"⟩, 15) := ⟨⟨by decide +kernel, by decide +kernel⟩, List.mem_of_getElem? (i := 636) (by decide +kernel), List.mem_of_getElem? (i := 773) (by decide +kernel), List.mem_of_getElem? (i := 774) (by decide +kernel)⟩
theorem lw_p25 : lw_okq (⟨"StretchSpoolModel", "isRight", "()Z"⟩, 15) := ⟨⟨by decide +kernel, by decide +kernel⟩, List.mem_of_getElem? (i := 636) (by decide +kernel), List.mem_of_getElem? (i := 789) (by decide +kernel), List.mem_of_getElem? (i := 790) (by decide +kernel)⟩
theorem lw_p26 : lw_okq (⟨"StretchSpoolModel", "word", "()I"⟩, 15) := ⟨⟨by decide +kernel, by decide +kernel⟩, List.mem_of_getElem? (i := 636) (by decide +kernel), List.mem_of_getElem? (i := 793) (by decide +kernel), List.mem_of_getElem? (i := 794) (by decide +kernel)⟩
theorem lw_p27 : lw_okq (⟨"StretchSpoolModel", "isWord", "(IIIII)Z"⟩, 15) := ⟨⟨by decide +kernel, by decide +kernel⟩, List.mem_of_getElem? (i := 636) (by decide +kernel), List.mem_of_getElem? (i := 797) (by decide +kernel), List.mem_of_getElem? (i := 798) (by decide +kernel)⟩
theorem lw_p28 : lw_okq (⟨"StretchSpoolModel", "isLong", "(IIIIII)Z"⟩, 15) := ⟨⟨by decide +kernel, by decide +kernel⟩, List.mem_of_getElem? (i := 636) (by decide +kernel), List.mem_of_getElem? (i := 801) (by decide +kernel), List.mem_of_getElem? (i := 802) (by decide +kernel)⟩
theorem lw_p29 : lw_okq (⟨"StretchSpoolModel", "takesBlank", "()Z"⟩, 15) := ⟨⟨by decide +kernel, by decide +kernel⟩, List.mem_of_getElem? (i := 636) (by decide +kernel), List.mem_of_getElem? (i := 805) (by decide +kernel), List.mem_of_getElem? (i := 806) (by decide +kernel)⟩
theorem lw_p30 : lw_okq (⟨"StretchSpoolModel", "takesNumber", "()Z"⟩, 15) := ⟨⟨by decide +kernel, by decide +kernel⟩, List.mem_of_getElem? (i := 636) (by decide +kernel), List.mem_of_getElem? (i := 809) (by decide +kernel), List.mem_of_getElem? (i := 810) (by decide +kernel)⟩
theorem lw_p31 : lw_okq (⟨"StretchSpoolModel", "writes", "()I"⟩, 15) := ⟨⟨by decide +kernel, by decide +kernel⟩, List.mem_of_getElem? (i := 636) (by decide +kernel), List.mem_of_getElem? (i := 813) (by decide +kernel), List.mem_of_getElem? (i := 814) (by decide +kernel)⟩
def lw_privs_2 : List (MethodName × Nat) := [(⟨"StretchSpoolModel", "gaps", "(I)I"⟩, 15), (⟨"StretchSpoolModel", "stretch", "(III)I"⟩, 15), (⟨"StretchSpoolModel", "puts", "(III)V"⟩, 15), (⟨"StretchSpoolModel", "tells", "(III)V"⟩, 15), (⟨"StretchSpoolModel", "copies", "(IIII)V"⟩, 15), (⟨"StretchSpoolModel", "punches", "(III)V"⟩, 15), (⟨"StretchSpoolModel", "isBarred", "(II)Z"⟩, 15), (⟨"StretchSpoolModel", "reads", "(II)V"⟩, 15), (⟨"StretchSpoolModel", "wrong", "(II)I"⟩, 15), (⟨"StretchSpoolModel", "isRight", "()Z"⟩, 15), (⟨"StretchSpoolModel", "word", "()I"⟩, 15), (⟨"StretchSpoolModel", "isWord", "(IIIII)Z"⟩, 15), (⟨"StretchSpoolModel", "isLong", "(IIIIII)Z"⟩, 15), (⟨"StretchSpoolModel", "takesBlank", "()Z"⟩, 15), (⟨"StretchSpoolModel", "takesNumber", "()Z"⟩, 15), (⟨"StretchSpoolModel", "writes", "()I"⟩, 15)]
theorem lw_r2 : ∀ q ∈ lw_privs_2, lw_okq q := List.forall_mem_cons.mpr ⟨lw_p16, List.forall_mem_cons.mpr ⟨lw_p17, List.forall_mem_cons.mpr ⟨lw_p18, List.forall_mem_cons.mpr ⟨lw_p19, List.forall_mem_cons.mpr ⟨lw_p20, List.forall_mem_cons.mpr ⟨lw_p21, List.forall_mem_cons.mpr ⟨lw_p22, List.forall_mem_cons.mpr ⟨lw_p23, List.forall_mem_cons.mpr ⟨lw_p24, List.forall_mem_cons.mpr ⟨lw_p25, List.forall_mem_cons.mpr ⟨lw_p26, List.forall_mem_cons.mpr ⟨lw_p27, List.forall_mem_cons.mpr ⟨lw_p28, List.forall_mem_cons.mpr ⟨lw_p29, List.forall_mem_cons.mpr ⟨lw_p30, List.forall_mem_cons.mpr ⟨lw_p31, fun _ h => absurd h List.not_mem_nil⟩⟩⟩⟩⟩⟩⟩⟩⟩⟩⟩⟩⟩⟩⟩⟩
theorem lw_p32 : lw_okq (⟨"StretchSpoolModel", "full", "()I"⟩, 15) := ⟨⟨by decide +kernel, by decide +kernel⟩, List.mem_of_getElem? (i := 636) (by decide +kernel), List.mem_of_getElem? (i := 830) (by decide +kernel), List.mem_of_getElem? (i := 831) (by decide +kernel)⟩
theorem lw_p33 : lw_okq (⟨"StretchSpoolModel", "sum", "(II)I"⟩, 15) := ⟨⟨by decide +kernel, by decide +kernel⟩, List.mem_of_getElem? (i := 636) (by decide +kernel), List.mem_of_getElem? (i := 842) (by decide +kernel), List.mem_of_getElem? (i := 843) (by decide +kernel)⟩
theorem lw_p34 : lw_okq (⟨"StretchSpoolModel", "nearest", "(I)I"⟩, 15) := ⟨⟨by decide +kernel, by decide +kernel⟩, List.mem_of_getElem? (i := 636) (by decide +kernel), List.mem_of_getElem? (i := 846) (by decide +kernel), List.mem_of_getElem? (i := 847) (by decide +kernel)⟩
theorem lw_p35 : lw_okq (⟨"StretchSpoolModel", "quotient", "(II)I"⟩, 15) := ⟨⟨by decide +kernel, by decide +kernel⟩, List.mem_of_getElem? (i := 636) (by decide +kernel), List.mem_of_getElem? (i := 850) (by decide +kernel), List.mem_of_getElem? (i := 851) (by decide +kernel)⟩
theorem lw_p36 : lw_okq (⟨"StretchSpoolModel", "allWrong", "(II)I"⟩, 15) := ⟨⟨by decide +kernel, by decide +kernel⟩, List.mem_of_getElem? (i := 636) (by decide +kernel), List.mem_of_getElem? (i := 870) (by decide +kernel), List.mem_of_getElem? (i := 871) (by decide +kernel)⟩
theorem lw_p37 : lw_okq (⟨"StretchSpoolModel", "asks", "(IIII)I"⟩, 15) := ⟨⟨by decide +kernel, by decide +kernel⟩, List.mem_of_getElem? (i := 636) (by decide +kernel), List.mem_of_getElem? (i := 878) (by decide +kernel), List.mem_of_getElem? (i := 879) (by decide +kernel)⟩
theorem lw_p38 : lw_okq (⟨"StretchSpoolModel", "goes", "()V"⟩, 15) := ⟨⟨by decide +kernel, by decide +kernel⟩, List.mem_of_getElem? (i := 636) (by decide +kernel), List.mem_of_getElem? (i := 882) (by decide +kernel), List.mem_of_getElem? (i := 883) (by decide +kernel)⟩
theorem lw_p39 : lw_okq (⟨"StretchSpoolModel", "comes", "()V"⟩, 15) := ⟨⟨by decide +kernel, by decide +kernel⟩, List.mem_of_getElem? (i := 636) (by decide +kernel), List.mem_of_getElem? (i := 886) (by decide +kernel), List.mem_of_getElem? (i := 887) (by decide +kernel)⟩
theorem lw_p40 : lw_okq (⟨"StretchSpoolModel", "isReadSo", "(II)Z"⟩, 15) := ⟨⟨by decide +kernel, by decide +kernel⟩, List.mem_of_getElem? (i := 636) (by decide +kernel), List.mem_of_getElem? (i := 894) (by decide +kernel), List.mem_of_getElem? (i := 895) (by decide +kernel)⟩
theorem lw_p41 : lw_okq (⟨"StretchSpoolModel", "letters", "()I"⟩, 15) := ⟨⟨by decide +kernel, by decide +kernel⟩, List.mem_of_getElem? (i := 636) (by decide +kernel), List.mem_of_getElem? (i := 906) (by decide +kernel), List.mem_of_getElem? (i := 907) (by decide +kernel)⟩
def lw_privs_3 : List (MethodName × Nat) := [(⟨"StretchSpoolModel", "full", "()I"⟩, 15), (⟨"StretchSpoolModel", "sum", "(II)I"⟩, 15), (⟨"StretchSpoolModel", "nearest", "(I)I"⟩, 15), (⟨"StretchSpoolModel", "quotient", "(II)I"⟩, 15), (⟨"StretchSpoolModel", "allWrong", "(II)I"⟩, 15), (⟨"StretchSpoolModel", "asks", "(IIII)I"⟩, 15), (⟨"StretchSpoolModel", "goes", "()V"⟩, 15), (⟨"StretchSpoolModel", "comes", "()V"⟩, 15), (⟨"StretchSpoolModel", "isReadSo", "(II)Z"⟩, 15), (⟨"StretchSpoolModel", "letters", "()I"⟩, 15)]
theorem lw_r3 : ∀ q ∈ lw_privs_3, lw_okq q := List.forall_mem_cons.mpr ⟨lw_p32, List.forall_mem_cons.mpr ⟨lw_p33, List.forall_mem_cons.mpr ⟨lw_p34, List.forall_mem_cons.mpr ⟨lw_p35, List.forall_mem_cons.mpr ⟨lw_p36, List.forall_mem_cons.mpr ⟨lw_p37, List.forall_mem_cons.mpr ⟨lw_p38, List.forall_mem_cons.mpr ⟨lw_p39, List.forall_mem_cons.mpr ⟨lw_p40, List.forall_mem_cons.mpr ⟨lw_p41, fun _ h => absurd h List.not_mem_nil⟩⟩⟩⟩⟩⟩⟩⟩⟩⟩
def lw_privs : List (MethodName × Nat) := lw_privs_1 ++ (lw_privs_2 ++ (lw_privs_3))
def lw_tbl : List Cond := k2_sels lw_privs ++ tables_1
theorem lw_privs_ok : ∀ q ∈ lw_privs, lw_okq q := by
  show ∀ q ∈ lw_privs_1 ++ (lw_privs_2 ++ (lw_privs_3)), lw_okq q
  exact List.forall_mem_append.mpr ⟨lw_r1, List.forall_mem_append.mpr ⟨lw_r2, lw_r3⟩⟩
def RX0 : String := "StretchSpool$Command"
def TX0 : u_T := fun k => match k with
  | 0 => ("StretchSpool$Command", "word", "I", false)
  | 1 => ("StretchSpool$Command", "first", "I", false)
  | 2 => ("StretchSpool$Command", "second", "I", false)
  | 3 => ("StretchSpool$Command", "letterPlace", "I", false)
  | 4 => ("StretchSpool$Command", "fault", "I", false)
  | _ => ("StretchSpool$Command", "place", "I", false)
def tyX0 : Nat → FieldType := fun k => match k with
  | 0 => .int
  | 1 => .int
  | 2 => .int
  | 3 => .int
  | 4 => .int
  | _ => .int
theorem nmX0 : ∀ a, a < 6 → ∀ b, b < 6 → a ≠ b → (TX0 a).2.1 ≠ (TX0 b).2.1 := by decide +kernel
theorem tyX0_ok : ∀ k, k < 6 → parseFieldDescriptor (TX0 k).2.2.1 = some (tyX0 k) := by decide +kernel
abbrev cX0_init : ByteArray := prog_2_method_1_code
def yX0_init : MethodName := ⟨RX0, "<init>", "()V"⟩
abbrev cX0_parse : ByteArray := prog_2_method_2_code
def yX0_parse : MethodName := ⟨RX0, "parse", "(LStretchSpool$Text;)V"⟩
abbrev cX0_lengthOfWord : ByteArray := prog_2_method_3_code
def yX0_lengthOfWord : MethodName := ⟨RX0, "lengthOfWord", "(LStretchSpool$Text;)I"⟩
abbrev cX0_wordOf : ByteArray := prog_2_method_4_code
def yX0_wordOf : MethodName := ⟨RX0, "wordOf", "(LStretchSpool$Text;I)I"⟩
abbrev cX0_parseNumber : ByteArray := prog_2_method_5_code
def yX0_parseNumber : MethodName := ⟨RX0, "parseNumber", "(LStretchSpool$Text;)I"⟩
abbrev cX0_parseLetters : ByteArray := prog_2_method_6_code
def yX0_parseLetters : MethodName := ⟨RX0, "parseLetters", "(LStretchSpool$Text;)V"⟩
abbrev cX0_parseBlank : ByteArray := prog_2_method_7_code
def yX0_parseBlank : MethodName := ⟨RX0, "parseBlank", "(LStretchSpool$Text;)V"⟩
abbrev cX0_isBetween : ByteArray := prog_2_method_8_code
def yX0_isBetween : MethodName := ⟨RX0, "isBetween", "(III)Z"⟩
def RX1 : String := "StretchSpool$History"
def TX1 : u_T := fun k => match k with
  | 0 => ("StretchSpool$History", "states", "[LStretchSpool$State;", true)
  | _ => ("StretchSpool$History", "size", "I", false)
def tyX1 : Nat → FieldType := fun k => match k with
  | 0 => .array (.object "StretchSpool$State")
  | _ => .int
theorem nmX1 : ∀ a, a < 2 → ∀ b, b < 2 → a ≠ b → (TX1 a).2.1 ≠ (TX1 b).2.1 := by decide +kernel
theorem tyX1_ok : ∀ k, k < 2 → parseFieldDescriptor (TX1 k).2.2.1 = some (tyX1 k) := by decide +kernel
abbrev cX1_init : ByteArray := prog_3_method_1_code
def yX1_init : MethodName := ⟨RX1, "<init>", "()V"⟩
abbrev cX1_remember : ByteArray := prog_3_method_2_code
def yX1_remember : MethodName := ⟨RX1, "remember", "(LStretchSpool$State;)V"⟩
abbrev cX1_turn : ByteArray := prog_3_method_3_code
def yX1_turn : MethodName := ⟨RX1, "turn", "()V"⟩
abbrev cX1_takeBack : ByteArray := prog_3_method_4_code
def yX1_takeBack : MethodName := ⟨RX1, "takeBack", "(LStretchSpool$State;)Z"⟩
def RX2 : String := "StretchSpool$Log"
def TX2 : u_T := fun k => match k with
  | 0 => ("StretchSpool$Log", "kinds", "[I", true)
  | 1 => ("StretchSpool$Log", "spools", "[I", true)
  | 2 => ("StretchSpool$Log", "numbers", "[I", true)
  | _ => ("StretchSpool$Log", "size", "I", false)
def tyX2 : Nat → FieldType := fun k => match k with
  | 0 => .array .int
  | 1 => .array .int
  | 2 => .array .int
  | _ => .int
theorem nmX2 : ∀ a, a < 4 → ∀ b, b < 4 → a ≠ b → (TX2 a).2.1 ≠ (TX2 b).2.1 := by decide +kernel
theorem tyX2_ok : ∀ k, k < 4 → parseFieldDescriptor (TX2 k).2.2.1 = some (tyX2 k) := by decide +kernel
abbrev cX2_init : ByteArray := prog_4_method_1_code
def yX2_init : MethodName := ⟨RX2, "<init>", "()V"⟩
abbrev cX2_copyFrom : ByteArray := prog_4_method_2_code
def yX2_copyFrom : MethodName := ⟨RX2, "copyFrom", "(LStretchSpool$Log;)V"⟩
abbrev cX2_add : ByteArray := prog_4_method_3_code
def yX2_add : MethodName := ⟨RX2, "add", "(III)V"⟩
abbrev cX2_dropOldest : ByteArray := prog_4_method_4_code
def yX2_dropOldest : MethodName := ⟨RX2, "dropOldest", "()V"⟩
abbrev cX2_tell : ByteArray := prog_4_method_5_code
def yX2_tell : MethodName := ⟨RX2, "tell", "(II)I"⟩
def RX3 : String := "StretchSpool$Reader"
def TX3 : u_T := fun k => match k with
  | 0 => ("StretchSpool$Reader", "numbers", "[I", true)
  | 1 => ("StretchSpool$Reader", "misread", "I", false)
  | 2 => ("StretchSpool$Reader", "unread", "I", false)
  | _ => ("StretchSpool$Reader", "firstError", "I", false)
def tyX3 : Nat → FieldType := fun k => match k with
  | 0 => .array .int
  | 1 => .int
  | 2 => .int
  | _ => .int
theorem nmX3 : ∀ a, a < 4 → ∀ b, b < 4 → a ≠ b → (TX3 a).2.1 ≠ (TX3 b).2.1 := by decide +kernel
theorem tyX3_ok : ∀ k, k < 4 → parseFieldDescriptor (TX3 k).2.2.1 = some (tyX3 k) := by decide +kernel
abbrev cX3_init : ByteArray := prog_5_method_1_code
def yX3_init : MethodName := ⟨RX3, "<init>", "()V"⟩
abbrev cX3_readAll : ByteArray := prog_5_method_2_code
def yX3_readAll : MethodName := ⟨RX3, "readAll", "(LStretchSpool$Wire;I)V"⟩
abbrev cX3_measureBetweenEnds : ByteArray := prog_5_method_3_code
def yX3_measureBetweenEnds : MethodName := ⟨RX3, "measureBetweenEnds", "(LStretchSpool$Wire;I)I"⟩
abbrev cX3_numberOf : ByteArray := prog_5_method_4_code
def yX3_numberOf : MethodName := ⟨RX3, "numberOf", "(II)I"⟩
abbrev cX3_judge : ByteArray := prog_5_method_5_code
def yX3_judge : MethodName := ⟨RX3, "judge", "(III)V"⟩
abbrev cX3_errorCount : ByteArray := prog_5_method_6_code
def yX3_errorCount : MethodName := ⟨RX3, "errorCount", "()I"⟩
abbrev cX3_readTheSame : ByteArray := prog_5_method_7_code
def yX3_readTheSame : MethodName := ⟨RX3, "readTheSame", "(LStretchSpool$Reader;I)Z"⟩
def RX4 : String := "StretchSpool$State"
def TX4 : u_T := fun k => match k with
  | 0 => ("StretchSpool$State", "wires", "[LStretchSpool$Wire;", true)
  | 1 => ("StretchSpool$State", "log", "LStretchSpool$Log;", true)
  | 2 => ("StretchSpool$State", "rule", "I", false)
  | 3 => ("StretchSpool$State", "limit", "I", false)
  | 4 => ("StretchSpool$State", "minutes", "I", false)
  | 5 => ("StretchSpool$State", "used", "I", false)
  | 6 => ("StretchSpool$State", "rewinds", "I", false)
  | 7 => ("StretchSpool$State", "breaks", "I", false)
  | _ => ("StretchSpool$State", "lettersLost", "I", false)
def tyX4 : Nat → FieldType := fun k => match k with
  | 0 => .array (.object "StretchSpool$Wire")
  | 1 => .object "StretchSpool$Log"
  | 2 => .int
  | 3 => .int
  | 4 => .int
  | 5 => .int
  | 6 => .int
  | 7 => .int
  | _ => .int
theorem nmX4 : ∀ a, a < 9 → ∀ b, b < 9 → a ≠ b → (TX4 a).2.1 ≠ (TX4 b).2.1 := by decide +kernel
theorem tyX4_ok : ∀ k, k < 9 → parseFieldDescriptor (TX4 k).2.2.1 = some (tyX4 k) := by decide +kernel
abbrev cX4_init : ByteArray := prog_6_method_1_code
def yX4_init : MethodName := ⟨RX4, "<init>", "()V"⟩
abbrev cX4_copyFrom : ByteArray := prog_6_method_2_code
def yX4_copyFrom : MethodName := ⟨RX4, "copyFrom", "(LStretchSpool$State;)V"⟩
abbrev cX4_spoolsWithWire : ByteArray := prog_6_method_3_code
def yX4_spoolsWithWire : MethodName := ⟨RX4, "spoolsWithWire", "()I"⟩
abbrev cX4_lettersOnAll : ByteArray := prog_6_method_4_code
def yX4_lettersOnAll : MethodName := ⟨RX4, "lettersOnAll", "()I"⟩
abbrev cX4_lowestEmpty : ByteArray := prog_6_method_5_code
def yX4_lowestEmpty : MethodName := ⟨RX4, "lowestEmpty", "()I"⟩
abbrev cX4_wind : ByteArray := prog_6_method_6_code
def yX4_wind : MethodName := ⟨RX4, "wind", "(III)I"⟩
abbrev cX4_breakWire : ByteArray := prog_6_method_7_code
def yX4_breakWire : MethodName := ⟨RX4, "breakWire", "(II)V"⟩
def RX5 : String := "StretchSpool$Text"
def TX5 : u_T := fun k => match k with
  | 0 => ("StretchSpool$Text", "characters", "[C", true)
  | _ => ("StretchSpool$Text", "size", "I", false)
def tyX5 : Nat → FieldType := fun k => match k with
  | 0 => .array .char
  | _ => .int
theorem nmX5 : ∀ a, a < 2 → ∀ b, b < 2 → a ≠ b → (TX5 a).2.1 ≠ (TX5 b).2.1 := by decide +kernel
theorem tyX5_ok : ∀ k, k < 2 → parseFieldDescriptor (TX5 k).2.2.1 = some (tyX5 k) := by decide +kernel
abbrev cX5_init : ByteArray := prog_7_method_1_code
def yX5_init : MethodName := ⟨RX5, "<init>", "()V"⟩
abbrev cX5_add : ByteArray := prog_7_method_2_code
def yX5_add : MethodName := ⟨RX5, "add", "(C)Z"⟩
abbrev cX5_codeAt : ByteArray := prog_7_method_3_code
def yX5_codeAt : MethodName := ⟨RX5, "codeAt", "(I)I"⟩
abbrev cX5_startsWith : ByteArray := prog_7_method_4_code
def yX5_startsWith : MethodName := ⟨RX5, "startsWith", "(Ljava/lang/String;I)Z"⟩
def RX6 : String := "StretchSpool$Wire"
def TX6 : u_T := fun k => match k with
  | 0 => ("StretchSpool$Wire", "lengths", "[I", true)
  | 1 => ("StretchSpool$Wire", "nominals", "[I", true)
  | 2 => ("StretchSpool$Wire", "truths", "[I", true)
  | 3 => ("StretchSpool$Wire", "present", "Z", false)
  | 4 => ("StretchSpool$Wire", "closed", "Z", false)
  | 5 => ("StretchSpool$Wire", "letters", "I", false)
  | _ => ("StretchSpool$Wire", "rewinds", "I", false)
def tyX6 : Nat → FieldType := fun k => match k with
  | 0 => .array .int
  | 1 => .array .int
  | 2 => .array .int
  | 3 => .boolean
  | 4 => .boolean
  | 5 => .int
  | _ => .int
theorem nmX6 : ∀ a, a < 7 → ∀ b, b < 7 → a ≠ b → (TX6 a).2.1 ≠ (TX6 b).2.1 := by decide +kernel
theorem tyX6_ok : ∀ k, k < 7 → parseFieldDescriptor (TX6 k).2.2.1 = some (tyX6 k) := by decide +kernel
abbrev cX6_init : ByteArray := prog_8_method_1_code
def yX6_init : MethodName := ⟨RX6, "<init>", "()V"⟩
abbrev cX6_copyFrom : ByteArray := prog_8_method_2_code
def yX6_copyFrom : MethodName := ⟨RX6, "copyFrom", "(LStretchSpool$Wire;)V"⟩
abbrev cX6_gaps : ByteArray := prog_8_method_3_code
def yX6_gaps : MethodName := ⟨RX6, "gaps", "()I"⟩
abbrev cX6_hasGap : ByteArray := prog_8_method_4_code
def yX6_hasGap : MethodName := ⟨RX6, "hasGap", "(I)Z"⟩
abbrev cX6_hasLetter : ByteArray := prog_8_method_5_code
def yX6_hasLetter : MethodName := ⟨RX6, "hasLetter", "(I)Z"⟩
abbrev cX6_canBeReadBy : ByteArray := prog_8_method_6_code
def yX6_canBeReadBy : MethodName := ⟨RX6, "canBeReadBy", "(I)Z"⟩
abbrev cX6_empty : ByteArray := prog_8_method_7_code
def yX6_empty : MethodName := ⟨RX6, "empty", "()V"⟩
abbrev cX6_begin : ByteArray := prog_8_method_8_code
def yX6_begin : MethodName := ⟨RX6, "begin", "()V"⟩
abbrev cX6_write : ByteArray := prog_8_method_9_code
def yX6_write : MethodName := ⟨RX6, "write", "(I)V"⟩
abbrev cX6_putEnd : ByteArray := prog_8_method_10_code
def yX6_putEnd : MethodName := ⟨RX6, "putEnd", "()V"⟩
abbrev cX6_putGap : ByteArray := prog_8_method_11_code
def yX6_putGap : MethodName := ⟨RX6, "putGap", "(III)V"⟩
abbrev cX6_copyGap : ByteArray := prog_8_method_12_code
def yX6_copyGap : MethodName := ⟨RX6, "copyGap", "(LStretchSpool$Wire;II)V"⟩
abbrev cX6_takeTail : ByteArray := prog_8_method_13_code
def yX6_takeTail : MethodName := ⟨RX6, "takeTail", "(LStretchSpool$Wire;I)V"⟩
abbrev cX6_join : ByteArray := prog_8_method_14_code
def yX6_join : MethodName := ⟨RX6, "join", "(LStretchSpool$Wire;)V"⟩
abbrev cX6_appendBehind : ByteArray := prog_8_method_15_code
def yX6_appendBehind : MethodName := ⟨RX6, "appendBehind", "(LStretchSpool$Wire;I)V"⟩
abbrev cX6_punchAll : ByteArray := prog_8_method_16_code
def yX6_punchAll : MethodName := ⟨RX6, "punchAll", "([I)V"⟩
abbrev cX6_stretch : ByteArray := prog_8_method_17_code
def yX6_stretch : MethodName := ⟨RX6, "stretch", "(III)I"⟩
abbrev cX6_breakAt : ByteArray := prog_8_method_18_code
def yX6_breakAt : MethodName := ⟨RX6, "breakAt", "(I)V"⟩
abbrev cX6_sumOfLengths : ByteArray := prog_8_method_19_code
def yX6_sumOfLengths : MethodName := ⟨RX6, "sumOfLengths", "()I"⟩
abbrev cX6_sumOfNominals : ByteArray := prog_8_method_20_code
def yX6_sumOfNominals : MethodName := ⟨RX6, "sumOfNominals", "()I"⟩
abbrev cX6_sum : ByteArray := prog_8_method_21_code
def yX6_sum : MethodName := ⟨RX6, "sum", "([I)I"⟩
abbrev cX6_nearestToLimit : ByteArray := prog_8_method_22_code
def yX6_nearestToLimit : MethodName := ⟨RX6, "nearestToLimit", "()I"⟩
abbrev cX6_strain : ByteArray := prog_8_method_23_code
def yX6_strain : MethodName := ⟨RX6, "strain", "(I)I"⟩
def RX7 : String := "StretchSpool"
def TX7 : u_T := fun k => match k with
  | 0 => ("StretchSpool", "now", "LStretchSpool$State;", true)
  | 1 => ("StretchSpool", "history", "LStretchSpool$History;", true)
  | 2 => ("StretchSpool", "snapshot", "LStretchSpool$State;", true)
  | 3 => ("StretchSpool", "kept", "Z", false)
  | 4 => ("StretchSpool", "text", "LStretchSpool$Text;", true)
  | 5 => ("StretchSpool", "command", "LStretchSpool$Command;", true)
  | 6 => ("StretchSpool", "reader", "LStretchSpool$Reader;", true)
  | 7 => ("StretchSpool", "laterReader", "LStretchSpool$Reader;", true)
  | _ => ("StretchSpool", "trial", "LStretchSpool$Wire;", true)
def tyX7 : Nat → FieldType := fun k => match k with
  | 0 => .object "StretchSpool$State"
  | 1 => .object "StretchSpool$History"
  | 2 => .object "StretchSpool$State"
  | 3 => .boolean
  | 4 => .object "StretchSpool$Text"
  | 5 => .object "StretchSpool$Command"
  | 6 => .object "StretchSpool$Reader"
  | 7 => .object "StretchSpool$Reader"
  | _ => .object "StretchSpool$Wire"
theorem nmX7 : ∀ a, a < 9 → ∀ b, b < 9 → a ≠ b → (TX7 a).2.1 ≠ (TX7 b).2.1 := by decide +kernel
theorem tyX7_ok : ∀ k, k < 9 → parseFieldDescriptor (TX7 k).2.2.1 = some (tyX7 k) := by decide +kernel
abbrev cX7_init : ByteArray := prog_1_method_1_code
def yX7_init : MethodName := ⟨RX7, "<init>", "()V"⟩
abbrev cX7_setRule : ByteArray := prog_1_method_2_code
def yX7_setRule : MethodName := ⟨RX7, "setRule", "(I)I"⟩
abbrev cX7_setLimit : ByteArray := prog_1_method_3_code
def yX7_setLimit : MethodName := ⟨RX7, "setLimit", "(I)I"⟩
abbrev cX7_rewind : ByteArray := prog_1_method_4_code
def yX7_rewind : MethodName := ⟨RX7, "rewind", "(III)I"⟩
abbrev cX7_cut : ByteArray := prog_1_method_5_code
def yX7_cut : MethodName := ⟨RX7, "cut", "(II)I"⟩
abbrev cX7_splice : ByteArray := prog_1_method_6_code
def yX7_splice : MethodName := ⟨RX7, "splice", "(II)I"⟩
abbrev cX7_close : ByteArray := prog_1_method_7_code
def yX7_close : MethodName := ⟨RX7, "close", "(I)I"⟩
abbrev cX7_punch : ByteArray := prog_1_method_8_code
def yX7_punch : MethodName := ⟨RX7, "punch", "(II)I"⟩
abbrev cX7_type : ByteArray := prog_1_method_9_code
def yX7_type : MethodName := ⟨RX7, "type", "(C)I"⟩
abbrev cX7_clearText : ByteArray := prog_1_method_10_code
def yX7_clearText : MethodName := ⟨RX7, "clearText", "()I"⟩
abbrev cX7_perform : ByteArray := prog_1_method_11_code
def yX7_perform : MethodName := ⟨RX7, "perform", "()I"⟩
abbrev cX7_writeWire : ByteArray := prog_1_method_12_code
def yX7_writeWire : MethodName := ⟨RX7, "writeWire", "(III)I"⟩
abbrev cX7_undo : ByteArray := prog_1_method_13_code
def yX7_undo : MethodName := ⟨RX7, "undo", "()I"⟩
abbrev cX7_keep : ByteArray := prog_1_method_14_code
def yX7_keep : MethodName := ⟨RX7, "keep", "()I"⟩
abbrev cX7_restore : ByteArray := prog_1_method_15_code
def yX7_restore : MethodName := ⟨RX7, "restore", "()I"⟩
abbrev cX7_spool : ByteArray := prog_1_method_16_code
def yX7_spool : MethodName := ⟨RX7, "spool", "(II)I"⟩
abbrev cX7_gap : ByteArray := prog_1_method_17_code
def yX7_gap : MethodName := ⟨RX7, "gap", "(III)I"⟩
abbrev cX7_read : ByteArray := prog_1_method_18_code
def yX7_read : MethodName := ⟨RX7, "read", "(III)I"⟩
abbrev cX7_errors : ByteArray := prog_1_method_19_code
def yX7_errors : MethodName := ⟨RX7, "errors", "(III)I"⟩
abbrev cX7_bestWay : ByteArray := prog_1_method_20_code
def yX7_bestWay : MethodName := ⟨RX7, "bestWay", "(I)I"⟩
abbrev cX7_errorsAfter : ByteArray := prog_1_method_21_code
def yX7_errorsAfter : MethodName := ⟨RX7, "errorsAfter", "(IIII)I"⟩
abbrev cX7_safeRewinds : ByteArray := prog_1_method_22_code
def yX7_safeRewinds : MethodName := ⟨RX7, "safeRewinds", "(III)I"⟩
abbrev cX7_event : ByteArray := prog_1_method_23_code
def yX7_event : MethodName := ⟨RX7, "event", "(II)I"⟩
abbrev cX7_count : ByteArray := prog_1_method_24_code
def yX7_count : MethodName := ⟨RX7, "count", "(I)I"⟩
abbrev cX7_isSpool : ByteArray := prog_1_method_25_code
def yX7_isSpool : MethodName := ⟨RX7, "isSpool", "(I)Z"⟩
abbrev cX7_isPull : ByteArray := prog_1_method_26_code
def yX7_isPull : MethodName := ⟨RX7, "isPull", "(I)Z"⟩
abbrev cX7_isWay : ByteArray := prog_1_method_27_code
def yX7_isWay : MethodName := ⟨RX7, "isWay", "(I)Z"⟩
abbrev cX7_isWayOfOneEnd : ByteArray := prog_1_method_28_code
def yX7_isWayOfOneEnd : MethodName := ⟨RX7, "isWayOfOneEnd", "(I)Z"⟩
abbrev cX7_nominalOf : ByteArray := prog_1_method_29_code
def yX7_nominalOf : MethodName := ⟨RX7, "nominalOf", "(I)I"⟩
abbrev cX7_stretchOf : ByteArray := prog_1_method_30_code
def yX7_stretchOf : MethodName := ⟨RX7, "stretchOf", "(IIII)I"⟩
def RX8 : String := "StretchSpoolModel"
def TX8 : u_T := fun k => match k with
  | 0 => ("StretchSpoolModel", "now", "[I", true)
  | 1 => ("StretchSpoolModel", "history", "[I", true)
  | 2 => ("StretchSpoolModel", "kept", "I", false)
  | 3 => ("StretchSpoolModel", "slot", "[I", true)
  | 4 => ("StretchSpoolModel", "isFilled", "Z", false)
  | 5 => ("StretchSpoolModel", "spare", "[I", true)
  | 6 => ("StretchSpoolModel", "codes", "[I", true)
  | 7 => ("StretchSpoolModel", "typed", "I", false)
  | 8 => ("StretchSpoolModel", "text", "[C", true)
  | 9 => ("StretchSpoolModel", "at", "I", false)
  | 10 => ("StretchSpoolModel", "told", "I", false)
  | 11 => ("StretchSpoolModel", "readWord", "I", false)
  | 12 => ("StretchSpoolModel", "first", "I", false)
  | 13 => ("StretchSpoolModel", "second", "I", false)
  | _ => ("StretchSpoolModel", "readNow", "[I", true)
def tyX8 : Nat → FieldType := fun k => match k with
  | 0 => .array .int
  | 1 => .array .int
  | 2 => .int
  | 3 => .array .int
  | 4 => .boolean
  | 5 => .array .int
  | 6 => .array .int
  | 7 => .int
  | 8 => .array .char
  | 9 => .int
  | 10 => .int
  | 11 => .int
  | 12 => .int
  | 13 => .int
  | _ => .array .int
theorem nmX8 : ∀ a, a < 15 → ∀ b, b < 15 → a ≠ b → (TX8 a).2.1 ≠ (TX8 b).2.1 := by decide +kernel
theorem tyX8_ok : ∀ k, k < 15 → parseFieldDescriptor (TX8 k).2.2.1 = some (tyX8 k) := by decide +kernel
abbrev cX8_init : ByteArray := prog_10_method_1_code
def yX8_init : MethodName := ⟨RX8, "<init>", "()V"⟩
abbrev cX8_in : ByteArray := prog_10_method_2_code
def yX8_in : MethodName := ⟨RX8, "in", "(III)Z"⟩
abbrev cX8_noSpool : ByteArray := prog_10_method_3_code
def yX8_noSpool : MethodName := ⟨RX8, "noSpool", "(I)Z"⟩
abbrev cX8_of : ByteArray := prog_10_method_4_code
def yX8_of : MethodName := ⟨RX8, "of", "(II)I"⟩
abbrev cX8_puts : ByteArray := prog_10_method_5_code
def yX8_puts : MethodName := ⟨RX8, "puts", "(III)V"⟩
abbrev cX8_isEmpty : ByteArray := prog_10_method_6_code
def yX8_isEmpty : MethodName := ⟨RX8, "isEmpty", "(I)Z"⟩
abbrev cX8_gaps : ByteArray := prog_10_method_7_code
def yX8_gaps : MethodName := ⟨RX8, "gaps", "(I)I"⟩
abbrev cX8_record : ByteArray := prog_10_method_8_code
def yX8_record : MethodName := ⟨RX8, "record", "()V"⟩
abbrev cX8_tells : ByteArray := prog_10_method_9_code
def yX8_tells : MethodName := ⟨RX8, "tells", "(III)V"⟩
abbrev cX8_setRule : ByteArray := prog_10_method_10_code
def yX8_setRule : MethodName := ⟨RX8, "setRule", "(I)I"⟩
abbrev cX8_setLimit : ByteArray := prog_10_method_11_code
def yX8_setLimit : MethodName := ⟨RX8, "setLimit", "(I)I"⟩
abbrev cX8_punches : ByteArray := prog_10_method_12_code
def yX8_punches : MethodName := ⟨RX8, "punches", "(III)V"⟩
abbrev cX8_copies : ByteArray := prog_10_method_13_code
def yX8_copies : MethodName := ⟨RX8, "copies", "(IIII)V"⟩
abbrev cX8_stretch : ByteArray := prog_10_method_14_code
def yX8_stretch : MethodName := ⟨RX8, "stretch", "(III)I"⟩
abbrev cX8_rewinds : ByteArray := prog_10_method_15_code
def yX8_rewinds : MethodName := ⟨RX8, "rewinds", "(II)Z"⟩
abbrev cX8_rewind : ByteArray := prog_10_method_16_code
def yX8_rewind : MethodName := ⟨RX8, "rewind", "(III)I"⟩
abbrev cX8_cut : ByteArray := prog_10_method_17_code
def yX8_cut : MethodName := ⟨RX8, "cut", "(II)I"⟩
abbrev cX8_splice : ByteArray := prog_10_method_18_code
def yX8_splice : MethodName := ⟨RX8, "splice", "(II)I"⟩
abbrev cX8_close : ByteArray := prog_10_method_19_code
def yX8_close : MethodName := ⟨RX8, "close", "(I)I"⟩
abbrev cX8_number : ByteArray := prog_10_method_20_code
def yX8_number : MethodName := ⟨RX8, "number", "(II)I"⟩
abbrev cX8_reads : ByteArray := prog_10_method_21_code
def yX8_reads : MethodName := ⟨RX8, "reads", "(II)V"⟩
abbrev cX8_isBarred : ByteArray := prog_10_method_22_code
def yX8_isBarred : MethodName := ⟨RX8, "isBarred", "(II)Z"⟩
abbrev cX8_wrong : ByteArray := prog_10_method_23_code
def yX8_wrong : MethodName := ⟨RX8, "wrong", "(II)I"⟩
abbrev cX8_allWrong : ByteArray := prog_10_method_24_code
def yX8_allWrong : MethodName := ⟨RX8, "allWrong", "(II)I"⟩
abbrev cX8_punch : ByteArray := prog_10_method_25_code
def yX8_punch : MethodName := ⟨RX8, "punch", "(II)I"⟩
abbrev cX8_type : ByteArray := prog_10_method_26_code
def yX8_type : MethodName := ⟨RX8, "type", "(C)I"⟩
abbrev cX8_clearText : ByteArray := prog_10_method_27_code
def yX8_clearText : MethodName := ⟨RX8, "clearText", "()I"⟩
abbrev cX8_isWord : ByteArray := prog_10_method_28_code
def yX8_isWord : MethodName := ⟨RX8, "isWord", "(IIIII)Z"⟩
abbrev cX8_isLong : ByteArray := prog_10_method_29_code
def yX8_isLong : MethodName := ⟨RX8, "isLong", "(IIIIII)Z"⟩
abbrev cX8_word : ByteArray := prog_10_method_30_code
def yX8_word : MethodName := ⟨RX8, "word", "()I"⟩
abbrev cX8_takesBlank : ByteArray := prog_10_method_31_code
def yX8_takesBlank : MethodName := ⟨RX8, "takesBlank", "()Z"⟩
abbrev cX8_takesNumber : ByteArray := prog_10_method_32_code
def yX8_takesNumber : MethodName := ⟨RX8, "takesNumber", "()Z"⟩
abbrev cX8_isRight : ByteArray := prog_10_method_33_code
def yX8_isRight : MethodName := ⟨RX8, "isRight", "()Z"⟩
abbrev cX8_writes : ByteArray := prog_10_method_34_code
def yX8_writes : MethodName := ⟨RX8, "writes", "()I"⟩
abbrev cX8_perform : ByteArray := prog_10_method_35_code
def yX8_perform : MethodName := ⟨RX8, "perform", "()I"⟩
abbrev cX8_full : ByteArray := prog_10_method_36_code
def yX8_full : MethodName := ⟨RX8, "full", "()I"⟩
abbrev cX8_undo : ByteArray := prog_10_method_37_code
def yX8_undo : MethodName := ⟨RX8, "undo", "()I"⟩
abbrev cX8_keep : ByteArray := prog_10_method_38_code
def yX8_keep : MethodName := ⟨RX8, "keep", "()I"⟩
abbrev cX8_restore : ByteArray := prog_10_method_39_code
def yX8_restore : MethodName := ⟨RX8, "restore", "()I"⟩
abbrev cX8_quotient : ByteArray := prog_10_method_40_code
def yX8_quotient : MethodName := ⟨RX8, "quotient", "(II)I"⟩
abbrev cX8_nearest : ByteArray := prog_10_method_41_code
def yX8_nearest : MethodName := ⟨RX8, "nearest", "(I)I"⟩
abbrev cX8_sum : ByteArray := prog_10_method_42_code
def yX8_sum : MethodName := ⟨RX8, "sum", "(II)I"⟩
abbrev cX8_spool : ByteArray := prog_10_method_43_code
def yX8_spool : MethodName := ⟨RX8, "spool", "(II)I"⟩
abbrev cX8_gap : ByteArray := prog_10_method_44_code
def yX8_gap : MethodName := ⟨RX8, "gap", "(III)I"⟩
abbrev cX8_read : ByteArray := prog_10_method_45_code
def yX8_read : MethodName := ⟨RX8, "read", "(III)I"⟩
abbrev cX8_errors : ByteArray := prog_10_method_46_code
def yX8_errors : MethodName := ⟨RX8, "errors", "(III)I"⟩
abbrev cX8_bestWay : ByteArray := prog_10_method_47_code
def yX8_bestWay : MethodName := ⟨RX8, "bestWay", "(I)I"⟩
abbrev cX8_goes : ByteArray := prog_10_method_48_code
def yX8_goes : MethodName := ⟨RX8, "goes", "()V"⟩
abbrev cX8_comes : ByteArray := prog_10_method_49_code
def yX8_comes : MethodName := ⟨RX8, "comes", "()V"⟩
abbrev cX8_asks : ByteArray := prog_10_method_50_code
def yX8_asks : MethodName := ⟨RX8, "asks", "(IIII)I"⟩
abbrev cX8_errorsAfter : ByteArray := prog_10_method_51_code
def yX8_errorsAfter : MethodName := ⟨RX8, "errorsAfter", "(IIII)I"⟩
abbrev cX8_isReadSo : ByteArray := prog_10_method_52_code
def yX8_isReadSo : MethodName := ⟨RX8, "isReadSo", "(II)Z"⟩
abbrev cX8_safeRewinds : ByteArray := prog_10_method_53_code
def yX8_safeRewinds : MethodName := ⟨RX8, "safeRewinds", "(III)I"⟩
abbrev cX8_event : ByteArray := prog_10_method_54_code
def yX8_event : MethodName := ⟨RX8, "event", "(II)I"⟩
abbrev cX8_letters : ByteArray := prog_10_method_55_code
def yX8_letters : MethodName := ⟨RX8, "letters", "()I"⟩
abbrev cX8_count : ByteArray := prog_10_method_56_code
def yX8_count : MethodName := ⟨RX8, "count", "(I)I"⟩
def RJ9 : String := "java/lang/Math"
abbrev cJ9_min_7cf53 : ByteArray := prog_11_method_69_code
def yJ9_min_7cf53 : MethodName := ⟨RJ9, "min", "(II)I"⟩
def RJ0 : String := "java/lang/String"
abbrev cJ0_length_8abf5 : ByteArray := prog_12_method_54_code
def yJ0_length_8abf5 : MethodName := ⟨RJ0, "length", "()I"⟩
abbrev cJ0_charAt_5068e : ByteArray := prog_12_method_56_code
def yJ0_charAt_5068e : MethodName := ⟨RJ0, "charAt", "(I)C"⟩
abbrev cJ0_coder_7d493 : ByteArray := prog_12_method_152_code
def yJ0_coder_7d493 : MethodName := ⟨RJ0, "coder", "()B"⟩
abbrev cJ0_isLatin1_aae02 : ByteArray := prog_12_method_154_code
def yJ0_isLatin1_aae02 : MethodName := ⟨RJ0, "isLatin1", "()Z"⟩
abbrev cJ0_checkIndex_df160 : ByteArray := prog_12_method_155_code
def yJ0_checkIndex_df160 : MethodName := ⟨RJ0, "checkIndex", "(II)V"⟩
def RJ1 : String := "java/lang/StringLatin1"
abbrev cJ1_charAt_3b067 : ByteArray := prog_13_method_2_code
def yJ1_charAt_3b067 : MethodName := ⟨RJ1, "charAt", "([BI)C"⟩
def RJ2 : String := "java/lang/StringUTF16"
abbrev cJ2_getChar_3b067 : ByteArray := prog_14_method_5_code
def yJ2_getChar_3b067 : MethodName := ⟨RJ2, "getChar", "([BI)C"⟩
abbrev cJ2_length_9d52b : ByteArray := prog_14_method_6_code
def yJ2_length_9d52b : MethodName := ⟨RJ2, "length", "([B)I"⟩
abbrev cJ2_charAt_3b067 : ByteArray := prog_14_method_83_code
def yJ2_charAt_3b067 : MethodName := ⟨RJ2, "charAt", "([BI)C"⟩
abbrev cJ2_checkIndex_2214a : ByteArray := prog_14_method_91_code
def yJ2_checkIndex_2214a : MethodName := ⟨RJ2, "checkIndex", "(I[B)V"⟩
def RJ10 : String := "java/lang/System"
def RJ3 : String := "jdk/internal/util/Preconditions"
abbrev cJ3_checkIndex_8e157 : ByteArray := prog_16_method_11_code
def yJ3_checkIndex_8e157 : MethodName := ⟨RJ3, "checkIndex", "(IILjava/util/function/BiFunction;)I"⟩
def RL : String := "StretchSpoolLaw"
abbrev cL_law : ByteArray := code
def yL_law : MethodName := ⟨RL, "law", "([I)Z"⟩
abbrev vwCl : List vw_C := [(RX0, TX0, 6), (RX1, TX1, 2), (RX2, TX2, 4), (RX3, TX3, 4), (RX4, TX4, 9), (RX5, TX5, 2), (RX6, TX6, 7), (RX7, TX7, 9), (RX8, TX8, 15)]
