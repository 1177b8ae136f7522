section
-- ===== PART A: goes FIRST, ahead of the names: the tables' words, and 'selects' of the private methods out of them =====
/-- a private method of a class that the tables say can be made, by its rows of tables_1 -/
def lw_okq (q : MethodName × Nat) : Prop := (q.1.cls ≠ "java/lang/invoke/MethodHandle" ∧ q.1.cls ≠ "java/lang/invoke/VarHandle") ∧ Cond.instantiable q.1.cls q.2 ∈ tables_1 ∧ Cond.privateMethod q.1 ∈ tables_1 ∧ Cond.instanceMethod q.1 ∈ tables_1
theorem lw_p0 : lw_okq (⟨"StretchSpool$History", "turn", "()V"⟩, 2) := ⟨⟨by decide +kernel, by decide +kernel⟩, List.mem_of_getElem? (i := 131) (by decide +kernel), List.mem_of_getElem? (i := 254) (by decide +kernel), List.mem_of_getElem? (i := 255) (by decide +kernel)⟩
theorem lw_p1 : lw_okq (⟨"StretchSpool$Log", "dropOldest", "()V"⟩, 4) := ⟨⟨by decide +kernel, by decide +kernel⟩, List.mem_of_getElem? (i := 33) (by decide +kernel), List.mem_of_getElem? (i := 307) (by decide +kernel), List.mem_of_getElem? (i := 308) (by decide +kernel)⟩
theorem lw_p2 : lw_okq (⟨"StretchSpool$State", "breakWire", "(II)V"⟩, 9) := ⟨⟨by decide +kernel, by decide +kernel⟩, List.mem_of_getElem? (i := 25) (by decide +kernel), List.mem_of_getElem? (i := 311) (by decide +kernel), List.mem_of_getElem? (i := 312) (by decide +kernel)⟩
theorem lw_p3 : lw_okq (⟨"StretchSpool$Wire", "putGap", "(III)V"⟩, 7) := ⟨⟨by decide +kernel, by decide +kernel⟩, List.mem_of_getElem? (i := 52) (by decide +kernel), List.mem_of_getElem? (i := 347) (by decide +kernel), List.mem_of_getElem? (i := 348) (by decide +kernel)⟩
theorem lw_p4 : lw_okq (⟨"StretchSpool$Wire", "appendBehind", "(LStretchSpool$Wire;I)V"⟩, 7) := ⟨⟨by decide +kernel, by decide +kernel⟩, List.mem_of_getElem? (i := 52) (by decide +kernel), List.mem_of_getElem? (i := 351) (by decide +kernel), List.mem_of_getElem? (i := 352) (by decide +kernel)⟩
theorem lw_p5 : lw_okq (⟨"StretchSpool$Wire", "copyGap", "(LStretchSpool$Wire;II)V"⟩, 7) := ⟨⟨by decide +kernel, by decide +kernel⟩, List.mem_of_getElem? (i := 52) (by decide +kernel), List.mem_of_getElem? (i := 355) (by decide +kernel), List.mem_of_getElem? (i := 356) (by decide +kernel)⟩
theorem lw_p6 : lw_okq (⟨"StretchSpool$Reader", "judge", "(III)V"⟩, 4) := ⟨⟨by decide +kernel, by decide +kernel⟩, List.mem_of_getElem? (i := 193) (by decide +kernel), List.mem_of_getElem? (i := 397) (by decide +kernel), List.mem_of_getElem? (i := 398) (by decide +kernel)⟩
theorem lw_p7 : lw_okq (⟨"StretchSpool$Wire", "sum", "([I)I"⟩, 7) := ⟨⟨by decide +kernel, by decide +kernel⟩, List.mem_of_getElem? (i := 52) (by decide +kernel), List.mem_of_getElem? (i := 413) (by decide +kernel), List.mem_of_getElem? (i := 414) (by decide +kernel)⟩
theorem lw_p8 : lw_okq (⟨"StretchSpool$Command", "parseNumber", "(LStretchSpool$Text;)I"⟩, 6) := ⟨⟨by decide +kernel, by decide +kernel⟩, List.mem_of_getElem? (i := 163) (by decide +kernel), List.mem_of_getElem? (i := 509) (by decide +kernel), List.mem_of_getElem? (i := 510) (by decide +kernel)⟩
theorem lw_p9 : lw_okq (⟨"StretchSpool$Command", "parseBlank", "(LStretchSpool$Text;)V"⟩, 6) := ⟨⟨by decide +kernel, by decide +kernel⟩, List.mem_of_getElem? (i := 163) (by decide +kernel), List.mem_of_getElem? (i := 513) (by decide +kernel), List.mem_of_getElem? (i := 514) (by decide +kernel)⟩
theorem lw_p10 : lw_okq (⟨"StretchSpool$Command", "parseLetters", "(LStretchSpool$Text;)V"⟩, 6) := ⟨⟨by decide +kernel, by decide +kernel⟩, List.mem_of_getElem? (i := 163) (by decide +kernel), List.mem_of_getElem? (i := 517) (by decide +kernel), List.mem_of_getElem? (i := 518) (by decide +kernel)⟩
theorem lw_p11 : lw_okq (⟨"StretchSpool", "writeWire", "(III)I"⟩, 9) := ⟨⟨by decide +kernel, by decide +kernel⟩, List.mem_of_getElem? (i := 17) (by decide +kernel), List.mem_of_getElem? (i := 521) (by decide +kernel), List.mem_of_getElem? (i := 522) (by decide +kernel)⟩
theorem lw_p12 : lw_okq (⟨"StretchSpoolModel", "record", "()V"⟩, 15) := ⟨⟨by decide +kernel, by decide +kernel⟩, List.mem_of_getElem? (i := 636) (by decide +kernel), List.mem_of_getElem? (i := 695) (by decide +kernel), List.mem_of_getElem? (i := 696) (by decide +kernel)⟩
theorem lw_p13 : lw_okq (⟨"StretchSpoolModel", "isEmpty", "(I)Z"⟩, 15) := ⟨⟨by decide +kernel, by decide +kernel⟩, List.mem_of_getElem? (i := 636) (by decide +kernel), List.mem_of_getElem? (i := 710) (by decide +kernel), List.mem_of_getElem? (i := 711) (by decide +kernel)⟩
theorem lw_p14 : lw_okq (⟨"StretchSpoolModel", "of", "(II)I"⟩, 15) := ⟨⟨by decide +kernel, by decide +kernel⟩, List.mem_of_getElem? (i := 636) (by decide +kernel), List.mem_of_getElem? (i := 714) (by decide +kernel), List.mem_of_getElem? (i := 715) (by decide +kernel)⟩
theorem lw_p15 : lw_okq (⟨"StretchSpoolModel", "rewinds", "(II)Z"⟩, 15) := ⟨⟨by decide +kernel, by decide +kernel⟩, List.mem_of_getElem? (i := 636) (by decide +kernel), List.mem_of_getElem? (i := 718) (by decide +kernel), List.mem_of_getElem? (i := 719) (by decide +kernel)⟩
def lw_privs_1 : List (MethodName × Nat) := [(⟨"StretchSpool$History", "turn", "()V"⟩, 2), (⟨"StretchSpool$Log", "dropOldest", "()V"⟩, 4), (⟨"StretchSpool$State", "breakWire", "(II)V"⟩, 9), (⟨"StretchSpool$Wire", "putGap", "(III)V"⟩, 7), (⟨"StretchSpool$Wire", "appendBehind", "(LStretchSpool$Wire;I)V"⟩, 7), (⟨"StretchSpool$Wire", "copyGap", "(LStretchSpool$Wire;II)V"⟩, 7), (⟨"StretchSpool$Reader", "judge", "(III)V"⟩, 4), (⟨"StretchSpool$Wire", "sum", "([I)I"⟩, 7), (⟨"StretchSpool$Command", "parseNumber", "(LStretchSpool$Text;)I"⟩, 6), (⟨"StretchSpool$Command", "parseBlank", "(LStretchSpool$Text;)V"⟩, 6), (⟨"StretchSpool$Command", "parseLetters", "(LStretchSpool$Text;)V"⟩, 6), (⟨"StretchSpool", "writeWire", "(III)I"⟩, 9), (⟨"StretchSpoolModel", "record", "()V"⟩, 15), (⟨"StretchSpoolModel", "isEmpty", "(I)Z"⟩, 15), (⟨"StretchSpoolModel", "of", "(II)I"⟩, 15), (⟨"StretchSpoolModel", "rewinds", "(II)Z"⟩, 15)]
theorem lw_r1 : ∀ q ∈ lw_privs_1, lw_okq q := List.forall_mem_cons.mpr ⟨lw_p0, List.forall_mem_cons.mpr ⟨lw_p1, List.forall_mem_cons.mpr ⟨lw_p2, List.forall_mem_cons.mpr ⟨lw_p3, List.forall_mem_cons.mpr ⟨lw_p4, List.forall_mem_cons.mpr ⟨lw_p5, List.forall_mem_cons.mpr ⟨lw_p6, List.forall_mem_cons.mpr ⟨lw_p7, List.forall_mem_cons.mpr ⟨lw_p8, List.forall_mem_cons.mpr ⟨lw_p9, List.forall_mem_cons.mpr ⟨lw_p10, List.forall_mem_cons.mpr ⟨lw_p11, List.forall_mem_cons.mpr ⟨lw_p12, List.forall_mem_cons.mpr ⟨lw_p13, List.forall_mem_cons.mpr ⟨lw_p14, List.forall_mem_cons.mpr ⟨lw_p15, fun _ h => absurd h List.not_mem_nil⟩⟩⟩⟩⟩⟩⟩⟩⟩⟩⟩⟩⟩⟩⟩⟩
theorem lw_p16 : lw_okq (⟨"StretchSpoolModel", "gaps", "(I)I"⟩, 15) := ⟨⟨by decide +kernel, by decide +kernel⟩, List.mem_of_getElem? (i := 636) (by decide +kernel), List.mem_of_getElem? (i := 722) (by decide +kernel), List.mem_of_getElem? (i := 723) (by decide +kernel)⟩
theorem lw_p17 : lw_okq (⟨"StretchSpoolModel", "stretch", "(III)I"⟩, 15) := ⟨⟨by decide +kernel, by decide +kernel⟩, List.mem_of_getElem? (i := 636) (by decide +kernel), List.mem_of_getElem? (i := 726) (by decide +kernel), List.mem_of_getElem? (i := 727) (by decide +kernel)⟩
theorem lw_p18 : lw_okq (⟨"StretchSpoolModel", "puts", "(III)V"⟩, 15) := ⟨⟨by decide +kernel, by decide +kernel⟩, List.mem_of_getElem? (i := 636) (by decide +kernel), List.mem_of_getElem? (i := 730) (by decide +kernel), List.mem_of_getElem? (i := 731) (by decide +kernel)⟩
theorem lw_p19 : lw_okq (⟨"StretchSpoolModel", "tells", "(III)V"⟩, 15) := ⟨⟨by decide +kernel, by decide +kernel⟩, List.mem_of_getElem? (i := 636) (by decide +kernel), List.mem_of_getElem? (i := 734) (by decide +kernel), List.mem_of_getElem? (i := 735) (by decide +kernel)⟩
theorem lw_p20 : lw_okq (⟨"StretchSpoolModel", "copies", "(IIII)V"⟩, 15) := ⟨⟨by decide +kernel, by decide +kernel⟩, List.mem_of_getElem? (i := 636) (by decide +kernel), List.mem_of_getElem? (i := 742) (by decide +kernel), List.mem_of_getElem? (i := 743) (by decide +kernel)⟩
theorem lw_p21 : lw_okq (⟨"StretchSpoolModel", "punches", "(III)V"⟩, 15) := ⟨⟨by decide +kernel, by decide +kernel⟩, List.mem_of_getElem? (i := 636) (by decide +kernel), List.mem_of_getElem? (i := 746) (by decide +kernel), List.mem_of_getElem? (i := 747) (by decide +kernel)⟩
theorem lw_p22 : lw_okq (⟨"StretchSpoolModel", "isBarred", "(II)Z"⟩, 15) := ⟨⟨by decide +kernel, by decide +kernel⟩, List.mem_of_getElem? (i := 636) (by decide +kernel), List.mem_of_getElem? (i := 762) (by decide +kernel), List.mem_of_getElem? (i := 763) (by decide +kernel)⟩
theorem lw_p23 : lw_okq (⟨"StretchSpoolModel", "reads", "(II)V"⟩, 15) := ⟨⟨by decide +kernel, by decide +kernel⟩, List.mem_of_getElem? (i := 636) (by decide +kernel), List.mem_of_getElem? (i := 766) (by decide +kernel), List.mem_of_getElem? (i := 767) (by decide +kernel)⟩
theorem lw_p24 : lw_okq (⟨"StretchSpoolModel", "wrong", "(II)I"⟩, 15) := ⟨⟨by decide +kernel, by decide +kernel⟩, List.mem_of_getElem? (i := 636) (by decide +kernel), List.mem_of_getElem? (i := 773) (by decide +kernel), List.mem_of_getElem? (i := 774) (by decide +kernel)⟩
theorem lw_p25 : lw_okq (⟨"StretchSpoolModel", "isRight", "()Z"⟩, 15) := ⟨⟨by decide +kernel, by decide +kernel⟩, List.mem_of_getElem? (i := 636) (by decide +kernel), List.mem_of_getElem? (i := 789) (by decide +kernel), List.mem_of_getElem? (i := 790) (by decide +kernel)⟩
theorem lw_p26 : lw_okq (⟨"StretchSpoolModel", "word", "()I"⟩, 15) := ⟨⟨by decide +kernel, by decide +kernel⟩, List.mem_of_getElem? (i := 636) (by decide +kernel), List.mem_of_getElem? (i := 793) (by decide +kernel), List.mem_of_getElem? (i := 794) (by decide +kernel)⟩
theorem lw_p27 : lw_okq (⟨"StretchSpoolModel", "isWord", "(IIIII)Z"⟩, 15) := ⟨⟨by decide +kernel, by decide +kernel⟩, List.mem_of_getElem? (i := 636) (by decide +kernel), List.mem_of_getElem? (i := 797) (by decide +kernel), List.mem_of_getElem? (i := 798) (by decide +kernel)⟩
theorem lw_p28 : lw_okq (⟨"StretchSpoolModel", "isLong", "(IIIIII)Z"⟩, 15) := ⟨⟨by decide +kernel, by decide +kernel⟩, List.mem_of_getElem? (i := 636) (by decide +kernel), List.mem_of_getElem? (i := 801) (by decide +kernel), List.mem_of_getElem? (i := 802) (by decide +kernel)⟩
theorem lw_p29 : lw_okq (⟨"StretchSpoolModel", "takesBlank", "()Z"⟩, 15) := ⟨⟨by decide +kernel, by decide +kernel⟩, List.mem_of_getElem? (i := 636) (by decide +kernel), List.mem_of_getElem? (i := 805) (by decide +kernel), List.mem_of_getElem? (i := 806) (by decide +kernel)⟩
theorem lw_p30 : lw_okq (⟨"StretchSpoolModel", "takesNumber", "()Z"⟩, 15) := ⟨⟨by decide +kernel, by decide +kernel⟩, List.mem_of_getElem? (i := 636) (by decide +kernel), List.mem_of_getElem? (i := 809) (by decide +kernel), List.mem_of_getElem? (i := 810) (by decide +kernel)⟩
theorem lw_p31 : lw_okq (⟨"StretchSpoolModel", "writes", "()I"⟩, 15) := ⟨⟨by decide +kernel, by decide +kernel⟩, List.mem_of_getElem? (i := 636) (by decide +kernel), List.mem_of_getElem? (i := 813) (by decide +kernel), List.mem_of_getElem? (i := 814) (by decide +kernel)⟩
def lw_privs_2 : List (MethodName × Nat) := [(⟨"StretchSpoolModel", "gaps", "(I)I"⟩, 15), (⟨"StretchSpoolModel", "stretch", "(III)I"⟩, 15), (⟨"StretchSpoolModel", "puts", "(III)V"⟩, 15), (⟨"StretchSpoolModel", "tells", "(III)V"⟩, 15), (⟨"StretchSpoolModel", "copies", "(IIII)V"⟩, 15), (⟨"StretchSpoolModel", "punches", "(III)V"⟩, 15), (⟨"StretchSpoolModel", "isBarred", "(II)Z"⟩, 15), (⟨"StretchSpoolModel", "reads", "(II)V"⟩, 15), (⟨"StretchSpoolModel", "wrong", "(II)I"⟩, 15), (⟨"StretchSpoolModel", "isRight", "()Z"⟩, 15), (⟨"StretchSpoolModel", "word", "()I"⟩, 15), (⟨"StretchSpoolModel", "isWord", "(IIIII)Z"⟩, 15), (⟨"StretchSpoolModel", "isLong", "(IIIIII)Z"⟩, 15), (⟨"StretchSpoolModel", "takesBlank", "()Z"⟩, 15), (⟨"StretchSpoolModel", "takesNumber", "()Z"⟩, 15), (⟨"StretchSpoolModel", "writes", "()I"⟩, 15)]
theorem lw_r2 : ∀ q ∈ lw_privs_2, lw_okq q := List.forall_mem_cons.mpr ⟨lw_p16, List.forall_mem_cons.mpr ⟨lw_p17, List.forall_mem_cons.mpr ⟨lw_p18, List.forall_mem_cons.mpr ⟨lw_p19, List.forall_mem_cons.mpr ⟨lw_p20, List.forall_mem_cons.mpr ⟨lw_p21, List.forall_mem_cons.mpr ⟨lw_p22, List.forall_mem_cons.mpr ⟨lw_p23, List.forall_mem_cons.mpr ⟨lw_p24, List.forall_mem_cons.mpr ⟨lw_p25, List.forall_mem_cons.mpr ⟨lw_p26, List.forall_mem_cons.mpr ⟨lw_p27, List.forall_mem_cons.mpr ⟨lw_p28, List.forall_mem_cons.mpr ⟨lw_p29, List.forall_mem_cons.mpr ⟨lw_p30, List.forall_mem_cons.mpr ⟨lw_p31, fun _ h => absurd h List.not_mem_nil⟩⟩⟩⟩⟩⟩⟩⟩⟩⟩⟩⟩⟩⟩⟩⟩
theorem lw_p32 : lw_okq (⟨"StretchSpoolModel", "full", "()I"⟩, 15) := ⟨⟨by decide +kernel, by decide +kernel⟩, List.mem_of_getElem? (i := 636) (by decide +kernel), List.mem_of_getElem? (i := 830) (by decide +kernel), List.mem_of_getElem? (i := 831) (by decide +kernel)⟩
theorem lw_p33 : lw_okq (⟨"StretchSpoolModel", "sum", "(II)I"⟩, 15) := ⟨⟨by decide +kernel, by decide +kernel⟩, List.mem_of_getElem? (i := 636) (by decide +kernel), List.mem_of_getElem? (i := 842) (by decide +kernel), List.mem_of_getElem? (i := 843) (by decide +kernel)⟩
theorem lw_p34 : lw_okq (⟨"StretchSpoolModel", "nearest", "(I)I"⟩, 15) := ⟨⟨by decide +kernel, by decide +kernel⟩, List.mem_of_getElem? (i := 636) (by decide +kernel), List.mem_of_getElem? (i := 846) (by decide +kernel), List.mem_of_getElem? (i := 847) (by decide +kernel)⟩
theorem lw_p35 : lw_okq (⟨"StretchSpoolModel", "quotient", "(II)I"⟩, 15) := ⟨⟨by decide +kernel, by decide +kernel⟩, List.mem_of_getElem? (i := 636) (by decide +kernel), List.mem_of_getElem? (i := 850) (by decide +kernel), List.mem_of_getElem? (i := 851) (by decide +kernel)⟩
theorem lw_p36 : lw_okq (⟨"StretchSpoolModel", "allWrong", "(II)I"⟩, 15) := ⟨⟨by decide +kernel, by decide +kernel⟩, List.mem_of_getElem? (i := 636) (by decide +kernel), List.mem_of_getElem? (i := 870) (by decide +kernel), List.mem_of_getElem? (i := 871) (by decide +kernel)⟩
theorem lw_p37 : lw_okq (⟨"StretchSpoolModel", "asks", "(IIII)I"⟩, 15) := ⟨⟨by decide +kernel, by decide +kernel⟩, List.mem_of_getElem? (i := 636) (by decide +kernel), List.mem_of_getElem? (i := 878) (by decide +kernel), List.mem_of_getElem? (i := 879) (by decide +kernel)⟩
theorem lw_p38 : lw_okq (⟨"StretchSpoolModel", "goes", "()V"⟩, 15) := ⟨⟨by decide +kernel, by decide +kernel⟩, List.mem_of_getElem? (i := 636) (by decide +kernel), List.mem_of_getElem? (i := 882) (by decide +kernel), List.mem_of_getElem? (i := 883) (by decide +kernel)⟩
theorem lw_p39 : lw_okq (⟨"StretchSpoolModel", "comes", "()V"⟩, 15) := ⟨⟨by decide +kernel, by decide +kernel⟩, List.mem_of_getElem? (i := 636) (by decide +kernel), List.mem_of_getElem? (i := 886) (by decide +kernel), List.mem_of_getElem? (i := 887) (by decide +kernel)⟩
theorem lw_p40 : lw_okq (⟨"StretchSpoolModel", "isReadSo", "(II)Z"⟩, 15) := ⟨⟨by decide +kernel, by decide +kernel⟩, List.mem_of_getElem? (i := 636) (by decide +kernel), List.mem_of_getElem? (i := 894) (by decide +kernel), List.mem_of_getElem? (i := 895) (by decide +kernel)⟩
theorem lw_p41 : lw_okq (⟨"StretchSpoolModel", "letters", "()I"⟩, 15) := ⟨⟨by decide +kernel, by decide +kernel⟩, List.mem_of_getElem? (i := 636) (by decide +kernel), List.mem_of_getElem? (i := 906) (by decide +kernel), List.mem_of_getElem? (i := 907) (by decide +kernel)⟩
def lw_privs_3 : List (MethodName × Nat) := [(⟨"StretchSpoolModel", "full", "()I"⟩, 15), (⟨"StretchSpoolModel", "sum", "(II)I"⟩, 15), (⟨"StretchSpoolModel", "nearest", "(I)I"⟩, 15), (⟨"StretchSpoolModel", "quotient", "(II)I"⟩, 15), (⟨"StretchSpoolModel", "allWrong", "(II)I"⟩, 15), (⟨"StretchSpoolModel", "asks", "(IIII)I"⟩, 15), (⟨"StretchSpoolModel", "goes", "()V"⟩, 15), (⟨"StretchSpoolModel", "comes", "()V"⟩, 15), (⟨"StretchSpoolModel", "isReadSo", "(II)Z"⟩, 15), (⟨"StretchSpoolModel", "letters", "()I"⟩, 15)]
theorem lw_r3 : ∀ q ∈ lw_privs_3, lw_okq q := List.forall_mem_cons.mpr ⟨lw_p32, List.forall_mem_cons.mpr ⟨lw_p33, List.forall_mem_cons.mpr ⟨lw_p34, List.forall_mem_cons.mpr ⟨lw_p35, List.forall_mem_cons.mpr ⟨lw_p36, List.forall_mem_cons.mpr ⟨lw_p37, List.forall_mem_cons.mpr ⟨lw_p38, List.forall_mem_cons.mpr ⟨lw_p39, List.forall_mem_cons.mpr ⟨lw_p40, List.forall_mem_cons.mpr ⟨lw_p41, fun _ h => absurd h List.not_mem_nil⟩⟩⟩⟩⟩⟩⟩⟩⟩⟩
def lw_privs : List (MethodName × Nat) := lw_privs_1 ++ (lw_privs_2 ++ (lw_privs_3))
def lw_tbl : List Cond := k2_sels lw_privs ++ tables_1
theorem lw_privs_ok : ∀ q ∈ lw_privs, lw_okq q := by
  show ∀ q ∈ lw_privs_1 ++ (lw_privs_2 ++ (lw_privs_3)), lw_okq q
  exact List.forall_mem_append.mpr ⟨lw_r1, List.forall_mem_append.mpr ⟨lw_r2, lw_r3⟩⟩
def RX0 : String := "StretchSpool$Command"
def TX0 : u_T := fun k => match k with
  | 0 => ("StretchSpool$Command", "word", "I", false)
  | 1 => ("StretchSpool$Command", "first", "I", false)
  | 2 => ("StretchSpool$Command", "second", "I", false)
  | 3 => ("StretchSpool$Command", "letterPlace", "I", false)
  | 4 => ("StretchSpool$Command", "fault", "I", false)
  | _ => ("StretchSpool$Command", "place", "I", false)
def tyX0 : Nat → FieldType := fun k => match k with
  | 0 => .int
  | 1 => .int
  | 2 => .int
  | 3 => .int
  | 4 => .int
  | _ => .int
theorem nmX0 : ∀ a, a < 6 → ∀ b, b < 6 → a ≠ b → (TX0 a).2.1 ≠ (TX0 b).2.1 := by decide +kernel
theorem tyX0_ok : ∀ k, k < 6 → parseFieldDescriptor (TX0 k).2.2.1 = some (tyX0 k) := by decide +kernel
abbrev cX0_init : ByteArray := prog_2_method_1_code
def yX0_init : MethodName := ⟨RX0, "<init>", "()V"⟩
abbrev cX0_parse : ByteArray := prog_2_method_2_code
def yX0_parse : MethodName := ⟨RX0, "parse", "(LStretchSpool$Text;)V"⟩
abbrev cX0_lengthOfWord : ByteArray := prog_2_method_3_code
def yX0_lengthOfWord : MethodName := ⟨RX0, "lengthOfWord", "(LStretchSpool$Text;)I"⟩
abbrev cX0_wordOf : ByteArray := prog_2_method_4_code
def yX0_wordOf : MethodName := ⟨RX0, "wordOf", "(LStretchSpool$Text;I)I"⟩
abbrev cX0_parseNumber : ByteArray := prog_2_method_5_code
def yX0_parseNumber : MethodName := ⟨RX0, "parseNumber", "(LStretchSpool$Text;)I"⟩
abbrev cX0_parseLetters : ByteArray := prog_2_method_6_code
def yX0_parseLetters : MethodName := ⟨RX0, "parseLetters", "(LStretchSpool$Text;)V"⟩
abbrev cX0_parseBlank : ByteArray := prog_2_method_7_code
def yX0_parseBlank : MethodName := ⟨RX0, "parseBlank", "(LStretchSpool$Text;)V"⟩
abbrev cX0_isBetween : ByteArray := prog_2_method_8_code
def yX0_isBetween : MethodName := ⟨RX0, "isBetween", "(III)Z"⟩
def RX1 : String := "StretchSpool$History"
def TX1 : u_T := fun k => match k with
  | 0 => ("StretchSpool$History", "states", "[LStretchSpool$State;", true)
  | _ => ("StretchSpool$History", "size", "I", false)
def tyX1 : Nat → FieldType := fun k => match k with
  | 0 => .array (.object "StretchSpool$State")
  | _ => .int
theorem nmX1 : ∀ a, a < 2 → ∀ b, b < 2 → a ≠ b → (TX1 a).2.1 ≠ (TX1 b).2.1 := by decide +kernel
theorem tyX1_ok : ∀ k, k < 2 → parseFieldDescriptor (TX1 k).2.2.1 = some (tyX1 k) := by decide +kernel
abbrev cX1_init : ByteArray := prog_3_method_1_code
def yX1_init : MethodName := ⟨RX1, "<init>", "()V"⟩
abbrev cX1_remember : ByteArray := prog_3_method_2_code
def yX1_remember : MethodName := ⟨RX1, "remember", "(LStretchSpool$State;)V"⟩
abbrev cX1_turn : ByteArray := prog_3_method_3_code
def yX1_turn : MethodName := ⟨RX1, "turn", "()V"⟩
abbrev cX1_takeBack : ByteArray := prog_3_method_4_code
def yX1_takeBack : MethodName := ⟨RX1, "takeBack", "(LStretchSpool$State;)Z"⟩
def RX2 : String := "StretchSpool$Log"
def TX2 : u_T := fun k => match k with
  | 0 => ("StretchSpool$Log", "kinds", "[I", true)
  | 1 => ("StretchSpool$Log", "spools", "[I", true)
  | 2 => ("StretchSpool$Log", "numbers", "[I", true)
  | _ => ("StretchSpool$Log", "size", "I", false)
def tyX2 : Nat → FieldType := fun k => match k with
  | 0 => .array .int
  | 1 => .array .int
  | 2 => .array .int
  | _ => .int
theorem nmX2 : ∀ a, a < 4 → ∀ b, b < 4 → a ≠ b → (TX2 a).2.1 ≠ (TX2 b).2.1 := by decide +kernel
theorem tyX2_ok : ∀ k, k < 4 → parseFieldDescriptor (TX2 k).2.2.1 = some (tyX2 k) := by decide +kernel
abbrev cX2_init : ByteArray := prog_4_method_1_code
def yX2_init : MethodName := ⟨RX2, "<init>", "()V"⟩
abbrev cX2_copyFrom : ByteArray := prog_4_method_2_code
def yX2_copyFrom : MethodName := ⟨RX2, "copyFrom", "(LStretchSpool$Log;)V"⟩
abbrev cX2_add : ByteArray := prog_4_method_3_code
def yX2_add : MethodName := ⟨RX2, "add", "(III)V"⟩
abbrev cX2_dropOldest : ByteArray := prog_4_method_4_code
def yX2_dropOldest : MethodName := ⟨RX2, "dropOldest", "()V"⟩
abbrev cX2_tell : ByteArray := prog_4_method_5_code
def yX2_tell : MethodName := ⟨RX2, "tell", "(II)I"⟩
def RX3 : String := "StretchSpool$Reader"
def TX3 : u_T := fun k => match k with
  | 0 => ("StretchSpool$Reader", "numbers", "[I", true)
  | 1 => ("StretchSpool$Reader", "misread", "I", false)
  | 2 => ("StretchSpool$Reader", "unread", "I", false)
  | _ => ("StretchSpool$Reader", "firstError", "I", false)
def tyX3 : Nat → FieldType := fun k => match k with
  | 0 => .array .int
  | 1 => .int
  | 2 => .int
  | _ => .int
theorem nmX3 : ∀ a, a < 4 → ∀ b, b < 4 → a ≠ b → (TX3 a).2.1 ≠ (TX3 b).2.1 := by decide +kernel
theorem tyX3_ok : ∀ k, k < 4 → parseFieldDescriptor (TX3 k).2.2.1 = some (tyX3 k) := by decide +kernel
abbrev cX3_init : ByteArray := prog_5_method_1_code
def yX3_init : MethodName := ⟨RX3, "<init>", "()V"⟩
abbrev cX3_readAll : ByteArray := prog_5_method_2_code
def yX3_readAll : MethodName := ⟨RX3, "readAll", "(LStretchSpool$Wire;I)V"⟩
abbrev cX3_measureBetweenEnds : ByteArray := prog_5_method_3_code
def yX3_measureBetweenEnds : MethodName := ⟨RX3, "measureBetweenEnds", "(LStretchSpool$Wire;I)I"⟩
abbrev cX3_numberOf : ByteArray := prog_5_method_4_code
def yX3_numberOf : MethodName := ⟨RX3, "numberOf", "(II)I"⟩
abbrev cX3_judge : ByteArray := prog_5_method_5_code
def yX3_judge : MethodName := ⟨RX3, "judge", "(III)V"⟩
abbrev cX3_errorCount : ByteArray := prog_5_method_6_code
def yX3_errorCount : MethodName := ⟨RX3, "errorCount", "()I"⟩
abbrev cX3_readTheSame : ByteArray := prog_5_method_7_code
def yX3_readTheSame : MethodName := ⟨RX3, "readTheSame", "(LStretchSpool$Reader;I)Z"⟩
def RX4 : String := "StretchSpool$State"
def TX4 : u_T := fun k => match k with
  | 0 => ("StretchSpool$State", "wires", "[LStretchSpool$Wire;", true)
  | 1 => ("StretchSpool$State", "log", "LStretchSpool$Log;", true)
  | 2 => ("StretchSpool$State", "rule", "I", false)
  | 3 => ("StretchSpool$State", "limit", "I", false)
  | 4 => ("StretchSpool$State", "minutes", "I", false)
  | 5 => ("StretchSpool$State", "used", "I", false)
  | 6 => ("StretchSpool$State", "rewinds", "I", false)
  | 7 => ("StretchSpool$State", "breaks", "I", false)
  | _ => ("StretchSpool$State", "lettersLost", "I", false)
def tyX4 : Nat → FieldType := fun k => match k with
  | 0 => .array (.object "StretchSpool$Wire")
  | 1 => .object "StretchSpool$Log"
  | 2 => .int
  | 3 => .int
  | 4 => .int
  | 5 => .int
  | 6 => .int
  | 7 => .int
  | _ => .int
theorem nmX4 : ∀ a, a < 9 → ∀ b, b < 9 → a ≠ b → (TX4 a).2.1 ≠ (TX4 b).2.1 := by decide +kernel
theorem tyX4_ok : ∀ k, k < 9 → parseFieldDescriptor (TX4 k).2.2.1 = some (tyX4 k) := by decide +kernel
abbrev cX4_init : ByteArray := prog_6_method_1_code
def yX4_init : MethodName := ⟨RX4, "<init>", "()V"⟩
abbrev cX4_copyFrom : ByteArray := prog_6_method_2_code
def yX4_copyFrom : MethodName := ⟨RX4, "copyFrom", "(LStretchSpool$State;)V"⟩
abbrev cX4_spoolsWithWire : ByteArray := prog_6_method_3_code
def yX4_spoolsWithWire : MethodName := ⟨RX4, "spoolsWithWire", "()I"⟩
abbrev cX4_lettersOnAll : ByteArray := prog_6_method_4_code
def yX4_lettersOnAll : MethodName := ⟨RX4, "lettersOnAll", "()I"⟩
abbrev cX4_lowestEmpty : ByteArray := prog_6_method_5_code
def yX4_lowestEmpty : MethodName := ⟨RX4, "lowestEmpty", "()I"⟩
abbrev cX4_wind : ByteArray := prog_6_method_6_code
def yX4_wind : MethodName := ⟨RX4, "wind", "(III)I"⟩
abbrev cX4_breakWire : ByteArray := prog_6_method_7_code
def yX4_breakWire : MethodName := ⟨RX4, "breakWire", "(II)V"⟩
def RX5 : String := "StretchSpool$Text"
def TX5 : u_T := fun k => match k with
  | 0 => ("StretchSpool$Text", "characters", "[C", true)
  | _ => ("StretchSpool$Text", "size", "I", false)
def tyX5 : Nat → FieldType := fun k => match k with
  | 0 => .array .char
  | _ => .int
theorem nmX5 : ∀ a, a < 2 → ∀ b, b < 2 → a ≠ b → (TX5 a).2.1 ≠ (TX5 b).2.1 := by decide +kernel
theorem tyX5_ok : ∀ k, k < 2 → parseFieldDescriptor (TX5 k).2.2.1 = some (tyX5 k) := by decide +kernel
abbrev cX5_init : ByteArray := prog_7_method_1_code
def yX5_init : MethodName := ⟨RX5, "<init>", "()V"⟩
abbrev cX5_add : ByteArray := prog_7_method_2_code
def yX5_add : MethodName := ⟨RX5, "add", "(C)Z"⟩
abbrev cX5_codeAt : ByteArray := prog_7_method_3_code
def yX5_codeAt : MethodName := ⟨RX5, "codeAt", "(I)I"⟩
abbrev cX5_startsWith : ByteArray := prog_7_method_4_code
def yX5_startsWith : MethodName := ⟨RX5, "startsWith", "(Ljava/lang/String;I)Z"⟩
def RX6 : String := "StretchSpool$Wire"
def TX6 : u_T := fun k => match k with
  | 0 => ("StretchSpool$Wire", "lengths", "[I", true)
  | 1 => ("StretchSpool$Wire", "nominals", "[I", true)
  | 2 => ("StretchSpool$Wire", "truths", "[I", true)
  | 3 => ("StretchSpool$Wire", "present", "Z", false)
  | 4 => ("StretchSpool$Wire", "closed", "Z", false)
  | 5 => ("StretchSpool$Wire", "letters", "I", false)
  | _ => ("StretchSpool$Wire", "rewinds", "I", false)
def tyX6 : Nat → FieldType := fun k => match k with
  | 0 => .array .int
  | 1 => .array .int
  | 2 => .array .int
  | 3 => .boolean
  | 4 => .boolean
  | 5 => .int
  | _ => .int
theorem nmX6 : ∀ a, a < 7 → ∀ b, b < 7 → a ≠ b → (TX6 a).2.1 ≠ (TX6 b).2.1 := by decide +kernel
theorem tyX6_ok : ∀ k, k < 7 → parseFieldDescriptor (TX6 k).2.2.1 = some (tyX6 k) := by decide +kernel
abbrev cX6_init : ByteArray := prog_8_method_1_code
def yX6_init : MethodName := ⟨RX6, "<init>", "()V"⟩
abbrev cX6_copyFrom : ByteArray := prog_8_method_2_code
def yX6_copyFrom : MethodName := ⟨RX6, "copyFrom", "(LStretchSpool$Wire;)V"⟩
abbrev cX6_gaps : ByteArray := prog_8_method_3_code
def yX6_gaps : MethodName := ⟨RX6, "gaps", "()I"⟩
abbrev cX6_hasGap : ByteArray := prog_8_method_4_code
def yX6_hasGap : MethodName := ⟨RX6, "hasGap", "(I)Z"⟩
abbrev cX6_hasLetter : ByteArray := prog_8_method_5_code
def yX6_hasLetter : MethodName := ⟨RX6, "hasLetter", "(I)Z"⟩
abbrev cX6_canBeReadBy : ByteArray := prog_8_method_6_code
def yX6_canBeReadBy : MethodName := ⟨RX6, "canBeReadBy", "(I)Z"⟩
abbrev cX6_empty : ByteArray := prog_8_method_7_code
def yX6_empty : MethodName := ⟨RX6, "empty", "()V"⟩
abbrev cX6_begin : ByteArray := prog_8_method_8_code
def yX6_begin : MethodName := ⟨RX6, "begin", "()V"⟩
abbrev cX6_write : ByteArray := prog_8_method_9_code
def yX6_write : MethodName := ⟨RX6, "write", "(I)V"⟩
abbrev cX6_putEnd : ByteArray := prog_8_method_10_code
def yX6_putEnd : MethodName := ⟨RX6, "putEnd", "()V"⟩
abbrev cX6_putGap : ByteArray := prog_8_method_11_code
def yX6_putGap : MethodName := ⟨RX6, "putGap", "(III)V"⟩
abbrev cX6_copyGap : ByteArray := prog_8_method_12_code
def yX6_copyGap : MethodName := ⟨RX6, "copyGap", "(LStretchSpool$Wire;II)V"⟩
abbrev cX6_takeTail : ByteArray := prog_8_method_13_code
def yX6_takeTail : MethodName := ⟨RX6, "takeTail", "(LStretchSpool$Wire;I)V"⟩
abbrev cX6_join : ByteArray := prog_8_method_14_code
def yX6_join : MethodName := ⟨RX6, "join", "(LStretchSpool$Wire;)V"⟩
abbrev cX6_appendBehind : ByteArray := prog_8_method_15_code
def yX6_appendBehind : MethodName := ⟨RX6, "appendBehind", "(LStretchSpool$Wire;I)V"⟩
abbrev cX6_punchAll : ByteArray := prog_8_method_16_code
def yX6_punchAll : MethodName := ⟨RX6, "punchAll", "([I)V"⟩
abbrev cX6_stretch : ByteArray := prog_8_method_17_code
def yX6_stretch : MethodName := ⟨RX6, "stretch", "(III)I"⟩
abbrev cX6_breakAt : ByteArray := prog_8_method_18_code
def yX6_breakAt : MethodName := ⟨RX6, "breakAt", "(I)V"⟩
abbrev cX6_sumOfLengths : ByteArray := prog_8_method_19_code
def yX6_sumOfLengths : MethodName := ⟨RX6, "sumOfLengths", "()I"⟩
abbrev cX6_sumOfNominals : ByteArray := prog_8_method_20_code
def yX6_sumOfNominals : MethodName := ⟨RX6, "sumOfNominals", "()I"⟩
abbrev cX6_sum : ByteArray := prog_8_method_21_code
def yX6_sum : MethodName := ⟨RX6, "sum", "([I)I"⟩
abbrev cX6_nearestToLimit : ByteArray := prog_8_method_22_code
def yX6_nearestToLimit : MethodName := ⟨RX6, "nearestToLimit", "()I"⟩
abbrev cX6_strain : ByteArray := prog_8_method_23_code
def yX6_strain : MethodName := ⟨RX6, "strain", "(I)I"⟩
def RX7 : String := "StretchSpool"
def TX7 : u_T := fun k => match k with
  | 0 => ("StretchSpool", "now", "LStretchSpool$State;", true)
  | 1 => ("StretchSpool", "history", "LStretchSpool$History;", true)
  | 2 => ("StretchSpool", "snapshot", "LStretchSpool$State;", true)
  | 3 => ("StretchSpool", "kept", "Z", false)
  | 4 => ("StretchSpool", "text", "LStretchSpool$Text;", true)
  | 5 => ("StretchSpool", "command", "LStretchSpool$Command;", true)
  | 6 => ("StretchSpool", "reader", "LStretchSpool$Reader;", true)
  | 7 => ("StretchSpool", "laterReader", "LStretchSpool$Reader;", true)
  | _ => ("StretchSpool", "trial", "LStretchSpool$Wire;", true)
def tyX7 : Nat → FieldType := fun k => match k with
  | 0 => .object "StretchSpool$State"
  | 1 => .object "StretchSpool$History"
  | 2 => .object "StretchSpool$State"
  | 3 => .boolean
  | 4 => .object "StretchSpool$Text"
  | 5 => .object "StretchSpool$Command"
  | 6 => .object "StretchSpool$Reader"
  | 7 => .object "StretchSpool$Reader"
  | _ => .object "StretchSpool$Wire"
theorem nmX7 : ∀ a, a < 9 → ∀ b, b < 9 → a ≠ b → (TX7 a).2.1 ≠ (TX7 b).2.1 := by decide +kernel
theorem tyX7_ok : ∀ k, k < 9 → parseFieldDescriptor (TX7 k).2.2.1 = some (tyX7 k) := by decide +kernel
abbrev cX7_init : ByteArray := prog_1_method_1_code
def yX7_init : MethodName := ⟨RX7, "<init>", "()V"⟩
abbrev cX7_setRule : ByteArray := prog_1_method_2_code
def yX7_setRule : MethodName := ⟨RX7, "setRule", "(I)I"⟩
abbrev cX7_setLimit : ByteArray := prog_1_method_3_code
def yX7_setLimit : MethodName := ⟨RX7, "setLimit", "(I)I"⟩
abbrev cX7_rewind : ByteArray := prog_1_method_4_code
def yX7_rewind : MethodName := ⟨RX7, "rewind", "(III)I"⟩
abbrev cX7_cut : ByteArray := prog_1_method_5_code
def yX7_cut : MethodName := ⟨RX7, "cut", "(II)I"⟩
abbrev cX7_splice : ByteArray := prog_1_method_6_code
def yX7_splice : MethodName := ⟨RX7, "splice", "(II)I"⟩
abbrev cX7_close : ByteArray := prog_1_method_7_code
def yX7_close : MethodName := ⟨RX7, "close", "(I)I"⟩
abbrev cX7_punch : ByteArray := prog_1_method_8_code
def yX7_punch : MethodName := ⟨RX7, "punch", "(II)I"⟩
abbrev cX7_type : ByteArray := prog_1_method_9_code
def yX7_type : MethodName := ⟨RX7, "type", "(C)I"⟩
abbrev cX7_clearText : ByteArray := prog_1_method_10_code
def yX7_clearText : MethodName := ⟨RX7, "clearText", "()I"⟩
abbrev cX7_perform : ByteArray := prog_1_method_11_code
def yX7_perform : MethodName := ⟨RX7, "perform", "()I"⟩
abbrev cX7_writeWire : ByteArray := prog_1_method_12_code
def yX7_writeWire : MethodName := ⟨RX7, "writeWire", "(III)I"⟩
abbrev cX7_undo : ByteArray := prog_1_method_13_code
def yX7_undo : MethodName := ⟨RX7, "undo", "()I"⟩
abbrev cX7_keep : ByteArray := prog_1_method_14_code
def yX7_keep : MethodName := ⟨RX7, "keep", "()I"⟩
abbrev cX7_restore : ByteArray := prog_1_method_15_code
def yX7_restore : MethodName := ⟨RX7, "restore", "()I"⟩
abbrev cX7_spool : ByteArray := prog_1_method_16_code
def yX7_spool : MethodName := ⟨RX7, "spool", "(II)I"⟩
abbrev cX7_gap : ByteArray := prog_1_method_17_code
def yX7_gap : MethodName := ⟨RX7, "gap", "(III)I"⟩
abbrev cX7_read : ByteArray := prog_1_method_18_code
def yX7_read : MethodName := ⟨RX7, "read", "(III)I"⟩
abbrev cX7_errors : ByteArray := prog_1_method_19_code
def yX7_errors : MethodName := ⟨RX7, "errors", "(III)I"⟩
abbrev cX7_bestWay : ByteArray := prog_1_method_20_code
def yX7_bestWay : MethodName := ⟨RX7, "bestWay", "(I)I"⟩
abbrev cX7_errorsAfter : ByteArray := prog_1_method_21_code
def yX7_errorsAfter : MethodName := ⟨RX7, "errorsAfter", "(IIII)I"⟩
abbrev cX7_safeRewinds : ByteArray := prog_1_method_22_code
def yX7_safeRewinds : MethodName := ⟨RX7, "safeRewinds", "(III)I"⟩
abbrev cX7_event : ByteArray := prog_1_method_23_code
def yX7_event : MethodName := ⟨RX7, "event", "(II)I"⟩
abbrev cX7_count : ByteArray := prog_1_method_24_code
def yX7_count : MethodName := ⟨RX7, "count", "(I)I"⟩
abbrev cX7_isSpool : ByteArray := prog_1_method_25_code
def yX7_isSpool : MethodName := ⟨RX7, "isSpool", "(I)Z"⟩
abbrev cX7_isPull : ByteArray := prog_1_method_26_code
def yX7_isPull : MethodName := ⟨RX7, "isPull", "(I)Z"⟩
abbrev cX7_isWay : ByteArray := prog_1_method_27_code
def yX7_isWay : MethodName := ⟨RX7, "isWay", "(I)Z"⟩
abbrev cX7_isWayOfOneEnd : ByteArray := prog_1_method_28_code
def yX7_isWayOfOneEnd : MethodName := ⟨RX7, "isWayOfOneEnd", "(I)Z"⟩
abbrev cX7_nominalOf : ByteArray := prog_1_method_29_code
def yX7_nominalOf : MethodName := ⟨RX7, "nominalOf", "(I)I"⟩
abbrev cX7_stretchOf : ByteArray := prog_1_method_30_code
def yX7_stretchOf : MethodName := ⟨RX7, "stretchOf", "(IIII)I"⟩
def RX8 : String := "StretchSpoolModel"
def TX8 : u_T := fun k => match k with
  | 0 => ("StretchSpoolModel", "now", "[I", true)
  | 1 => ("StretchSpoolModel", "history", "[I", true)
  | 2 => ("StretchSpoolModel", "kept", "I", false)
  | 3 => ("StretchSpoolModel", "slot", "[I", true)
  | 4 => ("StretchSpoolModel", "isFilled", "Z", false)
  | 5 => ("StretchSpoolModel", "spare", "[I", true)
  | 6 => ("StretchSpoolModel", "codes", "[I", true)
  | 7 => ("StretchSpoolModel", "typed", "I", false)
  | 8 => ("StretchSpoolModel", "text", "[C", true)
  | 9 => ("StretchSpoolModel", "at", "I", false)
  | 10 => ("StretchSpoolModel", "told", "I", false)
  | 11 => ("StretchSpoolModel", "readWord", "I", false)
  | 12 => ("StretchSpoolModel", "first", "I", false)
  | 13 => ("StretchSpoolModel", "second", "I", false)
  | _ => ("StretchSpoolModel", "readNow", "[I", true)
def tyX8 : Nat → FieldType := fun k => match k with
  | 0 => .array .int
  | 1 => .array .int
  | 2 => .int
  | 3 => .array .int
  | 4 => .boolean
  | 5 => .array .int
  | 6 => .array .int
  | 7 => .int
  | 8 => .array .char
  | 9 => .int
  | 10 => .int
  | 11 => .int
  | 12 => .int
  | 13 => .int
  | _ => .array .int
theorem nmX8 : ∀ a, a < 15 → ∀ b, b < 15 → a ≠ b → (TX8 a).2.1 ≠ (TX8 b).2.1 := by decide +kernel
theorem tyX8_ok : ∀ k, k < 15 → parseFieldDescriptor (TX8 k).2.2.1 = some (tyX8 k) := by decide +kernel
abbrev cX8_init : ByteArray := prog_10_method_1_code
def yX8_init : MethodName := ⟨RX8, "<init>", "()V"⟩
abbrev cX8_in : ByteArray := prog_10_method_2_code
def yX8_in : MethodName := ⟨RX8, "in", "(III)Z"⟩
abbrev cX8_noSpool : ByteArray := prog_10_method_3_code
def yX8_noSpool : MethodName := ⟨RX8, "noSpool", "(I)Z"⟩
abbrev cX8_of : ByteArray := prog_10_method_4_code
def yX8_of : MethodName := ⟨RX8, "of", "(II)I"⟩
abbrev cX8_puts : ByteArray := prog_10_method_5_code
def yX8_puts : MethodName := ⟨RX8, "puts", "(III)V"⟩
abbrev cX8_isEmpty : ByteArray := prog_10_method_6_code
def yX8_isEmpty : MethodName := ⟨RX8, "isEmpty", "(I)Z"⟩
abbrev cX8_gaps : ByteArray := prog_10_method_7_code
def yX8_gaps : MethodName := ⟨RX8, "gaps", "(I)I"⟩
abbrev cX8_record : ByteArray := prog_10_method_8_code
def yX8_record : MethodName := ⟨RX8, "record", "()V"⟩
abbrev cX8_tells : ByteArray := prog_10_method_9_code
def yX8_tells : MethodName := ⟨RX8, "tells", "(III)V"⟩
abbrev cX8_setRule : ByteArray := prog_10_method_10_code
def yX8_setRule : MethodName := ⟨RX8, "setRule", "(I)I"⟩
abbrev cX8_setLimit : ByteArray := prog_10_method_11_code
def yX8_setLimit : MethodName := ⟨RX8, "setLimit", "(I)I"⟩
abbrev cX8_punches : ByteArray := prog_10_method_12_code
def yX8_punches : MethodName := ⟨RX8, "punches", "(III)V"⟩
abbrev cX8_copies : ByteArray := prog_10_method_13_code
def yX8_copies : MethodName := ⟨RX8, "copies", "(IIII)V"⟩
abbrev cX8_stretch : ByteArray := prog_10_method_14_code
def yX8_stretch : MethodName := ⟨RX8, "stretch", "(III)I"⟩
abbrev cX8_rewinds : ByteArray := prog_10_method_15_code
def yX8_rewinds : MethodName := ⟨RX8, "rewinds", "(II)Z"⟩
abbrev cX8_rewind : ByteArray := prog_10_method_16_code
def yX8_rewind : MethodName := ⟨RX8, "rewind", "(III)I"⟩
abbrev cX8_cut : ByteArray := prog_10_method_17_code
def yX8_cut : MethodName := ⟨RX8, "cut", "(II)I"⟩
abbrev cX8_splice : ByteArray := prog_10_method_18_code
def yX8_splice : MethodName := ⟨RX8, "splice", "(II)I"⟩
abbrev cX8_close : ByteArray := prog_10_method_19_code
def yX8_close : MethodName := ⟨RX8, "close", "(I)I"⟩
abbrev cX8_number : ByteArray := prog_10_method_20_code
def yX8_number : MethodName := ⟨RX8, "number", "(II)I"⟩
abbrev cX8_reads : ByteArray := prog_10_method_21_code
def yX8_reads : MethodName := ⟨RX8, "reads", "(II)V"⟩
abbrev cX8_isBarred : ByteArray := prog_10_method_22_code
def yX8_isBarred : MethodName := ⟨RX8, "isBarred", "(II)Z"⟩
abbrev cX8_wrong : ByteArray := prog_10_method_23_code
def yX8_wrong : MethodName := ⟨RX8, "wrong", "(II)I"⟩
abbrev cX8_allWrong : ByteArray := prog_10_method_24_code
def yX8_allWrong : MethodName := ⟨RX8, "allWrong", "(II)I"⟩
abbrev cX8_punch : ByteArray := prog_10_method_25_code
def yX8_punch : MethodName := ⟨RX8, "punch", "(II)I"⟩
abbrev cX8_type : ByteArray := prog_10_method_26_code
def yX8_type : MethodName := ⟨RX8, "type", "(C)I"⟩
abbrev cX8_clearText : ByteArray := prog_10_method_27_code
def yX8_clearText : MethodName := ⟨RX8, "clearText", "()I"⟩
abbrev cX8_isWord : ByteArray := prog_10_method_28_code
def yX8_isWord : MethodName := ⟨RX8, "isWord", "(IIIII)Z"⟩
abbrev cX8_isLong : ByteArray := prog_10_method_29_code
def yX8_isLong : MethodName := ⟨RX8, "isLong", "(IIIIII)Z"⟩
abbrev cX8_word : ByteArray := prog_10_method_30_code
def yX8_word : MethodName := ⟨RX8, "word", "()I"⟩
abbrev cX8_takesBlank : ByteArray := prog_10_method_31_code
def yX8_takesBlank : MethodName := ⟨RX8, "takesBlank", "()Z"⟩
abbrev cX8_takesNumber : ByteArray := prog_10_method_32_code
def yX8_takesNumber : MethodName := ⟨RX8, "takesNumber", "()Z"⟩
abbrev cX8_isRight : ByteArray := prog_10_method_33_code
def yX8_isRight : MethodName := ⟨RX8, "isRight", "()Z"⟩
abbrev cX8_writes : ByteArray := prog_10_method_34_code
def yX8_writes : MethodName := ⟨RX8, "writes", "()I"⟩
abbrev cX8_perform : ByteArray := prog_10_method_35_code
def yX8_perform : MethodName := ⟨RX8, "perform", "()I"⟩
abbrev cX8_full : ByteArray := prog_10_method_36_code
def yX8_full : MethodName := ⟨RX8, "full", "()I"⟩
abbrev cX8_undo : ByteArray := prog_10_method_37_code
def yX8_undo : MethodName := ⟨RX8, "undo", "()I"⟩
abbrev cX8_keep : ByteArray := prog_10_method_38_code
def yX8_keep : MethodName := ⟨RX8, "keep", "()I"⟩
abbrev cX8_restore : ByteArray := prog_10_method_39_code
def yX8_restore : MethodName := ⟨RX8, "restore", "()I"⟩
abbrev cX8_quotient : ByteArray := prog_10_method_40_code
def yX8_quotient : MethodName := ⟨RX8, "quotient", "(II)I"⟩
abbrev cX8_nearest : ByteArray := prog_10_method_41_code
def yX8_nearest : MethodName := ⟨RX8, "nearest", "(I)I"⟩
abbrev cX8_sum : ByteArray := prog_10_method_42_code
def yX8_sum : MethodName := ⟨RX8, "sum", "(II)I"⟩
abbrev cX8_spool : ByteArray := prog_10_method_43_code
def yX8_spool : MethodName := ⟨RX8, "spool", "(II)I"⟩
abbrev cX8_gap : ByteArray := prog_10_method_44_code
def yX8_gap : MethodName := ⟨RX8, "gap", "(III)I"⟩
abbrev cX8_read : ByteArray := prog_10_method_45_code
def yX8_read : MethodName := ⟨RX8, "read", "(III)I"⟩
abbrev cX8_errors : ByteArray := prog_10_method_46_code
def yX8_errors : MethodName := ⟨RX8, "errors", "(III)I"⟩
abbrev cX8_bestWay : ByteArray := prog_10_method_47_code
def yX8_bestWay : MethodName := ⟨RX8, "bestWay", "(I)I"⟩
abbrev cX8_goes : ByteArray := prog_10_method_48_code
def yX8_goes : MethodName := ⟨RX8, "goes", "()V"⟩
abbrev cX8_comes : ByteArray := prog_10_method_49_code
def yX8_comes : MethodName := ⟨RX8, "comes", "()V"⟩
abbrev cX8_asks : ByteArray := prog_10_method_50_code
def yX8_asks : MethodName := ⟨RX8, "asks", "(IIII)I"⟩
abbrev cX8_errorsAfter : ByteArray := prog_10_method_51_code
def yX8_errorsAfter : MethodName := ⟨RX8, "errorsAfter", "(IIII)I"⟩
abbrev cX8_isReadSo : ByteArray := prog_10_method_52_code
def yX8_isReadSo : MethodName := ⟨RX8, "isReadSo", "(II)Z"⟩
abbrev cX8_safeRewinds : ByteArray := prog_10_method_53_code
def yX8_safeRewinds : MethodName := ⟨RX8, "safeRewinds", "(III)I"⟩
abbrev cX8_event : ByteArray := prog_10_method_54_code
def yX8_event : MethodName := ⟨RX8, "event", "(II)I"⟩
abbrev cX8_letters : ByteArray := prog_10_method_55_code
def yX8_letters : MethodName := ⟨RX8, "letters", "()I"⟩
abbrev cX8_count : ByteArray := prog_10_method_56_code
def yX8_count : MethodName := ⟨RX8, "count", "(I)I"⟩
def RJ9 : String := "java/lang/Math"
abbrev cJ9_min_7cf53 : ByteArray := prog_11_method_69_code
def yJ9_min_7cf53 : MethodName := ⟨RJ9, "min", "(II)I"⟩
def RJ0 : String := "java/lang/String"
abbrev cJ0_length_8abf5 : ByteArray := prog_12_method_54_code
def yJ0_length_8abf5 : MethodName := ⟨RJ0, "length", "()I"⟩
abbrev cJ0_charAt_5068e : ByteArray := prog_12_method_56_code
def yJ0_charAt_5068e : MethodName := ⟨RJ0, "charAt", "(I)C"⟩
abbrev cJ0_coder_7d493 : ByteArray := prog_12_method_152_code
def yJ0_coder_7d493 : MethodName := ⟨RJ0, "coder", "()B"⟩
abbrev cJ0_isLatin1_aae02 : ByteArray := prog_12_method_154_code
def yJ0_isLatin1_aae02 : MethodName := ⟨RJ0, "isLatin1", "()Z"⟩
abbrev cJ0_checkIndex_df160 : ByteArray := prog_12_method_155_code
def yJ0_checkIndex_df160 : MethodName := ⟨RJ0, "checkIndex", "(II)V"⟩
def RJ1 : String := "java/lang/StringLatin1"
abbrev cJ1_charAt_3b067 : ByteArray := prog_13_method_2_code
def yJ1_charAt_3b067 : MethodName := ⟨RJ1, "charAt", "([BI)C"⟩
def RJ2 : String := "java/lang/StringUTF16"
abbrev cJ2_getChar_3b067 : ByteArray := prog_14_method_5_code
def yJ2_getChar_3b067 : MethodName := ⟨RJ2, "getChar", "([BI)C"⟩
abbrev cJ2_length_9d52b : ByteArray := prog_14_method_6_code
def yJ2_length_9d52b : MethodName := ⟨RJ2, "length", "([B)I"⟩
abbrev cJ2_charAt_3b067 : ByteArray := prog_14_method_83_code
def yJ2_charAt_3b067 : MethodName := ⟨RJ2, "charAt", "([BI)C"⟩
abbrev cJ2_checkIndex_2214a : ByteArray := prog_14_method_91_code
def yJ2_checkIndex_2214a : MethodName := ⟨RJ2, "checkIndex", "(I[B)V"⟩
def RJ10 : String := "java/lang/System"
def RJ3 : String := "jdk/internal/util/Preconditions"
abbrev cJ3_checkIndex_8e157 : ByteArray := prog_16_method_11_code
def yJ3_checkIndex_8e157 : MethodName := ⟨RJ3, "checkIndex", "(IILjava/util/function/BiFunction;)I"⟩
def RL : String := "StretchSpoolLaw"
abbrev cL_law : ByteArray := code
def yL_law : MethodName := ⟨RL, "law", "([I)Z"⟩
abbrev vwCl : List vw_C := [(RX0, TX0, 6), (RX1, TX1, 2), (RX2, TX2, 4), (RX3, TX3, 4), (RX4, TX4, 9), (RX5, TX5, 2), (RX6, TX6, 7), (RX7, TX7, 9), (RX8, TX8, 15)]
end
section
/-! THE SMALL MACHINE: an interpreter of the instructions in use, over cells that are counted from 0. Values are the machine's own; .ref k is the k-th own cell;
    from 1000000 on: String constants, from 1100000 on: their byte arrays, 2000000: the script, 3000000: the JDK's formatter. -/
abbrev mK : Type := Nat × Nat × (Nat → Nat × Nat) × Nat × (Nat → Int32)
abbrev mH : Type := mK × (Nat → Nat → Option Nat) × (Nat → Nat → Int32)
/-- an instruction: as it is decoded, and what its operands mean -/
abbrev mIns : Type := Instr × Nat × Nat × Int32
abbrev mRes : Type := (List Value × List Value × mH) ⊕ (Nat × List Value × List Value) ⊕ (Option Value × mH) ⊕ Option (Nat × List Value × List Value)
abbrev mNx (L st : List Value) (h : mH) : mRes := .inl (L, st, h)
abbrev mJp (t : Nat) (L st : List Value) : mRes := .inr (.inl (t, L, st))
abbrev mRt (v : Option Value) (h : mH) : mRes := .inr (.inr (.inl (v, h)))
abbrev mCl (z : Nat) (as st : List Value) : mRes := .inr (.inr (.inr (some (z, as, st))))
abbrev mEr : mRes := .inr (.inr (.inr none))
def mSet (I : Nat → Nat → Int32) (a k : Nat) (x : Int32) : Nat → Nat → Int32 := fun b j => if b = a ∧ j = k then x else I b j
def mSetR (R : Nat → Nat → Option Nat) (a k : Nat) (x : Option Nat) : Nat → Nat → Option Nat := fun b j => if b = a ∧ j = k then x else R b j
def mCpy (I : Nat → Nat → Int32) (p : Nat) (sp : Nat) (q dp n : Nat) : Nat → Nat → Int32 := fun b j => if b = q ∧ dp ≤ j ∧ j < dp + n then I p (sp + (j - dp)) else I b j
def mShp (f : Nat → Nat × Nat) (k : Nat) (x : Nat × Nat) : Nat → Nat × Nat := fun j => if j = k then x else f j
def mCmp (c : Jvm.ClassFile.Cond) (x y : Int32) : Bool := match c with
  | .eq => x == y
  | .ne => !(x == y)
  | .lt => decide (x < y)
  | .ge => decide (y ≤ x)
  | .gt => decide (y < x)
  | .le => decide (x ≤ y)
/-- within an array of n -/
def mIn (i : Int32) (n : Nat) : Bool := decide (0 ≤ i) && decide (i.toNatClampNeg < n)
def mLen (k : Nat) : Nat := ([5, 6, 3, 6, 5, 5] : List Nat).getD k 0
def mByt (k : Nat) : List Int32 := ([[119, 114, 105, 116, 101], [114, 101, 119, 105, 110, 100], [99, 117, 116], [115, 112, 108, 105, 99, 101], [99, 108, 111, 115, 101], [112, 117, 110, 99, 104]] : List (List Int32)).getD k []
def mNar (v : Int32) (x : Int32) : Bool := if v = 0 then true else if v = 1 then x == 0 || x == 1 else if v = 2 then x.toInt8.toInt32 == x else (x.toUInt32 % 65536).toInt32 == x
def mStr (o : Nat) : Bool := decide (1000000 ≤ o) && decide (o < 1000006)
def mStB (o : Nat) : Bool := decide (1100000 ≤ o) && decide (o < 1100006)
def mTgt (a : Nat) (dflt lo : Int) (offs : Array Int) (x : Int32) : Nat := if x.toInt < lo then (a + dflt).toNat else match offs[(x.toInt - lo).toNat]? with
  | some off => (a + off).toNat
  | none => (a + dflt).toNat
/-- the class of a method's receiver -/
def mStep (rc : Nat → Nat) (i : mIns) (L st : List Value) (h : mH) : mRes := match i with
  | (.iconst _, _, _, v) => mNx L (.int v :: st) h
  | (.bipush _, _, _, v) => mNx L (.int v :: st) h
  | (.sipush _, _, _, v) => mNx L (.int v :: st) h
  | (.iload_n _, a, _, _) => match L[a]? with
    | some (.int x) => mNx L (.int x :: st) h
    | _ => mEr
  | (.iload _, a, _, _) => match L[a]? with
    | some (.int x) => mNx L (.int x :: st) h
    | _ => mEr
  | (.aload_n _, a, _, _) => match L[a]? with
    | some (.ref x) => mNx L (.ref x :: st) h
    | _ => mEr
  | (.aload _, a, _, _) => match L[a]? with
    | some (.ref x) => mNx L (.ref x :: st) h
    | _ => mEr
  | (.istore_n _, a, _, _) => match st with
    | .int x :: st => mNx (L.set a (.int x)) st h
    | _ => mEr
  | (.istore _, a, _, _) => match st with
    | .int x :: st => mNx (L.set a (.int x)) st h
    | _ => mEr
  | (.astore_n _, a, _, _) => match st with
    | .ref x :: st => mNx (L.set a (.ref x)) st h
    | _ => mEr
  | (.astore _, a, _, _) => match st with
    | .ref x :: st => mNx (L.set a (.ref x)) st h
    | _ => mEr
  | (.iinc _ _, a, _, v) => match L[a]? with
    | some (.int x) => mNx (L.set a (.int (x + v))) st h
    | _ => mEr
  | (.iadd, _, _, _) => match st with
    | .int y :: .int x :: st => mNx L (.int (x + y) :: st) h
    | _ => mEr
  | (.isub, _, _, _) => match st with
    | .int y :: .int x :: st => mNx L (.int (x - y) :: st) h
    | _ => mEr
  | (.imul, _, _, _) => match st with
    | .int y :: .int x :: st => mNx L (.int (x * y) :: st) h
    | _ => mEr
  | (.idiv, _, _, _) => match st with
    | .int y :: .int x :: st => if y = 0 then mEr else mNx L (.int (x / y) :: st) h
    | _ => mEr
  | (.iand, _, _, _) => match st with
    | .int y :: .int x :: st => mNx L (.int (x &&& y) :: st) h
    | _ => mEr
  | (.ishr, _, _, _) => match st with
    | .int y :: .int x :: st => mNx L (.int (x >>> (y &&& 31)) :: st) h
    | _ => mEr
  | (.i2c, _, _, _) => match st with
    | .int x :: st => mNx L (.int (x.toUInt32 % 65536).toInt32 :: st) h
    | _ => mEr
  | (.dup, _, _, _) => match st with
    | .int x :: st => mNx L (.int x :: .int x :: st) h
    | .ref x :: st => mNx L (.ref x :: .ref x :: st) h
    | _ => mEr
  | (.dup2, _, _, _) => match st with
    | .int x :: .ref y :: st => mNx L (.int x :: .ref y :: .int x :: .ref y :: st) h
    | _ => mEr
  | (.pop, _, _, _) => match st with
    | .int _ :: st => mNx L st h
    | _ => mEr
  | (.goto _, a, _, _) => mJp a L st
  | (.nop, a, _, _) => mJp a L st
  | (.ifCond c _, a, _, _) => match st with
    | .int x :: st => if mCmp c x 0 then mJp a L st else mNx L st h
    | _ => mEr
  | (.if_icmp c _, a, _, _) => match st with
    | .int y :: .int x :: st => if mCmp c x y then mJp a L st else mNx L st h
    | _ => mEr
  | (.tableswitch dflt lo _ offs, a, _, _) => match st with
    | .int x :: st => mJp (mTgt a dflt lo offs x) L st
    | _ => mEr
  | (.ireturn, _, _, v) => match st with
    | [.int x] => if mNar v x then mRt (some (.int x)) h else mEr
    | _ => mEr
  | (.return_, _, _, _) => match st with
    | [] => mRt none h
    | _ => mEr
  | (.getfield _, a, b, v) => match st with
    | .ref o :: st =>
      if v = 4 then (if mStr o then mNx L (.ref (o + 100000) :: st) h else mEr)
      else if v = 5 then (if mStr o then mNx L (.int 0 :: st) h else mEr)
      else if h.1.2.2.1 o = (1, a) then
        (if v = 2 then (match h.2.1 o b with
          | some q => mNx L (.ref q :: st) h
          | none => mEr)
        else mNx L (.int (h.2.2 o b) :: st) h)
      else mEr
    | _ => mEr
  | (.putfield _, a, b, v) => match st with
    | .int x :: .ref o :: st => if h.1.2.2.1 o = (1, a) ∧ (v = 0 ∨ (v = 1 ∧ (x = 0 ∨ x = 1))) then mNx L st (h.1, h.2.1, mSet h.2.2 o b x) else mEr
    | .ref q :: .ref o :: st => if h.1.2.2.1 o = (1, a) ∧ v = 5 ∧ q < 500000 then mNx L st (h.1, mSetR h.2.1 o b (some q), h.2.2) else mEr
    | _ => mEr
  | (.getstatic _, _, _, v) => if v = 0 then mNx L (.int 1 :: st) h else if v = 1 then mNx L (.ref 3000000 :: st) h else mEr
  | (.iaload, _, _, v) => match st with
    | .int i :: .ref o :: st =>
      if v = 1 then (if o = 2000000 ∧ mIn i h.1.2.2.2.1 = true then mNx L (.int (h.1.2.2.2.2 i.toNatClampNeg) :: st) h else mEr)
      else if (h.1.2.2.1 o).1 = 2 ∧ mIn i (h.1.2.2.1 o).2 = true then mNx L (.int (h.2.2 o i.toNatClampNeg) :: st) h else mEr
    | _ => mEr
  | (.caload, _, _, _) => match st with
    | .int i :: .ref o :: st => if (h.1.2.2.1 o).1 = 3 ∧ mIn i (h.1.2.2.1 o).2 = true then mNx L (.int (h.2.2 o i.toNatClampNeg) :: st) h else mEr
    | _ => mEr
  | (.baload, _, _, _) => match st with
    | .int i :: .ref o :: st => if mStB o = true ∧ mIn i (mLen (o - 1100000)) = true then mNx L (.int ((mByt (o - 1100000)).getD i.toNatClampNeg 0) :: st) h else mEr
    | _ => mEr
  | (.iastore, _, _, _) => match st with
    | .int x :: .int i :: .ref o :: st => if (h.1.2.2.1 o).1 = 2 ∧ mIn i (h.1.2.2.1 o).2 = true then mNx L st (h.1, h.2.1, mSet h.2.2 o i.toNatClampNeg x) else mEr
    | _ => mEr
  | (.castore, _, _, _) => match st with
    | .int x :: .int i :: .ref o :: st => if (h.1.2.2.1 o).1 = 3 ∧ mIn i (h.1.2.2.1 o).2 = true then mNx L st (h.1, h.2.1, mSet h.2.2 o i.toNatClampNeg (x.toUInt32 % 65536).toInt32) else mEr
    | _ => mEr
  | (.aaload, a, _, _) => match st with
    | .int i :: .ref o :: st => if (a = 4 ∨ a = 5) ∧ (h.1.2.2.1 o).1 = a ∧ mIn i (h.1.2.2.1 o).2 = true then (match h.2.1 o i.toNatClampNeg with
        | some q => mNx L (.ref q :: st) h
        | none => mEr)
      else mEr
    | _ => mEr
  | (.aastore, a, b, _) => match st with
    | .ref q :: .int i :: .ref o :: st => if ((a = 4 ∧ b = 6) ∨ (a = 5 ∧ b = 4)) ∧ (h.1.2.2.1 o).1 = a ∧ mIn i (h.1.2.2.1 o).2 = true ∧ h.1.2.2.1 q = (1, b) then mNx L st (h.1, mSetR h.2.1 o i.toNatClampNeg (some q), h.2.2) else mEr
    | _ => mEr
  | (.arraylength, _, _, v) => match st with
    | .ref o :: st =>
      if v = 1 then (if o = 2000000 then mNx L (.int (nI h.1.2.2.2.1) :: st) h else mEr)
      else if v = 2 then (if mStB o then mNx L (.int (nI (mLen (o - 1100000))) :: st) h else mEr)
      else if (h.1.2.2.1 o).1 = 2 then mNx L (.int (nI (h.1.2.2.1 o).2) :: st) h else mEr
    | _ => mEr
  | (.newarray _, a, _, _) => match st with
    | .int n :: st => if (a = 2 ∨ a = 3) ∧ 0 ≤ n ∧ n ≤ 100000 ∧ h.1.1 < 500000 then
        mNx L (.ref h.1.1 :: st) ((h.1.1 + 1, h.1.2.1 + n.toNatClampNeg, mShp h.1.2.2.1 h.1.1 (a, n.toNatClampNeg), h.1.2.2.2), h.2.1, fun b j => if b = h.1.1 then 0 else h.2.2 b j) else mEr
    | _ => mEr
  | (.anewarray _, a, b, _) => match st with
    | .int n :: st => if ((a = 4 ∧ b = 6) ∨ (a = 5 ∧ b = 4)) ∧ 0 ≤ n ∧ n ≤ 100000 ∧ h.1.1 < 500000 then
        mNx L (.ref h.1.1 :: st) ((h.1.1 + 1, h.1.2.1 + n.toNatClampNeg, mShp h.1.2.2.1 h.1.1 (a, n.toNatClampNeg), h.1.2.2.2), fun b j => if b = h.1.1 then none else h.2.1 b j, h.2.2) else mEr
    | _ => mEr
  | (.new _, a, b, v) => if v = 0 ∧ h.1.1 < 500000 then
      mNx L (.ref h.1.1 :: st) ((h.1.1 + 1, h.1.2.1 + b, mShp h.1.2.2.1 h.1.1 (1, a), h.1.2.2.2), fun b j => if b = h.1.1 then none else h.2.1 b j, fun b j => if b = h.1.1 then 0 else h.2.2 b j) else mEr
  | (.invokespecial _, a, b, v) =>
    if v = 0 then (match st with
      | .ref o :: st => if st.length ≤ 4 ∧ o < 1000000 then mNx L st h else mEr
      | _ => mEr)
    else if v = 1 ∧ b ≤ st.length ∧ st.length ≤ b + 4 then (match (st.take b).reverse with
      | .ref o :: as => if o < 1000000 then mCl a (.ref o :: as) (st.drop b) else mEr
      | _ => mEr)
    else mEr
  | (.invokevirtual _, a, b, v) =>
    if v = 0 ∧ b ≤ st.length ∧ st.length ≤ b + 4 then (match (st.take b).reverse with
      | .ref o :: as => if (rc a = 10 ∧ mStr o = true) ∨ (h.1.2.2.1 o = (1, rc a) ∧ rc a < 9) then mCl a (.ref o :: as) (st.drop b) else mEr
      | _ => mEr)
    else mEr
  | (.invokestatic _, a, b, v) =>
    if v = 0 then (if b ≤ st.length ∧ st.length ≤ b + 4 then mCl a (st.take b).reverse (st.drop b) else mEr)
    else if v = 1 then (match st with
      | .int y :: .int x :: st => if st.length ≤ 4 then mNx L (.int (if y < x then y else x) :: st) h else mEr
      | _ => mEr)
    else if v = 2 then (match st with
      | .int n :: .int dp :: .ref q :: .int sp :: .ref p :: st =>
        if 0 ≤ sp ∧ 0 ≤ dp ∧ 0 ≤ n ∧ (h.1.2.2.1 p).1 = 2 ∧ (h.1.2.2.1 q).1 = 2 ∧ sp.toNatClampNeg + n.toNatClampNeg ≤ (h.1.2.2.1 p).2 ∧ dp.toNatClampNeg + n.toNatClampNeg ≤ (h.1.2.2.1 q).2 ∧ st.length ≤ 4 then
          mNx L st (h.1, h.2.1, mCpy h.2.2 p sp.toNatClampNeg q dp.toNatClampNeg n.toNatClampNeg) else mEr
      | _ => mEr)
    else mEr
  | (.ldc _, a, _, _) => mNx L (.ref (1000000 + a) :: st) h
  | _ => mEr
/-- the run: B the blocks of the methods by method and place, N how many locals, rc the receivers' classes -/
def mRun (B : Nat → Nat → List mIns) (N rc : Nat → Nat) : Nat → Nat → List mIns → List Value → List Value → mH → Option (Option Value × mH)
  | 0, _, _, _, _, _ => none
  | f + 1, y, is, L, st, h => match is with
    | [] => none
    | i :: is => match mStep rc i L st h with
      | .inl (L', st', h') => mRun B N rc f y is L' st' h'
      | .inr (.inl (t, L', st')) => mRun B N rc f y (B y t) L' st' h
      | .inr (.inr (.inl r)) => some r
      | .inr (.inr (.inr none)) => none
      | .inr (.inr (.inr (some (z, as, st')))) => match mRun B N rc f z (B z 0) (as ++ List.replicate (N z - as.length) .null) [] h with
        | none => none
        | some (v, h') => mRun B N rc f y is L (v.toList ++ st') h'
end
section
/-! THE CODE of the methods for the small machine: by method, by place; laid by wip/whole/gen.py -/
def bk_0_0 : List mIns := [(.aload_n 0, 0, 0, 0), (.invokespecial 3, 0, 0, 0), (.aload_n 0, 0, 0, 0), (.iconst 0, 0, 0, 0), (.putfield 9, 0, 0, 0), (.aload_n 0, 0, 0, 0), (.iconst 0, 0, 0, 0), (.putfield 15, 0, 1, 0), (.aload_n 0, 0, 0, 0), (.iconst 0, 0, 0, 0), (.putfield 18, 0, 2, 0), (.aload_n 0, 0, 0, 0), (.iconst 0, 0, 0, 0), (.putfield 21, 0, 3, 0), (.aload_n 0, 0, 0, 0), (.iconst (-1), 0, 0, (-1)), (.putfield 24, 0, 4, 0), (.aload_n 0, 0, 0, 0), (.iconst 0, 0, 0, 0), (.putfield 27, 0, 5, 0), (.return_, 0, 0, 0)]
def bk_1_0 : List mIns := [(.aload_n 0, 0, 0, 0), (.iconst 0, 0, 0, 0), (.putfield 15, 0, 1, 0), (.aload_n 0, 0, 0, 0), (.iconst 0, 0, 0, 0), (.putfield 18, 0, 2, 0), (.aload_n 0, 0, 0, 0), (.iconst 0, 0, 0, 0), (.putfield 21, 0, 3, 0), (.aload_n 0, 0, 0, 0), (.iconst (-1), 0, 0, (-1)), (.putfield 24, 0, 4, 0), (.aload_n 0, 0, 0, 0), (.aload_n 1, 1, 0, 0), (.invokestatic 30, 2, 1, 0), (.putfield 27, 0, 5, 0), (.aload_n 0, 0, 0, 0), (.aload_n 1, 1, 0, 0), (.aload_n 0, 0, 0, 0), (.getfield 27, 0, 5, 0), (.invokestatic 34, 3, 2, 0), (.putfield 9, 0, 0, 0), (.aload_n 0, 0, 0, 0), (.getfield 9, 0, 0, 0), (.ifCond .ne 9, 53, 0, 0), (.aload_n 0, 0, 0, 0), (.iconst 0, 0, 0, 0), (.putfield 24, 0, 4, 0), (.return_, 0, 0, 0)]
def bk_1_53 : List mIns := [(.aload_n 0, 0, 0, 0), (.aload_n 0, 0, 0, 0), (.aload_n 1, 1, 0, 0), (.invokevirtual 38, 4, 2, 0), (.putfield 15, 0, 1, 0), (.aload_n 0, 0, 0, 0), (.getfield 9, 0, 0, 0), (.iconst 1, 0, 0, 1), (.if_icmp .ne 11, 78, 0, 0), (.aload_n 0, 0, 0, 0), (.aload_n 1, 1, 0, 0), (.invokevirtual 41, 5, 2, 0), (.goto 20, 95, 0, 0)]
def bk_1_78 : List mIns := [(.aload_n 0, 0, 0, 0), (.getfield 9, 0, 0, 0), (.iconst 5, 0, 0, 5), (.if_icmp .eq 12, 95, 0, 0), (.aload_n 0, 0, 0, 0), (.aload_n 0, 0, 0, 0), (.aload_n 1, 1, 0, 0), (.invokevirtual 38, 4, 2, 0), (.putfield 18, 0, 2, 0), (.nop, 95, 0, 0)]
def bk_1_95 : List mIns := [(.aload_n 0, 0, 0, 0), (.getfield 24, 0, 4, 0), (.iconst (-1), 0, 0, (-1)), (.if_icmp .ne 23, 123, 0, 0), (.aload_n 1, 1, 0, 0), (.aload_n 0, 0, 0, 0), (.getfield 27, 0, 5, 0), (.invokevirtual 45, 33, 2, 0), (.iconst (-1), 0, 0, (-1)), (.if_icmp .eq 11, 123, 0, 0), (.aload_n 0, 0, 0, 0), (.aload_n 0, 0, 0, 0), (.getfield 27, 0, 5, 0), (.putfield 24, 0, 4, 0), (.nop, 123, 0, 0)]
def bk_1_123 : List mIns := [(.return_, 0, 0, 0)]
def bk_2_0 : List mIns := [(.iconst 0, 0, 0, 0), (.istore_n 1, 1, 0, 0), (.nop, 2, 0, 0)]
def bk_2_2 : List mIns := [(.iload_n 1, 1, 0, 0), (.bipush 50, 0, 0, 50), (.if_icmp .ge 24, 29, 0, 0), (.aload_n 0, 0, 0, 0), (.iload_n 1, 1, 0, 0), (.invokevirtual 45, 33, 2, 0), (.bipush 97, 0, 0, 97), (.bipush 122, 0, 0, 122), (.invokestatic 51, 7, 3, 0), (.ifCond .eq 9, 29, 0, 0), (.iinc 1 1, 1, 0, 1), (.goto (-24), 2, 0, 0)]
def bk_2_29 : List mIns := [(.iload_n 1, 1, 0, 0), (.ireturn, 0, 0, 0)]
def bk_3_0 : List mIns := [(.aload_n 0, 0, 0, 0), (.ldc 55, 0, 0, 0), (.iload_n 1, 1, 0, 0), (.invokevirtual 57, 34, 3, 0), (.ifCond .eq 5, 12, 0, 0), (.iconst 1, 0, 0, 1), (.ireturn, 0, 0, 0)]
def bk_3_12 : List mIns := [(.aload_n 0, 0, 0, 0), (.ldc 61, 1, 0, 0), (.iload_n 1, 1, 0, 0), (.invokevirtual 57, 34, 3, 0), (.ifCond .eq 5, 24, 0, 0), (.iconst 2, 0, 0, 2), (.ireturn, 0, 0, 0)]
def bk_3_24 : List mIns := [(.aload_n 0, 0, 0, 0), (.ldc 63, 2, 0, 0), (.iload_n 1, 1, 0, 0), (.invokevirtual 57, 34, 3, 0), (.ifCond .eq 5, 36, 0, 0), (.iconst 3, 0, 0, 3), (.ireturn, 0, 0, 0)]
def bk_3_36 : List mIns := [(.aload_n 0, 0, 0, 0), (.ldc 65, 3, 0, 0), (.iload_n 1, 1, 0, 0), (.invokevirtual 57, 34, 3, 0), (.ifCond .eq 5, 48, 0, 0), (.iconst 4, 0, 0, 4), (.ireturn, 0, 0, 0)]
def bk_3_48 : List mIns := [(.aload_n 0, 0, 0, 0), (.ldc 67, 4, 0, 0), (.iload_n 1, 1, 0, 0), (.invokevirtual 57, 34, 3, 0), (.ifCond .eq 5, 60, 0, 0), (.iconst 5, 0, 0, 5), (.ireturn, 0, 0, 0)]
def bk_3_60 : List mIns := [(.aload_n 0, 0, 0, 0), (.ldc 69, 5, 0, 0), (.iload_n 1, 1, 0, 0), (.invokevirtual 57, 34, 3, 0), (.ifCond .eq 8, 75, 0, 0), (.bipush 6, 0, 0, 6), (.goto 4, 76, 0, 0)]
def bk_3_75 : List mIns := [(.iconst 0, 0, 0, 0), (.nop, 76, 0, 0)]
def bk_3_76 : List mIns := [(.ireturn, 0, 0, 0)]
def bk_4_0 : List mIns := [(.aload_n 0, 0, 0, 0), (.aload_n 1, 1, 0, 0), (.invokevirtual 71, 6, 2, 0), (.aload_n 0, 0, 0, 0), (.getfield 24, 0, 4, 0), (.iconst (-1), 0, 0, (-1)), (.if_icmp .eq 5, 15, 0, 0), (.iconst 0, 0, 0, 0), (.ireturn, 0, 0, 0)]
def bk_4_15 : List mIns := [(.aload_n 1, 1, 0, 0), (.aload_n 0, 0, 0, 0), (.getfield 27, 0, 5, 0), (.invokevirtual 45, 33, 2, 0), (.bipush 48, 0, 0, 48), (.bipush 57, 0, 0, 57), (.invokestatic 51, 7, 3, 0), (.ifCond .ne 13, 43, 0, 0), (.aload_n 0, 0, 0, 0), (.aload_n 0, 0, 0, 0), (.getfield 27, 0, 5, 0), (.putfield 24, 0, 4, 0), (.iconst 0, 0, 0, 0), (.ireturn, 0, 0, 0)]
def bk_4_43 : List mIns := [(.aload_n 1, 1, 0, 0), (.aload_n 0, 0, 0, 0), (.getfield 27, 0, 5, 0), (.invokevirtual 45, 33, 2, 0), (.bipush 48, 0, 0, 48), (.isub, 0, 0, 0), (.istore_n 2, 2, 0, 0), (.aload_n 0, 0, 0, 0), (.dup, 0, 0, 0), (.getfield 27, 0, 5, 0), (.iconst 1, 0, 0, 1), (.iadd, 0, 0, 0), (.putfield 27, 0, 5, 0), (.iload_n 2, 2, 0, 0), (.ifCond .eq 48, 114, 0, 0), (.aload_n 1, 1, 0, 0), (.aload_n 0, 0, 0, 0), (.getfield 27, 0, 5, 0), (.invokevirtual 45, 33, 2, 0), (.bipush 48, 0, 0, 48), (.bipush 57, 0, 0, 57), (.invokestatic 51, 7, 3, 0), (.ifCond .eq 30, 114, 0, 0), (.bipush 10, 0, 0, 10), (.iload_n 2, 2, 0, 0), (.imul, 0, 0, 0), (.aload_n 1, 1, 0, 0), (.aload_n 0, 0, 0, 0), (.getfield 27, 0, 5, 0), (.invokevirtual 45, 33, 2, 0), (.iadd, 0, 0, 0), (.bipush 48, 0, 0, 48), (.isub, 0, 0, 0), (.istore_n 2, 2, 0, 0), (.aload_n 0, 0, 0, 0), (.dup, 0, 0, 0), (.getfield 27, 0, 5, 0), (.iconst 1, 0, 0, 1), (.iadd, 0, 0, 0), (.putfield 27, 0, 5, 0), (.nop, 114, 0, 0)]
def bk_4_114 : List mIns := [(.iload_n 2, 2, 0, 0), (.ireturn, 0, 0, 0)]
def bk_5_0 : List mIns := [(.aload_n 0, 0, 0, 0), (.aload_n 1, 1, 0, 0), (.invokevirtual 71, 6, 2, 0), (.aload_n 0, 0, 0, 0), (.getfield 24, 0, 4, 0), (.iconst (-1), 0, 0, (-1)), (.if_icmp .eq 4, 14, 0, 0), (.return_, 0, 0, 0)]
def bk_5_14 : List mIns := [(.aload_n 0, 0, 0, 0), (.aload_n 0, 0, 0, 0), (.getfield 27, 0, 5, 0), (.putfield 21, 0, 3, 0), (.nop, 22, 0, 0)]
def bk_5_22 : List mIns := [(.aload_n 0, 0, 0, 0), (.getfield 27, 0, 5, 0), (.bipush 50, 0, 0, 50), (.if_icmp .ge 34, 62, 0, 0), (.aload_n 1, 1, 0, 0), (.aload_n 0, 0, 0, 0), (.getfield 27, 0, 5, 0), (.invokevirtual 45, 33, 2, 0), (.bipush 97, 0, 0, 97), (.bipush 104, 0, 0, 104), (.invokestatic 51, 7, 3, 0), (.ifCond .eq 16, 62, 0, 0), (.aload_n 0, 0, 0, 0), (.dup, 0, 0, 0), (.getfield 27, 0, 5, 0), (.iconst 1, 0, 0, 1), (.iadd, 0, 0, 0), (.putfield 27, 0, 5, 0), (.goto (-37), 22, 0, 0)]
def bk_5_62 : List mIns := [(.aload_n 0, 0, 0, 0), (.getfield 27, 0, 5, 0), (.aload_n 0, 0, 0, 0), (.getfield 21, 0, 3, 0), (.if_icmp .ne 11, 81, 0, 0), (.aload_n 0, 0, 0, 0), (.aload_n 0, 0, 0, 0), (.getfield 27, 0, 5, 0), (.putfield 24, 0, 4, 0), (.nop, 81, 0, 0)]
def bk_5_81 : List mIns := [(.return_, 0, 0, 0)]
def bk_6_0 : List mIns := [(.aload_n 0, 0, 0, 0), (.getfield 24, 0, 4, 0), (.iconst (-1), 0, 0, (-1)), (.if_icmp .eq 4, 9, 0, 0), (.return_, 0, 0, 0)]
def bk_6_9 : List mIns := [(.aload_n 1, 1, 0, 0), (.aload_n 0, 0, 0, 0), (.getfield 27, 0, 5, 0), (.invokevirtual 45, 33, 2, 0), (.bipush 32, 0, 0, 32), (.if_icmp .eq 12, 31, 0, 0), (.aload_n 0, 0, 0, 0), (.aload_n 0, 0, 0, 0), (.getfield 27, 0, 5, 0), (.putfield 24, 0, 4, 0), (.return_, 0, 0, 0)]
def bk_6_31 : List mIns := [(.aload_n 0, 0, 0, 0), (.dup, 0, 0, 0), (.getfield 27, 0, 5, 0), (.iconst 1, 0, 0, 1), (.iadd, 0, 0, 0), (.putfield 27, 0, 5, 0), (.return_, 0, 0, 0)]
def bk_7_0 : List mIns := [(.iload_n 0, 0, 0, 0), (.iload_n 1, 1, 0, 0), (.if_icmp .lt 12, 14, 0, 0), (.iload_n 0, 0, 0, 0), (.iload_n 2, 2, 0, 0), (.if_icmp .gt 7, 14, 0, 0), (.iconst 1, 0, 0, 1), (.goto 4, 15, 0, 0)]
def bk_7_14 : List mIns := [(.iconst 0, 0, 0, 0), (.nop, 15, 0, 0)]
def bk_7_15 : List mIns := [(.ireturn, 0, 0, 1)]
def bk_8_0 : List mIns := [(.aload_n 0, 0, 0, 0), (.invokespecial 3, 0, 0, 0), (.aload_n 0, 0, 0, 0), (.iconst 4, 0, 0, 4), (.anewarray 9, 5, 4, 0), (.putfield 11, 1, 0, 5), (.aload_n 0, 0, 0, 0), (.iconst 0, 0, 0, 0), (.putfield 17, 1, 1, 0), (.iconst 0, 0, 0, 0), (.istore_n 1, 1, 0, 0), (.nop, 19, 0, 0)]
def bk_8_19 : List mIns := [(.iload_n 1, 1, 0, 0), (.iconst 4, 0, 0, 4), (.if_icmp .ge 22, 43, 0, 0), (.aload_n 0, 0, 0, 0), (.getfield 11, 1, 0, 2), (.iload_n 1, 1, 0, 0), (.new 9, 4, 9, 0), (.dup, 0, 0, 0), (.invokespecial 21, 24, 1, 1), (.aastore, 5, 4, 0), (.iinc 1 1, 1, 0, 1), (.goto (-21), 19, 0, 0)]
def bk_8_43 : List mIns := [(.return_, 0, 0, 0)]
def bk_9_0 : List mIns := [(.aload_n 0, 0, 0, 0), (.getfield 17, 1, 1, 0), (.iconst 4, 0, 0, 4), (.if_icmp .ne 7, 12, 0, 0), (.aload_n 0, 0, 0, 0), (.invokevirtual 22, 10, 1, 0), (.nop, 12, 0, 0)]
def bk_9_12 : List mIns := [(.aload_n 0, 0, 0, 0), (.getfield 11, 1, 0, 2), (.aload_n 0, 0, 0, 0), (.getfield 17, 1, 1, 0), (.aaload, 5, 4, 0), (.aload_n 1, 1, 0, 0), (.invokevirtual 25, 25, 2, 0), (.aload_n 0, 0, 0, 0), (.dup, 0, 0, 0), (.getfield 17, 1, 1, 0), (.iconst 1, 0, 0, 1), (.iadd, 0, 0, 0), (.putfield 17, 1, 1, 0), (.return_, 0, 0, 0)]
def bk_10_0 : List mIns := [(.aload_n 0, 0, 0, 0), (.getfield 11, 1, 0, 2), (.iconst 0, 0, 0, 0), (.aaload, 5, 4, 0), (.astore_n 1, 1, 0, 0), (.iconst 1, 0, 0, 1), (.istore_n 2, 2, 0, 0), (.nop, 9, 0, 0)]
def bk_10_9 : List mIns := [(.iload_n 2, 2, 0, 0), (.iconst 4, 0, 0, 4), (.if_icmp .ge 23, 34, 0, 0), (.aload_n 0, 0, 0, 0), (.getfield 11, 1, 0, 2), (.iload_n 2, 2, 0, 0), (.iconst 1, 0, 0, 1), (.isub, 0, 0, 0), (.aload_n 0, 0, 0, 0), (.getfield 11, 1, 0, 2), (.iload_n 2, 2, 0, 0), (.aaload, 5, 4, 0), (.aastore, 5, 4, 0), (.iinc 2 1, 2, 0, 1), (.goto (-22), 9, 0, 0)]
def bk_10_34 : List mIns := [(.aload_n 0, 0, 0, 0), (.getfield 11, 1, 0, 2), (.iconst 3, 0, 0, 3), (.aload_n 1, 1, 0, 0), (.aastore, 5, 4, 0), (.aload_n 0, 0, 0, 0), (.iconst 3, 0, 0, 3), (.putfield 17, 1, 1, 0), (.return_, 0, 0, 0)]
def bk_11_0 : List mIns := [(.aload_n 0, 0, 0, 0), (.getfield 17, 1, 1, 0), (.ifCond .ne 5, 9, 0, 0), (.iconst 0, 0, 0, 0), (.ireturn, 0, 0, 1)]
def bk_11_9 : List mIns := [(.aload_n 0, 0, 0, 0), (.dup, 0, 0, 0), (.getfield 17, 1, 1, 0), (.iconst 1, 0, 0, 1), (.isub, 0, 0, 0), (.putfield 17, 1, 1, 0), (.aload_n 1, 1, 0, 0), (.aload_n 0, 0, 0, 0), (.getfield 11, 1, 0, 2), (.aload_n 0, 0, 0, 0), (.getfield 17, 1, 1, 0), (.aaload, 5, 4, 0), (.invokevirtual 25, 25, 2, 0), (.iconst 1, 0, 0, 1), (.ireturn, 0, 0, 1)]
def bk_12_0 : List mIns := [(.aload_n 0, 0, 0, 0), (.invokespecial 3, 0, 0, 0), (.aload_n 0, 0, 0, 0), (.bipush 10, 0, 0, 10), (.newarray .int, 2, 0, 0), (.putfield 9, 2, 0, 5), (.aload_n 0, 0, 0, 0), (.bipush 10, 0, 0, 10), (.newarray .int, 2, 0, 0), (.putfield 15, 2, 1, 5), (.aload_n 0, 0, 0, 0), (.bipush 10, 0, 0, 10), (.newarray .int, 2, 0, 0), (.putfield 18, 2, 2, 5), (.aload_n 0, 0, 0, 0), (.iconst 0, 0, 0, 0), (.putfield 21, 2, 3, 0), (.return_, 0, 0, 0)]
def bk_13_0 : List mIns := [(.aload_n 1, 1, 0, 0), (.getfield 9, 2, 0, 2), (.iconst 0, 0, 0, 0), (.aload_n 0, 0, 0, 0), (.getfield 9, 2, 0, 2), (.iconst 0, 0, 0, 0), (.bipush 10, 0, 0, 10), (.invokestatic 25, 0, 0, 2), (.aload_n 1, 1, 0, 0), (.getfield 15, 2, 1, 2), (.iconst 0, 0, 0, 0), (.aload_n 0, 0, 0, 0), (.getfield 15, 2, 1, 2), (.iconst 0, 0, 0, 0), (.bipush 10, 0, 0, 10), (.invokestatic 25, 0, 0, 2), (.aload_n 1, 1, 0, 0), (.getfield 18, 2, 2, 2), (.iconst 0, 0, 0, 0), (.aload_n 0, 0, 0, 0), (.getfield 18, 2, 2, 2), (.iconst 0, 0, 0, 0), (.bipush 10, 0, 0, 10), (.invokestatic 25, 0, 0, 2), (.aload_n 0, 0, 0, 0), (.aload_n 1, 1, 0, 0), (.getfield 21, 2, 3, 0), (.putfield 21, 2, 3, 0), (.return_, 0, 0, 0)]
def bk_14_0 : List mIns := [(.aload_n 0, 0, 0, 0), (.getfield 21, 2, 3, 0), (.bipush 10, 0, 0, 10), (.if_icmp .ne 7, 13, 0, 0), (.aload_n 0, 0, 0, 0), (.invokevirtual 31, 15, 1, 0), (.nop, 13, 0, 0)]
def bk_14_13 : List mIns := [(.aload_n 0, 0, 0, 0), (.getfield 9, 2, 0, 2), (.aload_n 0, 0, 0, 0), (.getfield 21, 2, 3, 0), (.iload_n 1, 1, 0, 0), (.iastore, 0, 0, 0), (.aload_n 0, 0, 0, 0), (.getfield 15, 2, 1, 2), (.aload_n 0, 0, 0, 0), (.getfield 21, 2, 3, 0), (.iload_n 2, 2, 0, 0), (.iastore, 0, 0, 0), (.aload_n 0, 0, 0, 0), (.getfield 18, 2, 2, 2), (.aload_n 0, 0, 0, 0), (.getfield 21, 2, 3, 0), (.iload_n 3, 3, 0, 0), (.iastore, 0, 0, 0), (.aload_n 0, 0, 0, 0), (.dup, 0, 0, 0), (.getfield 21, 2, 3, 0), (.iconst 1, 0, 0, 1), (.iadd, 0, 0, 0), (.putfield 21, 2, 3, 0), (.return_, 0, 0, 0)]
def bk_15_0 : List mIns := [(.aload_n 0, 0, 0, 0), (.getfield 9, 2, 0, 2), (.iconst 1, 0, 0, 1), (.aload_n 0, 0, 0, 0), (.getfield 9, 2, 0, 2), (.iconst 0, 0, 0, 0), (.bipush 9, 0, 0, 9), (.invokestatic 25, 0, 0, 2), (.aload_n 0, 0, 0, 0), (.getfield 15, 2, 1, 2), (.iconst 1, 0, 0, 1), (.aload_n 0, 0, 0, 0), (.getfield 15, 2, 1, 2), (.iconst 0, 0, 0, 0), (.bipush 9, 0, 0, 9), (.invokestatic 25, 0, 0, 2), (.aload_n 0, 0, 0, 0), (.getfield 18, 2, 2, 2), (.iconst 1, 0, 0, 1), (.aload_n 0, 0, 0, 0), (.getfield 18, 2, 2, 2), (.iconst 0, 0, 0, 0), (.bipush 9, 0, 0, 9), (.invokestatic 25, 0, 0, 2), (.aload_n 0, 0, 0, 0), (.bipush 9, 0, 0, 9), (.putfield 21, 2, 3, 0), (.return_, 0, 0, 0)]
def bk_16_0 : List mIns := [(.iload_n 1, 1, 0, 0), (.ifCond .lt 11, 12, 0, 0), (.iload_n 1, 1, 0, 0), (.aload_n 0, 0, 0, 0), (.getfield 21, 2, 3, 0), (.if_icmp .lt 6, 15, 0, 0), (.nop, 12, 0, 0)]
def bk_16_12 : List mIns := [(.bipush (-5), 0, 0, (-5)), (.ireturn, 0, 0, 0)]
def bk_16_15 : List mIns := [(.aload_n 0, 0, 0, 0), (.getfield 21, 2, 3, 0), (.iconst 1, 0, 0, 1), (.isub, 0, 0, 0), (.iload_n 1, 1, 0, 0), (.isub, 0, 0, 0), (.istore_n 3, 3, 0, 0), (.iload_n 2, 2, 0, 0), (.ifCond .ne 10, 35, 0, 0), (.aload_n 0, 0, 0, 0), (.getfield 9, 2, 0, 2), (.iload_n 3, 3, 0, 0), (.iaload, 0, 0, 0), (.ireturn, 0, 0, 0)]
def bk_16_35 : List mIns := [(.iload_n 2, 2, 0, 0), (.iconst 1, 0, 0, 1), (.if_icmp .ne 12, 49, 0, 0), (.aload_n 0, 0, 0, 0), (.getfield 15, 2, 1, 2), (.iload_n 3, 3, 0, 0), (.iaload, 0, 0, 0), (.goto 9, 55, 0, 0)]
def bk_16_49 : List mIns := [(.aload_n 0, 0, 0, 0), (.getfield 18, 2, 2, 2), (.iload_n 3, 3, 0, 0), (.iaload, 0, 0, 0), (.nop, 55, 0, 0)]
def bk_16_55 : List mIns := [(.ireturn, 0, 0, 0)]
def bk_17_0 : List mIns := [(.aload_n 0, 0, 0, 0), (.invokespecial 3, 0, 0, 0), (.aload_n 0, 0, 0, 0), (.bipush 30, 0, 0, 30), (.newarray .int, 2, 0, 0), (.putfield 9, 3, 0, 5), (.aload_n 0, 0, 0, 0), (.iconst 0, 0, 0, 0), (.putfield 15, 3, 1, 0), (.aload_n 0, 0, 0, 0), (.iconst 0, 0, 0, 0), (.putfield 19, 3, 2, 0), (.aload_n 0, 0, 0, 0), (.iconst (-1), 0, 0, (-1)), (.putfield 22, 3, 3, 0), (.return_, 0, 0, 0)]
def bk_18_0 : List mIns := [(.aload_n 0, 0, 0, 0), (.iconst 0, 0, 0, 0), (.putfield 15, 3, 1, 0), (.aload_n 0, 0, 0, 0), (.iconst 0, 0, 0, 0), (.putfield 19, 3, 2, 0), (.aload_n 0, 0, 0, 0), (.iconst (-1), 0, 0, (-1)), (.putfield 22, 3, 3, 0), (.aload_n 1, 1, 0, 0), (.getfield 25, 6, 0, 2), (.iconst 0, 0, 0, 0), (.iaload, 0, 0, 0), (.istore_n 3, 3, 0, 0), (.iconst 0, 0, 0, 0), (.istore 4, 4, 0, 0), (.nop, 25, 0, 0)]
def bk_18_25 : List mIns := [(.iload 4, 4, 0, 0), (.aload_n 1, 1, 0, 0), (.getfield 30, 6, 5, 0), (.if_icmp .ge 100, 131, 0, 0), (.iload 4, 4, 0, 0), (.bipush 30, 0, 0, 30), (.if_icmp .ge 93, 131, 0, 0), (.aload_n 1, 1, 0, 0), (.getfield 25, 6, 0, 2), (.iload 4, 4, 0, 0), (.iconst 1, 0, 0, 1), (.iadd, 0, 0, 0), (.iaload, 0, 0, 0), (.istore 5, 5, 0, 0), (.iload_n 2, 2, 0, 0), (.iconst 2, 0, 0, 2), (.if_icmp .ne 10, 64, 0, 0), (.aload_n 1, 1, 0, 0), (.iload 4, 4, 0, 0), (.invokestatic 33, 19, 2, 0), (.istore_n 3, 3, 0, 0), (.nop, 64, 0, 0)]
def bk_18_64 : List mIns := [(.iload 5, 5, 0, 0), (.iload_n 3, 3, 0, 0), (.invokestatic 37, 20, 2, 0), (.istore 6, 6, 0, 0), (.iload_n 2, 2, 0, 0), (.iconst 1, 0, 0, 1), (.if_icmp .ne 25, 99, 0, 0), (.iload 6, 6, 0, 0), (.iconst (-1), 0, 0, (-1)), (.if_icmp .eq 19, 99, 0, 0), (.iconst 3, 0, 0, 3), (.iload_n 3, 3, 0, 0), (.imul, 0, 0, 0), (.iconst 5, 0, 0, 5), (.iload 5, 5, 0, 0), (.imul, 0, 0, 0), (.iload 6, 6, 0, 0), (.iconst 2, 0, 0, 2), (.iadd, 0, 0, 0), (.idiv, 0, 0, 0), (.iadd, 0, 0, 0), (.iconst 4, 0, 0, 4), (.idiv, 0, 0, 0), (.istore_n 3, 3, 0, 0), (.nop, 99, 0, 0)]
def bk_18_99 : List mIns := [(.aload_n 0, 0, 0, 0), (.getfield 9, 3, 0, 2), (.iload 4, 4, 0, 0), (.iload 6, 6, 0, 0), (.iastore, 0, 0, 0), (.aload_n 0, 0, 0, 0), (.iload 4, 4, 0, 0), (.iload 6, 6, 0, 0), (.aload_n 1, 1, 0, 0), (.getfield 41, 6, 2, 2), (.iload 4, 4, 0, 0), (.iconst 1, 0, 0, 1), (.iadd, 0, 0, 0), (.iaload, 0, 0, 0), (.invokevirtual 44, 21, 4, 0), (.iinc 4 1, 4, 0, 1), (.goto (-103), 25, 0, 0)]
def bk_18_131 : List mIns := [(.return_, 0, 0, 0)]
def bk_19_0 : List mIns := [(.aload_n 0, 0, 0, 0), (.getfield 25, 6, 0, 2), (.iconst 0, 0, 0, 0), (.iaload, 0, 0, 0), (.istore_n 2, 2, 0, 0), (.aload_n 0, 0, 0, 0), (.getfield 48, 6, 4, 1), (.ifCond .ne 5, 16, 0, 0), (.iload_n 2, 2, 0, 0), (.ireturn, 0, 0, 0)]
def bk_19_16 : List mIns := [(.aload_n 0, 0, 0, 0), (.getfield 25, 6, 0, 2), (.aload_n 0, 0, 0, 0), (.getfield 30, 6, 5, 0), (.iconst 1, 0, 0, 1), (.iadd, 0, 0, 0), (.iaload, 0, 0, 0), (.istore_n 3, 3, 0, 0), (.iload_n 2, 2, 0, 0), (.iload_n 3, 3, 0, 0), (.iload_n 2, 2, 0, 0), (.isub, 0, 0, 0), (.iload_n 1, 1, 0, 0), (.iconst 1, 0, 0, 1), (.iadd, 0, 0, 0), (.imul, 0, 0, 0), (.aload_n 0, 0, 0, 0), (.getfield 30, 6, 5, 0), (.iconst 1, 0, 0, 1), (.iadd, 0, 0, 0), (.idiv, 0, 0, 0), (.iadd, 0, 0, 0), (.ireturn, 0, 0, 0)]
def bk_20_0 : List mIns := [(.iload_n 1, 1, 0, 0), (.ifCond .gt 5, 6, 0, 0), (.iconst (-1), 0, 0, (-1)), (.ireturn, 0, 0, 0)]
def bk_20_6 : List mIns := [(.bipush 10, 0, 0, 10), (.iload_n 0, 0, 0, 0), (.imul, 0, 0, 0), (.iload_n 1, 1, 0, 0), (.iadd, 0, 0, 0), (.iconst 2, 0, 0, 2), (.iload_n 1, 1, 0, 0), (.imul, 0, 0, 0), (.idiv, 0, 0, 0), (.iconst 2, 0, 0, 2), (.isub, 0, 0, 0), (.istore_n 2, 2, 0, 0), (.iload_n 2, 2, 0, 0), (.ifCond .lt 13, 33, 0, 0), (.iload_n 2, 2, 0, 0), (.bipush 7, 0, 0, 7), (.if_icmp .gt 7, 33, 0, 0), (.iload_n 2, 2, 0, 0), (.goto 4, 34, 0, 0)]
def bk_20_33 : List mIns := [(.iconst (-1), 0, 0, (-1)), (.nop, 34, 0, 0)]
def bk_20_34 : List mIns := [(.ireturn, 0, 0, 0)]
def bk_21_0 : List mIns := [(.iload_n 2, 2, 0, 0), (.iload_n 3, 3, 0, 0), (.if_icmp .ne 4, 6, 0, 0), (.return_, 0, 0, 0)]
def bk_21_6 : List mIns := [(.iload_n 2, 2, 0, 0), (.iconst (-1), 0, 0, (-1)), (.if_icmp .ne 16, 24, 0, 0), (.aload_n 0, 0, 0, 0), (.dup, 0, 0, 0), (.getfield 19, 3, 2, 0), (.iconst 1, 0, 0, 1), (.iadd, 0, 0, 0), (.putfield 19, 3, 2, 0), (.goto 13, 34, 0, 0)]
def bk_21_24 : List mIns := [(.aload_n 0, 0, 0, 0), (.dup, 0, 0, 0), (.getfield 15, 3, 1, 0), (.iconst 1, 0, 0, 1), (.iadd, 0, 0, 0), (.putfield 15, 3, 1, 0), (.nop, 34, 0, 0)]
def bk_21_34 : List mIns := [(.aload_n 0, 0, 0, 0), (.getfield 22, 3, 3, 0), (.iconst (-1), 0, 0, (-1)), (.if_icmp .ne 8, 47, 0, 0), (.aload_n 0, 0, 0, 0), (.iload_n 1, 1, 0, 0), (.putfield 22, 3, 3, 0), (.nop, 47, 0, 0)]
def bk_21_47 : List mIns := [(.return_, 0, 0, 0)]
def bk_22_0 : List mIns := [(.aload_n 0, 0, 0, 0), (.getfield 15, 3, 1, 0), (.aload_n 0, 0, 0, 0), (.getfield 19, 3, 2, 0), (.iadd, 0, 0, 0), (.ireturn, 0, 0, 0)]
def bk_23_0 : List mIns := [(.iconst 0, 0, 0, 0), (.istore_n 3, 3, 0, 0), (.nop, 2, 0, 0)]
def bk_23_2 : List mIns := [(.iload_n 3, 3, 0, 0), (.iload_n 2, 2, 0, 0), (.if_icmp .ge 32, 36, 0, 0), (.iload_n 3, 3, 0, 0), (.bipush 30, 0, 0, 30), (.if_icmp .ge 26, 36, 0, 0), (.aload_n 0, 0, 0, 0), (.getfield 9, 3, 0, 2), (.iload_n 3, 3, 0, 0), (.iaload, 0, 0, 0), (.aload_n 1, 1, 0, 0), (.getfield 9, 3, 0, 2), (.iload_n 3, 3, 0, 0), (.iaload, 0, 0, 0), (.if_icmp .eq 5, 30, 0, 0), (.iconst 0, 0, 0, 0), (.ireturn, 0, 0, 1)]
def bk_23_30 : List mIns := [(.iinc 3 1, 3, 0, 1), (.goto (-31), 2, 0, 0)]
def bk_23_36 : List mIns := [(.iconst 1, 0, 0, 1), (.ireturn, 0, 0, 1)]
def bk_24_0 : List mIns := [(.aload_n 0, 0, 0, 0), (.invokespecial 3, 0, 0, 0), (.aload_n 0, 0, 0, 0), (.bipush 6, 0, 0, 6), (.anewarray 9, 4, 6, 0), (.putfield 11, 4, 0, 5), (.aload_n 0, 0, 0, 0), (.new 17, 2, 4, 0), (.dup, 0, 0, 0), (.invokespecial 19, 12, 1, 1), (.putfield 20, 4, 1, 5), (.aload_n 0, 0, 0, 0), (.iconst 0, 0, 0, 0), (.putfield 24, 4, 2, 0), (.aload_n 0, 0, 0, 0), (.sipush 130, 0, 0, 130), (.putfield 28, 4, 3, 0), (.aload_n 0, 0, 0, 0), (.iconst 0, 0, 0, 0), (.putfield 31, 4, 4, 0), (.aload_n 0, 0, 0, 0), (.iconst 0, 0, 0, 0), (.putfield 34, 4, 5, 0), (.aload_n 0, 0, 0, 0), (.iconst 0, 0, 0, 0), (.putfield 37, 4, 6, 0), (.aload_n 0, 0, 0, 0), (.iconst 0, 0, 0, 0), (.putfield 40, 4, 7, 0), (.aload_n 0, 0, 0, 0), (.iconst 0, 0, 0, 0), (.putfield 43, 4, 8, 0), (.iconst 0, 0, 0, 0), (.istore_n 1, 1, 0, 0), (.nop, 63, 0, 0)]
def bk_24_63 : List mIns := [(.iload_n 1, 1, 0, 0), (.bipush 6, 0, 0, 6), (.if_icmp .ge 22, 88, 0, 0), (.aload_n 0, 0, 0, 0), (.getfield 11, 4, 0, 2), (.iload_n 1, 1, 0, 0), (.new 9, 6, 7, 0), (.dup, 0, 0, 0), (.invokespecial 46, 35, 1, 1), (.aastore, 4, 6, 0), (.iinc 1 1, 1, 0, 1), (.goto (-22), 63, 0, 0)]
def bk_24_88 : List mIns := [(.return_, 0, 0, 0)]
def bk_25_0 : List mIns := [(.iconst 0, 0, 0, 0), (.istore_n 2, 2, 0, 0), (.nop, 2, 0, 0)]
def bk_25_2 : List mIns := [(.iload_n 2, 2, 0, 0), (.bipush 6, 0, 0, 6), (.if_icmp .ge 24, 29, 0, 0), (.aload_n 0, 0, 0, 0), (.getfield 11, 4, 0, 2), (.iload_n 2, 2, 0, 0), (.aaload, 4, 6, 0), (.aload_n 1, 1, 0, 0), (.getfield 11, 4, 0, 2), (.iload_n 2, 2, 0, 0), (.aaload, 4, 6, 0), (.invokevirtual 47, 36, 2, 0), (.iinc 2 1, 2, 0, 1), (.goto (-24), 2, 0, 0)]
def bk_25_29 : List mIns := [(.aload_n 0, 0, 0, 0), (.getfield 20, 4, 1, 2), (.aload_n 1, 1, 0, 0), (.getfield 20, 4, 1, 2), (.invokevirtual 51, 13, 2, 0), (.aload_n 0, 0, 0, 0), (.aload_n 1, 1, 0, 0), (.getfield 24, 4, 2, 0), (.putfield 24, 4, 2, 0), (.aload_n 0, 0, 0, 0), (.aload_n 1, 1, 0, 0), (.getfield 28, 4, 3, 0), (.putfield 28, 4, 3, 0), (.aload_n 0, 0, 0, 0), (.aload_n 1, 1, 0, 0), (.getfield 31, 4, 4, 0), (.putfield 31, 4, 4, 0), (.aload_n 0, 0, 0, 0), (.aload_n 1, 1, 0, 0), (.getfield 34, 4, 5, 0), (.putfield 34, 4, 5, 0), (.aload_n 0, 0, 0, 0), (.aload_n 1, 1, 0, 0), (.getfield 37, 4, 6, 0), (.putfield 37, 4, 6, 0), (.aload_n 0, 0, 0, 0), (.aload_n 1, 1, 0, 0), (.getfield 40, 4, 7, 0), (.putfield 40, 4, 7, 0), (.aload_n 0, 0, 0, 0), (.aload_n 1, 1, 0, 0), (.getfield 43, 4, 8, 0), (.putfield 43, 4, 8, 0), (.return_, 0, 0, 0)]
def bk_26_0 : List mIns := [(.iconst 0, 0, 0, 0), (.istore_n 1, 1, 0, 0), (.iconst 0, 0, 0, 0), (.istore_n 2, 2, 0, 0), (.nop, 4, 0, 0)]
def bk_26_4 : List mIns := [(.iload_n 2, 2, 0, 0), (.bipush 6, 0, 0, 6), (.if_icmp .ge 24, 31, 0, 0), (.aload_n 0, 0, 0, 0), (.getfield 11, 4, 0, 2), (.iload_n 2, 2, 0, 0), (.aaload, 4, 6, 0), (.getfield 54, 6, 3, 1), (.ifCond .eq 6, 25, 0, 0), (.iinc 1 1, 1, 0, 1), (.nop, 25, 0, 0)]
def bk_26_25 : List mIns := [(.iinc 2 1, 2, 0, 1), (.goto (-24), 4, 0, 0)]
def bk_26_31 : List mIns := [(.iload_n 1, 1, 0, 0), (.ireturn, 0, 0, 0)]
def bk_27_0 : List mIns := [(.iconst 0, 0, 0, 0), (.istore_n 1, 1, 0, 0), (.iconst 0, 0, 0, 0), (.istore_n 2, 2, 0, 0), (.nop, 4, 0, 0)]
def bk_27_4 : List mIns := [(.iload_n 2, 2, 0, 0), (.bipush 6, 0, 0, 6), (.if_icmp .ge 21, 28, 0, 0), (.iload_n 1, 1, 0, 0), (.aload_n 0, 0, 0, 0), (.getfield 11, 4, 0, 2), (.iload_n 2, 2, 0, 0), (.aaload, 4, 6, 0), (.getfield 58, 6, 5, 0), (.iadd, 0, 0, 0), (.istore_n 1, 1, 0, 0), (.iinc 2 1, 2, 0, 1), (.goto (-21), 4, 0, 0)]
def bk_27_28 : List mIns := [(.iload_n 1, 1, 0, 0), (.ireturn, 0, 0, 0)]
def bk_28_0 : List mIns := [(.iconst 0, 0, 0, 0), (.istore_n 1, 1, 0, 0), (.nop, 2, 0, 0)]
def bk_28_2 : List mIns := [(.iload_n 1, 1, 0, 0), (.bipush 6, 0, 0, 6), (.if_icmp .ge 23, 28, 0, 0), (.aload_n 0, 0, 0, 0), (.getfield 11, 4, 0, 2), (.iload_n 1, 1, 0, 0), (.aaload, 4, 6, 0), (.getfield 54, 6, 3, 1), (.ifCond .ne 5, 22, 0, 0), (.iload_n 1, 1, 0, 0), (.ireturn, 0, 0, 0)]
def bk_28_22 : List mIns := [(.iinc 1 1, 1, 0, 1), (.goto (-23), 2, 0, 0)]
def bk_28_28 : List mIns := [(.bipush 6, 0, 0, 6), (.ireturn, 0, 0, 0)]
def bk_29_0 : List mIns := [(.iconst 1, 0, 0, 1), (.istore 4, 4, 0, 0), (.nop, 3, 0, 0)]
def bk_29_3 : List mIns := [(.iload 4, 4, 0, 0), (.iload_n 3, 3, 0, 0), (.if_icmp .gt 93, 99, 0, 0), (.aload_n 0, 0, 0, 0), (.getfield 11, 4, 0, 2), (.iload_n 1, 1, 0, 0), (.aaload, 4, 6, 0), (.aload_n 0, 0, 0, 0), (.getfield 24, 4, 2, 0), (.aload_n 0, 0, 0, 0), (.getfield 28, 4, 3, 0), (.iload_n 2, 2, 0, 0), (.invokevirtual 61, 51, 4, 0), (.istore 5, 5, 0, 0), (.aload_n 0, 0, 0, 0), (.getfield 11, 4, 0, 2), (.iload_n 1, 1, 0, 0), (.aaload, 4, 6, 0), (.dup, 0, 0, 0), (.getfield 65, 6, 6, 0), (.iconst 1, 0, 0, 1), (.iadd, 0, 0, 0), (.putfield 65, 6, 6, 0), (.aload_n 0, 0, 0, 0), (.dup, 0, 0, 0), (.getfield 37, 4, 6, 0), (.iconst 1, 0, 0, 1), (.iadd, 0, 0, 0), (.putfield 37, 4, 6, 0), (.aload_n 0, 0, 0, 0), (.dup, 0, 0, 0), (.getfield 31, 4, 4, 0), (.bipush 10, 0, 0, 10), (.iload_n 2, 2, 0, 0), (.isub, 0, 0, 0), (.iadd, 0, 0, 0), (.putfield 31, 4, 4, 0), (.aload_n 0, 0, 0, 0), (.getfield 20, 4, 1, 2), (.iconst 1, 0, 0, 1), (.iload_n 1, 1, 0, 0), (.iload_n 2, 2, 0, 0), (.invokevirtual 66, 14, 4, 0), (.iload 5, 5, 0, 0), (.iconst (-1), 0, 0, (-1)), (.if_icmp .eq 13, 93, 0, 0), (.aload_n 0, 0, 0, 0), (.iload_n 1, 1, 0, 0), (.iload 5, 5, 0, 0), (.invokevirtual 70, 30, 3, 0), (.iload 4, 4, 0, 0), (.ireturn, 0, 0, 0)]
def bk_29_93 : List mIns := [(.iinc 4 1, 4, 0, 1), (.goto (-93), 3, 0, 0)]
def bk_29_99 : List mIns := [(.iload_n 3, 3, 0, 0), (.ireturn, 0, 0, 0)]
def bk_30_0 : List mIns := [(.aload_n 0, 0, 0, 0), (.getfield 11, 4, 0, 2), (.iload_n 1, 1, 0, 0), (.aaload, 4, 6, 0), (.astore_n 3, 3, 0, 0), (.aload_n 3, 3, 0, 0), (.invokevirtual 74, 37, 1, 0), (.iload_n 2, 2, 0, 0), (.isub, 0, 0, 0), (.istore 4, 4, 0, 0), (.aload_n 3, 3, 0, 0), (.getfield 58, 6, 5, 0), (.istore 5, 5, 0, 0), (.aload_n 3, 3, 0, 0), (.iload_n 2, 2, 0, 0), (.invokevirtual 78, 52, 2, 0), (.aload_n 0, 0, 0, 0), (.dup, 0, 0, 0), (.getfield 40, 4, 7, 0), (.iconst 1, 0, 0, 1), (.iadd, 0, 0, 0), (.putfield 40, 4, 7, 0), (.aload_n 0, 0, 0, 0), (.dup, 0, 0, 0), (.getfield 43, 4, 8, 0), (.iload 5, 5, 0, 0), (.aload_n 3, 3, 0, 0), (.getfield 58, 6, 5, 0), (.isub, 0, 0, 0), (.iadd, 0, 0, 0), (.putfield 43, 4, 8, 0), (.aload_n 0, 0, 0, 0), (.getfield 20, 4, 1, 2), (.iconst 2, 0, 0, 2), (.iload_n 1, 1, 0, 0), (.iload 4, 4, 0, 0), (.invokevirtual 66, 14, 4, 0), (.return_, 0, 0, 0)]
def bk_31_0 : List mIns := [(.aload_n 0, 0, 0, 0), (.invokespecial 3, 0, 0, 0), (.aload_n 0, 0, 0, 0), (.bipush 50, 0, 0, 50), (.newarray .char, 3, 0, 0), (.putfield 9, 5, 0, 5), (.aload_n 0, 0, 0, 0), (.iconst 0, 0, 0, 0), (.putfield 15, 5, 1, 0), (.return_, 0, 0, 0)]
def bk_32_0 : List mIns := [(.aload_n 0, 0, 0, 0), (.getfield 15, 5, 1, 0), (.bipush 50, 0, 0, 50), (.if_icmp .lt 5, 11, 0, 0), (.iconst 0, 0, 0, 0), (.ireturn, 0, 0, 1)]
def bk_32_11 : List mIns := [(.aload_n 0, 0, 0, 0), (.getfield 9, 5, 0, 2), (.aload_n 0, 0, 0, 0), (.getfield 15, 5, 1, 0), (.iload_n 1, 1, 0, 0), (.castore, 0, 0, 0), (.aload_n 0, 0, 0, 0), (.dup, 0, 0, 0), (.getfield 15, 5, 1, 0), (.iconst 1, 0, 0, 1), (.iadd, 0, 0, 0), (.putfield 15, 5, 1, 0), (.iconst 1, 0, 0, 1), (.ireturn, 0, 0, 1)]
def bk_33_0 : List mIns := [(.iload_n 1, 1, 0, 0), (.ifCond .lt 11, 12, 0, 0), (.iload_n 1, 1, 0, 0), (.aload_n 0, 0, 0, 0), (.getfield 15, 5, 1, 0), (.if_icmp .lt 5, 14, 0, 0), (.nop, 12, 0, 0)]
def bk_33_12 : List mIns := [(.iconst (-1), 0, 0, (-1)), (.ireturn, 0, 0, 0)]
def bk_33_14 : List mIns := [(.aload_n 0, 0, 0, 0), (.getfield 9, 5, 0, 2), (.iload_n 1, 1, 0, 0), (.caload, 0, 0, 0), (.ireturn, 0, 0, 0)]
def bk_34_0 : List mIns := [(.aload_n 1, 1, 0, 0), (.invokevirtual 19, 144, 1, 0), (.iload_n 2, 2, 0, 0), (.if_icmp .eq 5, 10, 0, 0), (.iconst 0, 0, 0, 0), (.ireturn, 0, 0, 1)]
def bk_34_10 : List mIns := [(.iconst 0, 0, 0, 0), (.istore_n 3, 3, 0, 0), (.nop, 12, 0, 0)]
def bk_34_12 : List mIns := [(.iload_n 3, 3, 0, 0), (.iload_n 2, 2, 0, 0), (.if_icmp .ge 24, 38, 0, 0), (.aload_n 0, 0, 0, 0), (.iload_n 3, 3, 0, 0), (.invokevirtual 25, 33, 2, 0), (.aload_n 1, 1, 0, 0), (.iload_n 3, 3, 0, 0), (.invokevirtual 29, 145, 2, 0), (.if_icmp .eq 5, 32, 0, 0), (.iconst 0, 0, 0, 0), (.ireturn, 0, 0, 1)]
def bk_34_32 : List mIns := [(.iinc 3 1, 3, 0, 1), (.goto (-23), 12, 0, 0)]
def bk_34_38 : List mIns := [(.iconst 1, 0, 0, 1), (.ireturn, 0, 0, 1)]
def bk_35_0 : List mIns := [(.aload_n 0, 0, 0, 0), (.invokespecial 3, 0, 0, 0), (.aload_n 0, 0, 0, 0), (.bipush 32, 0, 0, 32), (.newarray .int, 2, 0, 0), (.putfield 9, 6, 0, 5), (.aload_n 0, 0, 0, 0), (.bipush 32, 0, 0, 32), (.newarray .int, 2, 0, 0), (.putfield 15, 6, 1, 5), (.aload_n 0, 0, 0, 0), (.bipush 32, 0, 0, 32), (.newarray .int, 2, 0, 0), (.putfield 18, 6, 2, 5), (.aload_n 0, 0, 0, 0), (.iconst 0, 0, 0, 0), (.putfield 21, 6, 3, 1), (.aload_n 0, 0, 0, 0), (.iconst 0, 0, 0, 0), (.putfield 25, 6, 4, 1), (.aload_n 0, 0, 0, 0), (.iconst 0, 0, 0, 0), (.putfield 28, 6, 5, 0), (.aload_n 0, 0, 0, 0), (.iconst 0, 0, 0, 0), (.putfield 32, 6, 6, 0), (.return_, 0, 0, 0)]
def bk_36_0 : List mIns := [(.aload_n 1, 1, 0, 0), (.getfield 9, 6, 0, 2), (.iconst 0, 0, 0, 0), (.aload_n 0, 0, 0, 0), (.getfield 9, 6, 0, 2), (.iconst 0, 0, 0, 0), (.bipush 32, 0, 0, 32), (.invokestatic 35, 0, 0, 2), (.aload_n 1, 1, 0, 0), (.getfield 15, 6, 1, 2), (.iconst 0, 0, 0, 0), (.aload_n 0, 0, 0, 0), (.getfield 15, 6, 1, 2), (.iconst 0, 0, 0, 0), (.bipush 32, 0, 0, 32), (.invokestatic 35, 0, 0, 2), (.aload_n 1, 1, 0, 0), (.getfield 18, 6, 2, 2), (.iconst 0, 0, 0, 0), (.aload_n 0, 0, 0, 0), (.getfield 18, 6, 2, 2), (.iconst 0, 0, 0, 0), (.bipush 32, 0, 0, 32), (.invokestatic 35, 0, 0, 2), (.aload_n 0, 0, 0, 0), (.aload_n 1, 1, 0, 0), (.getfield 21, 6, 3, 1), (.putfield 21, 6, 3, 1), (.aload_n 0, 0, 0, 0), (.aload_n 1, 1, 0, 0), (.getfield 25, 6, 4, 1), (.putfield 25, 6, 4, 1), (.aload_n 0, 0, 0, 0), (.aload_n 1, 1, 0, 0), (.getfield 28, 6, 5, 0), (.putfield 28, 6, 5, 0), (.aload_n 0, 0, 0, 0), (.aload_n 1, 1, 0, 0), (.getfield 32, 6, 6, 0), (.putfield 32, 6, 6, 0), (.return_, 0, 0, 0)]
def bk_37_0 : List mIns := [(.aload_n 0, 0, 0, 0), (.getfield 21, 6, 3, 1), (.ifCond .ne 5, 9, 0, 0), (.iconst 0, 0, 0, 0), (.ireturn, 0, 0, 0)]
def bk_37_9 : List mIns := [(.aload_n 0, 0, 0, 0), (.getfield 25, 6, 4, 1), (.ifCond .eq 12, 25, 0, 0), (.aload_n 0, 0, 0, 0), (.getfield 28, 6, 5, 0), (.iconst 2, 0, 0, 2), (.iadd, 0, 0, 0), (.goto 9, 31, 0, 0)]
def bk_37_25 : List mIns := [(.aload_n 0, 0, 0, 0), (.getfield 28, 6, 5, 0), (.iconst 1, 0, 0, 1), (.iadd, 0, 0, 0), (.nop, 31, 0, 0)]
def bk_37_31 : List mIns := [(.ireturn, 0, 0, 0)]
def bk_38_0 : List mIns := [(.iload_n 1, 1, 0, 0), (.ifCond .lt 15, 16, 0, 0), (.iload_n 1, 1, 0, 0), (.aload_n 0, 0, 0, 0), (.invokevirtual 41, 37, 1, 0), (.if_icmp .ge 7, 16, 0, 0), (.iconst 1, 0, 0, 1), (.goto 4, 17, 0, 0)]
def bk_38_16 : List mIns := [(.iconst 0, 0, 0, 0), (.nop, 17, 0, 0)]
def bk_38_17 : List mIns := [(.ireturn, 0, 0, 1)]
def bk_39_0 : List mIns := [(.iload_n 1, 1, 0, 0), (.ifCond .lt 15, 16, 0, 0), (.iload_n 1, 1, 0, 0), (.aload_n 0, 0, 0, 0), (.getfield 28, 6, 5, 0), (.if_icmp .ge 7, 16, 0, 0), (.iconst 1, 0, 0, 1), (.goto 4, 17, 0, 0)]
def bk_39_16 : List mIns := [(.iconst 0, 0, 0, 0), (.nop, 17, 0, 0)]
def bk_39_17 : List mIns := [(.ireturn, 0, 0, 1)]
def bk_40_0 : List mIns := [(.aload_n 0, 0, 0, 0), (.getfield 21, 6, 3, 1), (.ifCond .eq 19, 23, 0, 0), (.iload_n 1, 1, 0, 0), (.iconst 2, 0, 0, 2), (.if_icmp .ne 10, 19, 0, 0), (.aload_n 0, 0, 0, 0), (.getfield 25, 6, 4, 1), (.ifCond .eq 7, 23, 0, 0), (.nop, 19, 0, 0)]
def bk_40_19 : List mIns := [(.iconst 1, 0, 0, 1), (.goto 4, 24, 0, 0)]
def bk_40_23 : List mIns := [(.iconst 0, 0, 0, 0), (.nop, 24, 0, 0)]
def bk_40_24 : List mIns := [(.ireturn, 0, 0, 1)]
def bk_41_0 : List mIns := [(.aload_n 0, 0, 0, 0), (.iconst 0, 0, 0, 0), (.putfield 21, 6, 3, 1), (.aload_n 0, 0, 0, 0), (.iconst 0, 0, 0, 0), (.putfield 25, 6, 4, 1), (.aload_n 0, 0, 0, 0), (.iconst 0, 0, 0, 0), (.putfield 28, 6, 5, 0), (.aload_n 0, 0, 0, 0), (.iconst 0, 0, 0, 0), (.putfield 32, 6, 6, 0), (.return_, 0, 0, 0)]
def bk_42_0 : List mIns := [(.aload_n 0, 0, 0, 0), (.invokevirtual 45, 41, 1, 0), (.aload_n 0, 0, 0, 0), (.iconst 1, 0, 0, 1), (.putfield 21, 6, 3, 1), (.aload_n 0, 0, 0, 0), (.iconst 0, 0, 0, 0), (.sipush 5000, 0, 0, 5000), (.iconst (-1), 0, 0, (-1)), (.invokevirtual 48, 45, 4, 0), (.return_, 0, 0, 0)]
def bk_43_0 : List mIns := [(.aload_n 0, 0, 0, 0), (.getfield 28, 6, 5, 0), (.bipush 30, 0, 0, 30), (.if_icmp .ge 26, 32, 0, 0), (.aload_n 0, 0, 0, 0), (.dup, 0, 0, 0), (.getfield 28, 6, 5, 0), (.iconst 1, 0, 0, 1), (.iadd, 0, 0, 0), (.putfield 28, 6, 5, 0), (.aload_n 0, 0, 0, 0), (.aload_n 0, 0, 0, 0), (.getfield 28, 6, 5, 0), (.iload_n 1, 1, 0, 0), (.invokestatic 52, 86, 1, 0), (.iload_n 1, 1, 0, 0), (.invokevirtual 48, 45, 4, 0), (.nop, 32, 0, 0)]
def bk_43_32 : List mIns := [(.return_, 0, 0, 0)]
def bk_44_0 : List mIns := [(.aload_n 0, 0, 0, 0), (.iconst 1, 0, 0, 1), (.putfield 25, 6, 4, 1), (.aload_n 0, 0, 0, 0), (.aload_n 0, 0, 0, 0), (.getfield 28, 6, 5, 0), (.iconst 1, 0, 0, 1), (.iadd, 0, 0, 0), (.sipush 5000, 0, 0, 5000), (.iconst (-1), 0, 0, (-1)), (.invokevirtual 48, 45, 4, 0), (.return_, 0, 0, 0)]
def bk_45_0 : List mIns := [(.iload_n 1, 1, 0, 0), (.ifCond .lt 9, 10, 0, 0), (.iload_n 1, 1, 0, 0), (.bipush 32, 0, 0, 32), (.if_icmp .lt 4, 11, 0, 0), (.nop, 10, 0, 0)]
def bk_45_10 : List mIns := [(.return_, 0, 0, 0)]
def bk_45_11 : List mIns := [(.aload_n 0, 0, 0, 0), (.getfield 9, 6, 0, 2), (.iload_n 1, 1, 0, 0), (.iload_n 2, 2, 0, 0), (.iastore, 0, 0, 0), (.aload_n 0, 0, 0, 0), (.getfield 15, 6, 1, 2), (.iload_n 1, 1, 0, 0), (.iload_n 2, 2, 0, 0), (.iastore, 0, 0, 0), (.aload_n 0, 0, 0, 0), (.getfield 18, 6, 2, 2), (.iload_n 1, 1, 0, 0), (.iload_n 3, 3, 0, 0), (.iastore, 0, 0, 0), (.return_, 0, 0, 0)]
def bk_46_0 : List mIns := [(.aload_n 0, 0, 0, 0), (.getfield 9, 6, 0, 2), (.iload_n 3, 3, 0, 0), (.aload_n 1, 1, 0, 0), (.getfield 9, 6, 0, 2), (.iload_n 2, 2, 0, 0), (.iaload, 0, 0, 0), (.iastore, 0, 0, 0), (.aload_n 0, 0, 0, 0), (.getfield 15, 6, 1, 2), (.iload_n 3, 3, 0, 0), (.aload_n 1, 1, 0, 0), (.getfield 15, 6, 1, 2), (.iload_n 2, 2, 0, 0), (.iaload, 0, 0, 0), (.iastore, 0, 0, 0), (.aload_n 0, 0, 0, 0), (.getfield 18, 6, 2, 2), (.iload_n 3, 3, 0, 0), (.aload_n 1, 1, 0, 0), (.getfield 18, 6, 2, 2), (.iload_n 2, 2, 0, 0), (.iaload, 0, 0, 0), (.iastore, 0, 0, 0), (.return_, 0, 0, 0)]
def bk_47_0 : List mIns := [(.aload_n 0, 0, 0, 0), (.invokevirtual 56, 42, 1, 0), (.aload_n 0, 0, 0, 0), (.aload_n 1, 1, 0, 0), (.iload_n 2, 2, 0, 0), (.invokevirtual 59, 49, 3, 0), (.aload_n 1, 1, 0, 0), (.iload_n 2, 2, 0, 0), (.putfield 28, 6, 5, 0), (.aload_n 1, 1, 0, 0), (.iconst 0, 0, 0, 0), (.putfield 25, 6, 4, 1), (.return_, 0, 0, 0)]
def bk_48_0 : List mIns := [(.aload_n 0, 0, 0, 0), (.aload_n 1, 1, 0, 0), (.iconst 0, 0, 0, 0), (.invokevirtual 59, 49, 3, 0), (.aload_n 1, 1, 0, 0), (.invokevirtual 45, 41, 1, 0), (.return_, 0, 0, 0)]
def bk_49_0 : List mIns := [(.aload_n 1, 1, 0, 0), (.invokevirtual 41, 37, 1, 0), (.istore_n 3, 3, 0, 0), (.aload_n 0, 0, 0, 0), (.getfield 28, 6, 5, 0), (.iconst 1, 0, 0, 1), (.iadd, 0, 0, 0), (.istore 4, 4, 0, 0), (.iload_n 2, 2, 0, 0), (.iconst 1, 0, 0, 1), (.iadd, 0, 0, 0), (.istore 5, 5, 0, 0), (.nop, 18, 0, 0)]
def bk_49_18 : List mIns := [(.iload 5, 5, 0, 0), (.iload_n 3, 3, 0, 0), (.if_icmp .ge 28, 49, 0, 0), (.iload 4, 4, 0, 0), (.bipush 32, 0, 0, 32), (.if_icmp .ge 21, 49, 0, 0), (.aload_n 0, 0, 0, 0), (.aload_n 1, 1, 0, 0), (.iload 5, 5, 0, 0), (.iload 4, 4, 0, 0), (.invokevirtual 63, 46, 4, 0), (.iinc 4 1, 4, 0, 1), (.iinc 5 1, 5, 0, 1), (.goto (-28), 18, 0, 0)]
def bk_49_49 : List mIns := [(.aload_n 0, 0, 0, 0), (.dup, 0, 0, 0), (.getfield 28, 6, 5, 0), (.aload_n 1, 1, 0, 0), (.getfield 28, 6, 5, 0), (.iload_n 2, 2, 0, 0), (.isub, 0, 0, 0), (.iadd, 0, 0, 0), (.putfield 28, 6, 5, 0), (.aload_n 0, 0, 0, 0), (.aload_n 1, 1, 0, 0), (.getfield 25, 6, 4, 1), (.putfield 25, 6, 4, 1), (.return_, 0, 0, 0)]
def bk_50_0 : List mIns := [(.aload_n 0, 0, 0, 0), (.iconst 0, 0, 0, 0), (.sipush 5000, 0, 0, 5000), (.iconst (-1), 0, 0, (-1)), (.invokevirtual 48, 45, 4, 0), (.iconst 0, 0, 0, 0), (.istore_n 2, 2, 0, 0), (.nop, 11, 0, 0)]
def bk_50_11 : List mIns := [(.iload_n 2, 2, 0, 0), (.aload_n 0, 0, 0, 0), (.getfield 28, 6, 5, 0), (.if_icmp .ge 36, 52, 0, 0), (.iload_n 2, 2, 0, 0), (.aload_n 1, 1, 0, 0), (.arraylength, 0, 0, 0), (.if_icmp .ge 30, 52, 0, 0), (.aload_n 0, 0, 0, 0), (.iload_n 2, 2, 0, 0), (.iconst 1, 0, 0, 1), (.iadd, 0, 0, 0), (.aload_n 1, 1, 0, 0), (.iload_n 2, 2, 0, 0), (.iaload, 0, 0, 0), (.invokestatic 52, 86, 1, 0), (.aload_n 0, 0, 0, 0), (.getfield 18, 6, 2, 2), (.iload_n 2, 2, 0, 0), (.iconst 1, 0, 0, 1), (.iadd, 0, 0, 0), (.iaload, 0, 0, 0), (.invokevirtual 48, 45, 4, 0), (.iinc 2 1, 2, 0, 1), (.goto (-38), 11, 0, 0)]
def bk_50_52 : List mIns := [(.aload_n 0, 0, 0, 0), (.getfield 25, 6, 4, 1), (.ifCond .eq 7, 63, 0, 0), (.aload_n 0, 0, 0, 0), (.invokevirtual 67, 44, 1, 0), (.nop, 63, 0, 0)]
def bk_50_63 : List mIns := [(.aload_n 0, 0, 0, 0), (.iconst 0, 0, 0, 0), (.putfield 32, 6, 6, 0), (.return_, 0, 0, 0)]
def bk_51_0 : List mIns := [(.aload_n 0, 0, 0, 0), (.invokevirtual 41, 37, 1, 0), (.istore 4, 4, 0, 0), (.iconst (-1), 0, 0, (-1)), (.istore 5, 5, 0, 0), (.iconst 0, 0, 0, 0), (.istore 6, 6, 0, 0), (.nop, 12, 0, 0)]
def bk_51_12 : List mIns := [(.iload 6, 6, 0, 0), (.iload 4, 4, 0, 0), (.if_icmp .ge 72, 88, 0, 0), (.aload_n 0, 0, 0, 0), (.getfield 9, 6, 0, 2), (.iload 6, 6, 0, 0), (.dup2, 0, 0, 0), (.iaload, 0, 0, 0), (.aload_n 0, 0, 0, 0), (.getfield 9, 6, 0, 2), (.iload 6, 6, 0, 0), (.iaload, 0, 0, 0), (.iload_n 1, 1, 0, 0), (.iload_n 3, 3, 0, 0), (.iload 6, 6, 0, 0), (.iload 4, 4, 0, 0), (.invokestatic 70, 87, 4, 0), (.imul, 0, 0, 0), (.sipush 10000, 0, 0, 10000), (.idiv, 0, 0, 0), (.iadd, 0, 0, 0), (.iastore, 0, 0, 0), (.iload 5, 5, 0, 0), (.iconst (-1), 0, 0, (-1)), (.if_icmp .ne 29, 82, 0, 0), (.aload_n 0, 0, 0, 0), (.getfield 9, 6, 0, 2), (.iload 6, 6, 0, 0), (.iaload, 0, 0, 0), (.bipush 100, 0, 0, 100), (.imul, 0, 0, 0), (.aload_n 0, 0, 0, 0), (.getfield 15, 6, 1, 2), (.iload 6, 6, 0, 0), (.iaload, 0, 0, 0), (.iload_n 2, 2, 0, 0), (.imul, 0, 0, 0), (.if_icmp .le 7, 82, 0, 0), (.iload 6, 6, 0, 0), (.istore 5, 5, 0, 0), (.nop, 82, 0, 0)]
def bk_51_82 : List mIns := [(.iinc 6 1, 6, 0, 1), (.goto (-73), 12, 0, 0)]
def bk_51_88 : List mIns := [(.iload 5, 5, 0, 0), (.ireturn, 0, 0, 0)]
def bk_52_0 : List mIns := [(.iload_n 1, 1, 0, 0), (.ifCond .gt 8, 9, 0, 0), (.aload_n 0, 0, 0, 0), (.invokevirtual 45, 41, 1, 0), (.return_, 0, 0, 0)]
def bk_52_9 : List mIns := [(.aload_n 0, 0, 0, 0), (.aload_n 0, 0, 0, 0), (.getfield 28, 6, 5, 0), (.iload_n 1, 1, 0, 0), (.iconst 1, 0, 0, 1), (.isub, 0, 0, 0), (.invokestatic 74, 0, 0, 1), (.putfield 28, 6, 5, 0), (.aload_n 0, 0, 0, 0), (.iconst 0, 0, 0, 0), (.putfield 25, 6, 4, 1), (.return_, 0, 0, 0)]
def bk_53_0 : List mIns := [(.aload_n 0, 0, 0, 0), (.aload_n 0, 0, 0, 0), (.getfield 9, 6, 0, 2), (.invokevirtual 80, 55, 2, 0), (.ireturn, 0, 0, 0)]
def bk_54_0 : List mIns := [(.aload_n 0, 0, 0, 0), (.aload_n 0, 0, 0, 0), (.getfield 15, 6, 1, 2), (.invokevirtual 80, 55, 2, 0), (.ireturn, 0, 0, 0)]
def bk_55_0 : List mIns := [(.iconst 0, 0, 0, 0), (.istore_n 2, 2, 0, 0), (.aload_n 0, 0, 0, 0), (.invokevirtual 41, 37, 1, 0), (.istore_n 3, 3, 0, 0), (.iconst 0, 0, 0, 0), (.istore 4, 4, 0, 0), (.nop, 10, 0, 0)]
def bk_55_10 : List mIns := [(.iload 4, 4, 0, 0), (.iload_n 3, 3, 0, 0), (.if_icmp .ge 23, 36, 0, 0), (.iload 4, 4, 0, 0), (.aload_n 1, 1, 0, 0), (.arraylength, 0, 0, 0), (.if_icmp .ge 16, 36, 0, 0), (.iload_n 2, 2, 0, 0), (.aload_n 1, 1, 0, 0), (.iload 4, 4, 0, 0), (.iaload, 0, 0, 0), (.iadd, 0, 0, 0), (.istore_n 2, 2, 0, 0), (.iinc 4 1, 4, 0, 1), (.goto (-23), 10, 0, 0)]
def bk_55_36 : List mIns := [(.iload_n 2, 2, 0, 0), (.ireturn, 0, 0, 0)]
def bk_56_0 : List mIns := [(.iconst 0, 0, 0, 0), (.istore_n 1, 1, 0, 0), (.aload_n 0, 0, 0, 0), (.invokevirtual 41, 37, 1, 0), (.istore_n 2, 2, 0, 0), (.iconst 1, 0, 0, 1), (.istore_n 3, 3, 0, 0), (.nop, 9, 0, 0)]
def bk_56_9 : List mIns := [(.iload_n 3, 3, 0, 0), (.iload_n 2, 2, 0, 0), (.if_icmp .ge 24, 35, 0, 0), (.aload_n 0, 0, 0, 0), (.iload_n 3, 3, 0, 0), (.invokevirtual 84, 57, 2, 0), (.aload_n 0, 0, 0, 0), (.iload_n 1, 1, 0, 0), (.invokevirtual 84, 57, 2, 0), (.if_icmp .le 5, 29, 0, 0), (.iload_n 3, 3, 0, 0), (.istore_n 1, 1, 0, 0), (.nop, 29, 0, 0)]
def bk_56_29 : List mIns := [(.iinc 3 1, 3, 0, 1), (.goto (-23), 9, 0, 0)]
def bk_56_35 : List mIns := [(.iload_n 1, 1, 0, 0), (.ireturn, 0, 0, 0)]
def bk_57_0 : List mIns := [(.aload_n 0, 0, 0, 0), (.iload_n 1, 1, 0, 0), (.invokevirtual 87, 38, 2, 0), (.ifCond .eq 12, 17, 0, 0), (.aload_n 0, 0, 0, 0), (.getfield 15, 6, 1, 2), (.iload_n 1, 1, 0, 0), (.iaload, 0, 0, 0), (.ifCond .gt 5, 19, 0, 0), (.nop, 17, 0, 0)]
def bk_57_17 : List mIns := [(.iconst 0, 0, 0, 0), (.ireturn, 0, 0, 0)]
def bk_57_19 : List mIns := [(.aload_n 0, 0, 0, 0), (.getfield 9, 6, 0, 2), (.iload_n 1, 1, 0, 0), (.iaload, 0, 0, 0), (.sipush 1000, 0, 0, 1000), (.imul, 0, 0, 0), (.aload_n 0, 0, 0, 0), (.getfield 15, 6, 1, 2), (.iload_n 1, 1, 0, 0), (.iaload, 0, 0, 0), (.idiv, 0, 0, 0), (.ireturn, 0, 0, 0)]
def bk_58_0 : List mIns := [(.aload_n 0, 0, 0, 0), (.invokespecial 3, 0, 0, 0), (.aload_n 0, 0, 0, 0), (.new 9, 4, 9, 0), (.dup, 0, 0, 0), (.invokespecial 11, 24, 1, 1), (.putfield 12, 7, 0, 5), (.aload_n 0, 0, 0, 0), (.new 16, 1, 2, 0), (.dup, 0, 0, 0), (.invokespecial 18, 8, 1, 1), (.putfield 19, 7, 1, 5), (.aload_n 0, 0, 0, 0), (.new 9, 4, 9, 0), (.dup, 0, 0, 0), (.invokespecial 11, 24, 1, 1), (.putfield 23, 7, 2, 5), (.aload_n 0, 0, 0, 0), (.iconst 0, 0, 0, 0), (.putfield 26, 7, 3, 1), (.aload_n 0, 0, 0, 0), (.new 30, 5, 2, 0), (.dup, 0, 0, 0), (.invokespecial 32, 31, 1, 1), (.putfield 33, 7, 4, 5), (.aload_n 0, 0, 0, 0), (.new 37, 0, 6, 0), (.dup, 0, 0, 0), (.invokespecial 39, 0, 1, 1), (.putfield 40, 7, 5, 5), (.aload_n 0, 0, 0, 0), (.new 44, 3, 4, 0), (.dup, 0, 0, 0), (.invokespecial 46, 17, 1, 1), (.putfield 47, 7, 6, 5), (.aload_n 0, 0, 0, 0), (.new 44, 3, 4, 0), (.dup, 0, 0, 0), (.invokespecial 46, 17, 1, 1), (.putfield 51, 7, 7, 5), (.aload_n 0, 0, 0, 0), (.new 54, 6, 7, 0), (.dup, 0, 0, 0), (.invokespecial 56, 35, 1, 1), (.putfield 57, 7, 8, 5), (.return_, 0, 0, 0)]
def bk_59_0 : List mIns := [(.iload_n 1, 1, 0, 0), (.ifCond .lt 8, 9, 0, 0), (.iload_n 1, 1, 0, 0), (.iconst 2, 0, 0, 2), (.if_icmp .le 6, 12, 0, 0), (.nop, 9, 0, 0)]
def bk_59_9 : List mIns := [(.bipush (-2), 0, 0, (-2)), (.ireturn, 0, 0, 0)]
def bk_59_12 : List mIns := [(.aload_n 0, 0, 0, 0), (.getfield 12, 7, 0, 2), (.getfield 61, 4, 2, 0), (.istore_n 2, 2, 0, 0), (.iload_n 1, 1, 0, 0), (.iload_n 2, 2, 0, 0), (.if_icmp .ne 6, 28, 0, 0), (.bipush (-5), 0, 0, (-5)), (.ireturn, 0, 0, 0)]
def bk_59_28 : List mIns := [(.aload_n 0, 0, 0, 0), (.getfield 19, 7, 1, 2), (.aload_n 0, 0, 0, 0), (.getfield 12, 7, 0, 2), (.invokevirtual 65, 9, 2, 0), (.aload_n 0, 0, 0, 0), (.getfield 12, 7, 0, 2), (.iload_n 1, 1, 0, 0), (.putfield 61, 4, 2, 0), (.iload_n 2, 2, 0, 0), (.ireturn, 0, 0, 0)]
def bk_60_0 : List mIns := [(.iload_n 1, 1, 0, 0), (.bipush 101, 0, 0, 101), (.if_icmp .lt 10, 13, 0, 0), (.iload_n 1, 1, 0, 0), (.sipush 200, 0, 0, 200), (.if_icmp .le 6, 16, 0, 0), (.nop, 13, 0, 0)]
def bk_60_13 : List mIns := [(.bipush (-2), 0, 0, (-2)), (.ireturn, 0, 0, 0)]
def bk_60_16 : List mIns := [(.aload_n 0, 0, 0, 0), (.getfield 12, 7, 0, 2), (.getfield 69, 4, 3, 0), (.istore_n 2, 2, 0, 0), (.iload_n 1, 1, 0, 0), (.iload_n 2, 2, 0, 0), (.if_icmp .ne 6, 32, 0, 0), (.bipush (-5), 0, 0, (-5)), (.ireturn, 0, 0, 0)]
def bk_60_32 : List mIns := [(.aload_n 0, 0, 0, 0), (.getfield 19, 7, 1, 2), (.aload_n 0, 0, 0, 0), (.getfield 12, 7, 0, 2), (.invokevirtual 65, 9, 2, 0), (.aload_n 0, 0, 0, 0), (.getfield 12, 7, 0, 2), (.iload_n 1, 1, 0, 0), (.putfield 69, 4, 3, 0), (.iload_n 2, 2, 0, 0), (.ireturn, 0, 0, 0)]
def bk_61_0 : List mIns := [(.iload_n 1, 1, 0, 0), (.invokestatic 72, 82, 1, 0), (.ifCond .ne 5, 9, 0, 0), (.iconst (-1), 0, 0, (-1)), (.ireturn, 0, 0, 0)]
def bk_61_9 : List mIns := [(.iload_n 2, 2, 0, 0), (.invokestatic 76, 83, 1, 0), (.ifCond .eq 14, 27, 0, 0), (.iload_n 3, 3, 0, 0), (.iconst 1, 0, 0, 1), (.if_icmp .lt 9, 27, 0, 0), (.iload_n 3, 3, 0, 0), (.bipush 30, 0, 0, 30), (.if_icmp .le 6, 30, 0, 0), (.nop, 27, 0, 0)]
def bk_61_27 : List mIns := [(.bipush (-2), 0, 0, (-2)), (.ireturn, 0, 0, 0)]
def bk_61_30 : List mIns := [(.aload_n 0, 0, 0, 0), (.getfield 12, 7, 0, 2), (.getfield 79, 4, 0, 2), (.iload_n 1, 1, 0, 0), (.aaload, 4, 6, 0), (.getfield 83, 6, 3, 1), (.ifCond .ne 6, 48, 0, 0), (.bipush (-4), 0, 0, (-4)), (.ireturn, 0, 0, 0)]
def bk_61_48 : List mIns := [(.aload_n 0, 0, 0, 0), (.getfield 19, 7, 1, 2), (.aload_n 0, 0, 0, 0), (.getfield 12, 7, 0, 2), (.invokevirtual 65, 9, 2, 0), (.aload_n 0, 0, 0, 0), (.getfield 12, 7, 0, 2), (.iload_n 1, 1, 0, 0), (.iload_n 2, 2, 0, 0), (.iload_n 3, 3, 0, 0), (.invokevirtual 86, 29, 4, 0), (.ireturn, 0, 0, 0)]
def bk_62_0 : List mIns := [(.iload_n 1, 1, 0, 0), (.invokestatic 72, 82, 1, 0), (.ifCond .eq 19, 23, 0, 0), (.aload_n 0, 0, 0, 0), (.getfield 12, 7, 0, 2), (.getfield 79, 4, 0, 2), (.iload_n 1, 1, 0, 0), (.aaload, 4, 6, 0), (.iload_n 2, 2, 0, 0), (.invokevirtual 90, 39, 2, 0), (.ifCond .ne 5, 25, 0, 0), (.nop, 23, 0, 0)]
def bk_62_23 : List mIns := [(.iconst (-1), 0, 0, (-1)), (.ireturn, 0, 0, 0)]
def bk_62_25 : List mIns := [(.aload_n 0, 0, 0, 0), (.getfield 12, 7, 0, 2), (.invokevirtual 93, 28, 1, 0), (.istore_n 3, 3, 0, 0), (.iload_n 3, 3, 0, 0), (.invokestatic 72, 82, 1, 0), (.ifCond .ne 6, 43, 0, 0), (.bipush (-3), 0, 0, (-3)), (.ireturn, 0, 0, 0)]
def bk_62_43 : List mIns := [(.aload_n 0, 0, 0, 0), (.getfield 19, 7, 1, 2), (.aload_n 0, 0, 0, 0), (.getfield 12, 7, 0, 2), (.invokevirtual 65, 9, 2, 0), (.aload_n 0, 0, 0, 0), (.getfield 12, 7, 0, 2), (.getfield 79, 4, 0, 2), (.iload_n 3, 3, 0, 0), (.aaload, 4, 6, 0), (.aload_n 0, 0, 0, 0), (.getfield 12, 7, 0, 2), (.getfield 79, 4, 0, 2), (.iload_n 1, 1, 0, 0), (.aaload, 4, 6, 0), (.iload_n 2, 2, 0, 0), (.invokevirtual 97, 47, 3, 0), (.aload_n 0, 0, 0, 0), (.getfield 12, 7, 0, 2), (.dup, 0, 0, 0), (.getfield 101, 4, 5, 0), (.sipush 5000, 0, 0, 5000), (.iadd, 0, 0, 0), (.putfield 101, 4, 5, 0), (.aload_n 0, 0, 0, 0), (.getfield 12, 7, 0, 2), (.getfield 104, 4, 1, 2), (.iconst 3, 0, 0, 3), (.iload_n 1, 1, 0, 0), (.iload_n 3, 3, 0, 0), (.invokevirtual 108, 14, 4, 0), (.iload_n 3, 3, 0, 0), (.ireturn, 0, 0, 0)]
def bk_63_0 : List mIns := [(.iload_n 1, 1, 0, 0), (.invokestatic 72, 82, 1, 0), (.ifCond .eq 10, 14, 0, 0), (.iload_n 2, 2, 0, 0), (.invokestatic 72, 82, 1, 0), (.ifCond .ne 5, 16, 0, 0), (.nop, 14, 0, 0)]
def bk_63_14 : List mIns := [(.iconst (-1), 0, 0, (-1)), (.ireturn, 0, 0, 0)]
def bk_63_16 : List mIns := [(.iload_n 1, 1, 0, 0), (.iload_n 2, 2, 0, 0), (.if_icmp .ne 6, 24, 0, 0), (.bipush (-2), 0, 0, (-2)), (.ireturn, 0, 0, 0)]
def bk_63_24 : List mIns := [(.aload_n 0, 0, 0, 0), (.getfield 12, 7, 0, 2), (.getfield 79, 4, 0, 2), (.iload_n 1, 1, 0, 0), (.aaload, 4, 6, 0), (.astore_n 3, 3, 0, 0), (.aload_n 0, 0, 0, 0), (.getfield 12, 7, 0, 2), (.getfield 79, 4, 0, 2), (.iload_n 2, 2, 0, 0), (.aaload, 4, 6, 0), (.astore 4, 4, 0, 0), (.aload_n 3, 3, 0, 0), (.getfield 83, 6, 3, 1), (.ifCond .eq 11, 60, 0, 0), (.aload 4, 4, 0, 0), (.getfield 83, 6, 3, 1), (.ifCond .ne 6, 63, 0, 0), (.nop, 60, 0, 0)]
def bk_63_60 : List mIns := [(.bipush (-4), 0, 0, (-4)), (.ireturn, 0, 0, 0)]
def bk_63_63 : List mIns := [(.aload_n 3, 3, 0, 0), (.getfield 114, 6, 5, 0), (.aload 4, 4, 0, 0), (.getfield 114, 6, 5, 0), (.iadd, 0, 0, 0), (.bipush 30, 0, 0, 30), (.if_icmp .le 6, 81, 0, 0), (.bipush (-3), 0, 0, (-3)), (.ireturn, 0, 0, 0)]
def bk_63_81 : List mIns := [(.aload_n 0, 0, 0, 0), (.getfield 19, 7, 1, 2), (.aload_n 0, 0, 0, 0), (.getfield 12, 7, 0, 2), (.invokevirtual 65, 9, 2, 0), (.aload_n 3, 3, 0, 0), (.aload 4, 4, 0, 0), (.invokevirtual 117, 48, 2, 0), (.aload_n 0, 0, 0, 0), (.getfield 12, 7, 0, 2), (.getfield 104, 4, 1, 2), (.iconst 4, 0, 0, 4), (.iload_n 1, 1, 0, 0), (.aload_n 3, 3, 0, 0), (.getfield 114, 6, 5, 0), (.invokevirtual 108, 14, 4, 0), (.aload_n 3, 3, 0, 0), (.getfield 114, 6, 5, 0), (.ireturn, 0, 0, 0)]
def bk_64_0 : List mIns := [(.iload_n 1, 1, 0, 0), (.invokestatic 72, 82, 1, 0), (.ifCond .ne 5, 9, 0, 0), (.iconst (-1), 0, 0, (-1)), (.ireturn, 0, 0, 0)]
def bk_64_9 : List mIns := [(.aload_n 0, 0, 0, 0), (.getfield 12, 7, 0, 2), (.getfield 79, 4, 0, 2), (.iload_n 1, 1, 0, 0), (.aaload, 4, 6, 0), (.astore_n 2, 2, 0, 0), (.aload_n 2, 2, 0, 0), (.getfield 83, 6, 3, 1), (.ifCond .ne 6, 29, 0, 0), (.bipush (-4), 0, 0, (-4)), (.ireturn, 0, 0, 0)]
def bk_64_29 : List mIns := [(.aload_n 2, 2, 0, 0), (.getfield 121, 6, 4, 1), (.ifCond .eq 6, 39, 0, 0), (.bipush (-5), 0, 0, (-5)), (.ireturn, 0, 0, 0)]
def bk_64_39 : List mIns := [(.aload_n 0, 0, 0, 0), (.getfield 19, 7, 1, 2), (.aload_n 0, 0, 0, 0), (.getfield 12, 7, 0, 2), (.invokevirtual 65, 9, 2, 0), (.aload_n 2, 2, 0, 0), (.invokevirtual 124, 44, 1, 0), (.aload_n 0, 0, 0, 0), (.getfield 12, 7, 0, 2), (.dup, 0, 0, 0), (.getfield 101, 4, 5, 0), (.sipush 5000, 0, 0, 5000), (.iadd, 0, 0, 0), (.putfield 101, 4, 5, 0), (.aload_n 0, 0, 0, 0), (.getfield 12, 7, 0, 2), (.getfield 104, 4, 1, 2), (.iconst 5, 0, 0, 5), (.iload_n 1, 1, 0, 0), (.aload_n 2, 2, 0, 0), (.getfield 114, 6, 5, 0), (.invokevirtual 108, 14, 4, 0), (.aload_n 2, 2, 0, 0), (.getfield 114, 6, 5, 0), (.ireturn, 0, 0, 0)]
def bk_65_0 : List mIns := [(.iload_n 1, 1, 0, 0), (.invokestatic 72, 82, 1, 0), (.ifCond .ne 5, 9, 0, 0), (.iconst (-1), 0, 0, (-1)), (.ireturn, 0, 0, 0)]
def bk_65_9 : List mIns := [(.iload_n 2, 2, 0, 0), (.invokestatic 127, 84, 1, 0), (.ifCond .ne 6, 19, 0, 0), (.bipush (-2), 0, 0, (-2)), (.ireturn, 0, 0, 0)]
def bk_65_19 : List mIns := [(.aload_n 0, 0, 0, 0), (.getfield 12, 7, 0, 2), (.getfield 79, 4, 0, 2), (.iload_n 1, 1, 0, 0), (.aaload, 4, 6, 0), (.astore_n 3, 3, 0, 0), (.aload_n 3, 3, 0, 0), (.iload_n 2, 2, 0, 0), (.invokevirtual 130, 40, 2, 0), (.ifCond .ne 6, 40, 0, 0), (.bipush (-4), 0, 0, (-4)), (.ireturn, 0, 0, 0)]
def bk_65_40 : List mIns := [(.aload_n 0, 0, 0, 0), (.getfield 47, 7, 6, 2), (.aload_n 3, 3, 0, 0), (.iload_n 2, 2, 0, 0), (.invokevirtual 133, 18, 3, 0), (.aload_n 0, 0, 0, 0), (.getfield 47, 7, 6, 2), (.getfield 136, 3, 2, 0), (.ifCond .le 6, 62, 0, 0), (.bipush (-4), 0, 0, (-4)), (.ireturn, 0, 0, 0)]
def bk_65_62 : List mIns := [(.aload_n 0, 0, 0, 0), (.getfield 19, 7, 1, 2), (.aload_n 0, 0, 0, 0), (.getfield 12, 7, 0, 2), (.invokevirtual 65, 9, 2, 0), (.aload_n 3, 3, 0, 0), (.aload_n 0, 0, 0, 0), (.getfield 47, 7, 6, 2), (.getfield 139, 3, 0, 2), (.invokevirtual 143, 50, 2, 0), (.aload_n 0, 0, 0, 0), (.getfield 12, 7, 0, 2), (.dup, 0, 0, 0), (.getfield 101, 4, 5, 0), (.aload_n 3, 3, 0, 0), (.invokevirtual 147, 54, 1, 0), (.iadd, 0, 0, 0), (.putfield 101, 4, 5, 0), (.aload_n 0, 0, 0, 0), (.getfield 12, 7, 0, 2), (.getfield 104, 4, 1, 2), (.bipush 6, 0, 0, 6), (.iload_n 1, 1, 0, 0), (.iload_n 2, 2, 0, 0), (.invokevirtual 108, 14, 4, 0), (.aload_n 0, 0, 0, 0), (.getfield 47, 7, 6, 2), (.getfield 150, 3, 1, 0), (.ireturn, 0, 0, 0)]
def bk_66_0 : List mIns := [(.aload_n 0, 0, 0, 0), (.getfield 33, 7, 4, 2), (.iload_n 1, 1, 0, 0), (.invokevirtual 153, 32, 2, 0), (.ifCond .ne 6, 14, 0, 0), (.bipush (-3), 0, 0, (-3)), (.ireturn, 0, 0, 0)]
def bk_66_14 : List mIns := [(.aload_n 0, 0, 0, 0), (.getfield 33, 7, 4, 2), (.getfield 156, 5, 1, 0), (.ireturn, 0, 0, 0)]
def bk_67_0 : List mIns := [(.aload_n 0, 0, 0, 0), (.getfield 33, 7, 4, 2), (.getfield 156, 5, 1, 0), (.istore_n 1, 1, 0, 0), (.aload_n 0, 0, 0, 0), (.getfield 33, 7, 4, 2), (.iconst 0, 0, 0, 0), (.putfield 156, 5, 1, 0), (.iload_n 1, 1, 0, 0), (.ireturn, 0, 0, 0)]
def bk_68_0 : List mIns := [(.aload_n 0, 0, 0, 0), (.getfield 40, 7, 5, 2), (.aload_n 0, 0, 0, 0), (.getfield 33, 7, 4, 2), (.invokevirtual 159, 1, 2, 0), (.aload_n 0, 0, 0, 0), (.getfield 40, 7, 5, 2), (.getfield 163, 0, 4, 0), (.iconst (-1), 0, 0, (-1)), (.if_icmp .eq 14, 33, 0, 0), (.bipush (-100), 0, 0, (-100)), (.aload_n 0, 0, 0, 0), (.getfield 40, 7, 5, 2), (.getfield 163, 0, 4, 0), (.isub, 0, 0, 0), (.ireturn, 0, 0, 0)]
def bk_68_33 : List mIns := [(.aload_n 0, 0, 0, 0), (.getfield 40, 7, 5, 2), (.getfield 166, 0, 0, 0), (.tableswitch 132 1 5 #[36, 62, 82, 101, 120], 40, 36, 0)]
def bk_68_76 : List mIns := [(.aload_n 0, 0, 0, 0), (.aload_n 0, 0, 0, 0), (.getfield 40, 7, 5, 2), (.getfield 169, 0, 1, 0), (.aload_n 0, 0, 0, 0), (.getfield 40, 7, 5, 2), (.getfield 172, 0, 3, 0), (.aload_n 0, 0, 0, 0), (.getfield 33, 7, 4, 2), (.getfield 156, 5, 1, 0), (.invokevirtual 175, 69, 4, 0), (.ireturn, 0, 0, 0)]
def bk_68_102 : List mIns := [(.aload_n 0, 0, 0, 0), (.aload_n 0, 0, 0, 0), (.getfield 40, 7, 5, 2), (.getfield 169, 0, 1, 0), (.aload_n 0, 0, 0, 0), (.getfield 40, 7, 5, 2), (.getfield 178, 0, 2, 0), (.iconst 1, 0, 0, 1), (.invokevirtual 181, 61, 4, 0), (.ireturn, 0, 0, 0)]
def bk_68_122 : List mIns := [(.aload_n 0, 0, 0, 0), (.aload_n 0, 0, 0, 0), (.getfield 40, 7, 5, 2), (.getfield 169, 0, 1, 0), (.aload_n 0, 0, 0, 0), (.getfield 40, 7, 5, 2), (.getfield 178, 0, 2, 0), (.invokevirtual 184, 62, 3, 0), (.ireturn, 0, 0, 0)]
def bk_68_141 : List mIns := [(.aload_n 0, 0, 0, 0), (.aload_n 0, 0, 0, 0), (.getfield 40, 7, 5, 2), (.getfield 169, 0, 1, 0), (.aload_n 0, 0, 0, 0), (.getfield 40, 7, 5, 2), (.getfield 178, 0, 2, 0), (.invokevirtual 188, 63, 3, 0), (.ireturn, 0, 0, 0)]
def bk_68_160 : List mIns := [(.aload_n 0, 0, 0, 0), (.aload_n 0, 0, 0, 0), (.getfield 40, 7, 5, 2), (.getfield 169, 0, 1, 0), (.invokevirtual 191, 64, 2, 0), (.ireturn, 0, 0, 0)]
def bk_68_172 : List mIns := [(.aload_n 0, 0, 0, 0), (.aload_n 0, 0, 0, 0), (.getfield 40, 7, 5, 2), (.getfield 169, 0, 1, 0), (.aload_n 0, 0, 0, 0), (.getfield 40, 7, 5, 2), (.getfield 178, 0, 2, 0), (.invokevirtual 195, 65, 3, 0), (.ireturn, 0, 0, 0)]
def bk_69_0 : List mIns := [(.iload_n 1, 1, 0, 0), (.invokestatic 72, 82, 1, 0), (.ifCond .ne 5, 9, 0, 0), (.iconst (-1), 0, 0, (-1)), (.ireturn, 0, 0, 0)]
def bk_69_9 : List mIns := [(.aload_n 0, 0, 0, 0), (.getfield 12, 7, 0, 2), (.getfield 79, 4, 0, 2), (.iload_n 1, 1, 0, 0), (.aaload, 4, 6, 0), (.astore 4, 4, 0, 0), (.aload 4, 4, 0, 0), (.getfield 83, 6, 3, 1), (.ifCond .eq 6, 31, 0, 0), (.bipush (-4), 0, 0, (-4)), (.ireturn, 0, 0, 0)]
def bk_69_31 : List mIns := [(.iload_n 3, 3, 0, 0), (.iload_n 2, 2, 0, 0), (.isub, 0, 0, 0), (.bipush 30, 0, 0, 30), (.if_icmp .le 6, 42, 0, 0), (.bipush (-3), 0, 0, (-3)), (.ireturn, 0, 0, 0)]
def bk_69_42 : List mIns := [(.aload_n 0, 0, 0, 0), (.getfield 19, 7, 1, 2), (.aload_n 0, 0, 0, 0), (.getfield 12, 7, 0, 2), (.invokevirtual 65, 9, 2, 0), (.aload 4, 4, 0, 0), (.invokevirtual 198, 42, 1, 0), (.iload_n 2, 2, 0, 0), (.istore 5, 5, 0, 0), (.nop, 61, 0, 0)]
def bk_69_61 : List mIns := [(.iload 5, 5, 0, 0), (.iload_n 3, 3, 0, 0), (.if_icmp .ge 26, 90, 0, 0), (.aload 4, 4, 0, 0), (.aload_n 0, 0, 0, 0), (.getfield 33, 7, 4, 2), (.iload 5, 5, 0, 0), (.invokevirtual 201, 33, 2, 0), (.bipush 97, 0, 0, 97), (.isub, 0, 0, 0), (.invokevirtual 204, 43, 2, 0), (.iinc 5 1, 5, 0, 1), (.goto (-26), 61, 0, 0)]
def bk_69_90 : List mIns := [(.aload 4, 4, 0, 0), (.invokevirtual 124, 44, 1, 0), (.aload_n 0, 0, 0, 0), (.getfield 12, 7, 0, 2), (.dup, 0, 0, 0), (.getfield 101, 4, 5, 0), (.aload 4, 4, 0, 0), (.invokevirtual 147, 54, 1, 0), (.iadd, 0, 0, 0), (.putfield 101, 4, 5, 0), (.aload_n 0, 0, 0, 0), (.getfield 12, 7, 0, 2), (.getfield 104, 4, 1, 2), (.iconst 0, 0, 0, 0), (.iload_n 1, 1, 0, 0), (.aload 4, 4, 0, 0), (.getfield 114, 6, 5, 0), (.invokevirtual 108, 14, 4, 0), (.aload 4, 4, 0, 0), (.getfield 114, 6, 5, 0), (.ireturn, 0, 0, 0)]
def bk_70_0 : List mIns := [(.aload_n 0, 0, 0, 0), (.getfield 19, 7, 1, 2), (.aload_n 0, 0, 0, 0), (.getfield 12, 7, 0, 2), (.invokevirtual 208, 11, 2, 0), (.ifCond .ne 6, 17, 0, 0), (.bipush (-5), 0, 0, (-5)), (.ireturn, 0, 0, 0)]
def bk_70_17 : List mIns := [(.aload_n 0, 0, 0, 0), (.getfield 19, 7, 1, 2), (.getfield 212, 1, 1, 0), (.ireturn, 0, 0, 0)]
def bk_71_0 : List mIns := [(.aload_n 0, 0, 0, 0), (.getfield 23, 7, 2, 2), (.aload_n 0, 0, 0, 0), (.getfield 12, 7, 0, 2), (.invokevirtual 213, 25, 2, 0), (.aload_n 0, 0, 0, 0), (.iconst 1, 0, 0, 1), (.putfield 26, 7, 3, 1), (.aload_n 0, 0, 0, 0), (.getfield 12, 7, 0, 2), (.invokevirtual 216, 26, 1, 0), (.ireturn, 0, 0, 0)]
def bk_72_0 : List mIns := [(.aload_n 0, 0, 0, 0), (.getfield 26, 7, 3, 1), (.ifCond .ne 6, 10, 0, 0), (.bipush (-5), 0, 0, (-5)), (.ireturn, 0, 0, 0)]
def bk_72_10 : List mIns := [(.aload_n 0, 0, 0, 0), (.getfield 19, 7, 1, 2), (.aload_n 0, 0, 0, 0), (.getfield 12, 7, 0, 2), (.invokevirtual 65, 9, 2, 0), (.aload_n 0, 0, 0, 0), (.getfield 12, 7, 0, 2), (.aload_n 0, 0, 0, 0), (.getfield 23, 7, 2, 2), (.invokevirtual 213, 25, 2, 0), (.aload_n 0, 0, 0, 0), (.getfield 12, 7, 0, 2), (.invokevirtual 216, 26, 1, 0), (.ireturn, 0, 0, 0)]
def bk_73_0 : List mIns := [(.iload_n 1, 1, 0, 0), (.invokestatic 72, 82, 1, 0), (.ifCond .ne 5, 9, 0, 0), (.iconst (-1), 0, 0, (-1)), (.ireturn, 0, 0, 0)]
def bk_73_9 : List mIns := [(.iload_n 2, 2, 0, 0), (.ifCond .lt 9, 19, 0, 0), (.iload_n 2, 2, 0, 0), (.bipush 6, 0, 0, 6), (.if_icmp .le 6, 22, 0, 0), (.nop, 19, 0, 0)]
def bk_73_19 : List mIns := [(.bipush (-2), 0, 0, (-2)), (.ireturn, 0, 0, 0)]
def bk_73_22 : List mIns := [(.aload_n 0, 0, 0, 0), (.getfield 12, 7, 0, 2), (.getfield 79, 4, 0, 2), (.iload_n 1, 1, 0, 0), (.aaload, 4, 6, 0), (.astore_n 3, 3, 0, 0), (.aload_n 3, 3, 0, 0), (.getfield 83, 6, 3, 1), (.ifCond .ne 6, 42, 0, 0), (.bipush (-4), 0, 0, (-4)), (.ireturn, 0, 0, 0)]
def bk_73_42 : List mIns := [(.iload_n 2, 2, 0, 0), (.tableswitch 75 0 5 #[37, 42, 55, 60, 65, 70], 43, 37, 0)]
def bk_73_80 : List mIns := [(.aload_n 3, 3, 0, 0), (.getfield 114, 6, 5, 0), (.ireturn, 0, 0, 0)]
def bk_73_85 : List mIns := [(.aload_n 3, 3, 0, 0), (.getfield 121, 6, 4, 1), (.ifCond .eq 7, 96, 0, 0), (.iconst 1, 0, 0, 1), (.goto 4, 97, 0, 0)]
def bk_73_96 : List mIns := [(.iconst 0, 0, 0, 0), (.nop, 97, 0, 0)]
def bk_73_97 : List mIns := [(.ireturn, 0, 0, 0)]
def bk_73_98 : List mIns := [(.aload_n 3, 3, 0, 0), (.invokevirtual 219, 53, 1, 0), (.ireturn, 0, 0, 0)]
def bk_73_103 : List mIns := [(.aload_n 3, 3, 0, 0), (.invokevirtual 147, 54, 1, 0), (.ireturn, 0, 0, 0)]
def bk_73_108 : List mIns := [(.aload_n 3, 3, 0, 0), (.getfield 222, 6, 6, 0), (.ireturn, 0, 0, 0)]
def bk_73_113 : List mIns := [(.aload_n 3, 3, 0, 0), (.invokevirtual 225, 56, 1, 0), (.ireturn, 0, 0, 0)]
def bk_73_118 : List mIns := [(.aload_n 3, 3, 0, 0), (.aload_n 3, 3, 0, 0), (.invokevirtual 225, 56, 1, 0), (.invokevirtual 228, 57, 2, 0), (.ireturn, 0, 0, 0)]
def bk_74_0 : List mIns := [(.iload_n 1, 1, 0, 0), (.invokestatic 72, 82, 1, 0), (.ifCond .eq 19, 23, 0, 0), (.aload_n 0, 0, 0, 0), (.getfield 12, 7, 0, 2), (.getfield 79, 4, 0, 2), (.iload_n 1, 1, 0, 0), (.aaload, 4, 6, 0), (.iload_n 2, 2, 0, 0), (.invokevirtual 231, 38, 2, 0), (.ifCond .ne 5, 25, 0, 0), (.nop, 23, 0, 0)]
def bk_74_23 : List mIns := [(.iconst (-1), 0, 0, (-1)), (.ireturn, 0, 0, 0)]
def bk_74_25 : List mIns := [(.aload_n 0, 0, 0, 0), (.getfield 12, 7, 0, 2), (.getfield 79, 4, 0, 2), (.iload_n 1, 1, 0, 0), (.aaload, 4, 6, 0), (.astore 4, 4, 0, 0), (.iload_n 3, 3, 0, 0), (.tableswitch 93 0 3 #[31, 39, 47, 74], 37, 31, 0)]
def bk_74_68 : List mIns := [(.aload 4, 4, 0, 0), (.getfield 234, 6, 0, 2), (.iload_n 2, 2, 0, 0), (.iaload, 0, 0, 0), (.ireturn, 0, 0, 0)]
def bk_74_76 : List mIns := [(.aload 4, 4, 0, 0), (.getfield 237, 6, 1, 2), (.iload_n 2, 2, 0, 0), (.iaload, 0, 0, 0), (.ireturn, 0, 0, 0)]
def bk_74_84 : List mIns := [(.aload 4, 4, 0, 0), (.getfield 240, 6, 2, 2), (.iload_n 2, 2, 0, 0), (.iaload, 0, 0, 0), (.iconst (-1), 0, 0, (-1)), (.if_icmp .ne 8, 100, 0, 0), (.bipush (-5), 0, 0, (-5)), (.goto 13, 110, 0, 0)]
def bk_74_100 : List mIns := [(.bipush 97, 0, 0, 97), (.aload 4, 4, 0, 0), (.getfield 240, 6, 2, 2), (.iload_n 2, 2, 0, 0), (.iaload, 0, 0, 0), (.iadd, 0, 0, 0), (.nop, 110, 0, 0)]
def bk_74_110 : List mIns := [(.ireturn, 0, 0, 0)]
def bk_74_111 : List mIns := [(.aload_n 0, 0, 0, 0), (.getfield 12, 7, 0, 2), (.getfield 61, 4, 2, 0), (.bipush 9, 0, 0, 9), (.iload_n 2, 2, 0, 0), (.aload 4, 4, 0, 0), (.invokevirtual 243, 37, 1, 0), (.invokestatic 246, 87, 4, 0), (.ireturn, 0, 0, 0)]
def bk_74_130 : List mIns := [(.bipush (-2), 0, 0, (-2)), (.ireturn, 0, 0, 0)]
def bk_75_0 : List mIns := [(.iload_n 1, 1, 0, 0), (.invokestatic 72, 82, 1, 0), (.ifCond .eq 19, 23, 0, 0), (.aload_n 0, 0, 0, 0), (.getfield 12, 7, 0, 2), (.getfield 79, 4, 0, 2), (.iload_n 1, 1, 0, 0), (.aaload, 4, 6, 0), (.iload_n 3, 3, 0, 0), (.invokevirtual 90, 39, 2, 0), (.ifCond .ne 5, 25, 0, 0), (.nop, 23, 0, 0)]
def bk_75_23 : List mIns := [(.iconst (-1), 0, 0, (-1)), (.ireturn, 0, 0, 0)]
def bk_75_25 : List mIns := [(.iload_n 2, 2, 0, 0), (.invokestatic 127, 84, 1, 0), (.ifCond .ne 6, 35, 0, 0), (.bipush (-2), 0, 0, (-2)), (.ireturn, 0, 0, 0)]
def bk_75_35 : List mIns := [(.aload_n 0, 0, 0, 0), (.getfield 12, 7, 0, 2), (.getfield 79, 4, 0, 2), (.iload_n 1, 1, 0, 0), (.aaload, 4, 6, 0), (.astore 4, 4, 0, 0), (.aload 4, 4, 0, 0), (.iload_n 2, 2, 0, 0), (.invokevirtual 130, 40, 2, 0), (.ifCond .ne 6, 58, 0, 0), (.bipush (-4), 0, 0, (-4)), (.ireturn, 0, 0, 0)]
def bk_75_58 : List mIns := [(.aload_n 0, 0, 0, 0), (.getfield 47, 7, 6, 2), (.aload 4, 4, 0, 0), (.iload_n 2, 2, 0, 0), (.invokevirtual 133, 18, 3, 0), (.aload_n 0, 0, 0, 0), (.getfield 47, 7, 6, 2), (.getfield 139, 3, 0, 2), (.iload_n 3, 3, 0, 0), (.iaload, 0, 0, 0), (.istore 5, 5, 0, 0), (.iload 5, 5, 0, 0), (.iconst (-1), 0, 0, (-1)), (.if_icmp .ne 8, 90, 0, 0), (.bipush 63, 0, 0, 63), (.goto 8, 95, 0, 0)]
def bk_75_90 : List mIns := [(.bipush 97, 0, 0, 97), (.iload 5, 5, 0, 0), (.iadd, 0, 0, 0), (.nop, 95, 0, 0)]
def bk_75_95 : List mIns := [(.ireturn, 0, 0, 0)]
def bk_76_0 : List mIns := [(.iload_n 1, 1, 0, 0), (.invokestatic 72, 82, 1, 0), (.ifCond .ne 5, 9, 0, 0), (.iconst (-1), 0, 0, (-1)), (.ireturn, 0, 0, 0)]
def bk_76_9 : List mIns := [(.iload_n 2, 2, 0, 0), (.invokestatic 127, 84, 1, 0), (.ifCond .eq 12, 25, 0, 0), (.iload_n 3, 3, 0, 0), (.ifCond .lt 8, 25, 0, 0), (.iload_n 3, 3, 0, 0), (.iconst 2, 0, 0, 2), (.if_icmp .le 6, 28, 0, 0), (.nop, 25, 0, 0)]
def bk_76_25 : List mIns := [(.bipush (-2), 0, 0, (-2)), (.ireturn, 0, 0, 0)]
def bk_76_28 : List mIns := [(.aload_n 0, 0, 0, 0), (.getfield 12, 7, 0, 2), (.getfield 79, 4, 0, 2), (.iload_n 1, 1, 0, 0), (.aaload, 4, 6, 0), (.astore 4, 4, 0, 0), (.aload 4, 4, 0, 0), (.iload_n 2, 2, 0, 0), (.invokevirtual 130, 40, 2, 0), (.ifCond .ne 6, 51, 0, 0), (.bipush (-4), 0, 0, (-4)), (.ireturn, 0, 0, 0)]
def bk_76_51 : List mIns := [(.aload_n 0, 0, 0, 0), (.getfield 47, 7, 6, 2), (.aload 4, 4, 0, 0), (.iload_n 2, 2, 0, 0), (.invokevirtual 133, 18, 3, 0), (.iload_n 3, 3, 0, 0), (.ifCond .ne 11, 73, 0, 0), (.aload_n 0, 0, 0, 0), (.getfield 47, 7, 6, 2), (.getfield 150, 3, 1, 0), (.ireturn, 0, 0, 0)]
def bk_76_73 : List mIns := [(.iload_n 3, 3, 0, 0), (.iconst 1, 0, 0, 1), (.if_icmp .ne 11, 86, 0, 0), (.aload_n 0, 0, 0, 0), (.getfield 47, 7, 6, 2), (.getfield 136, 3, 2, 0), (.ireturn, 0, 0, 0)]
def bk_76_86 : List mIns := [(.aload_n 0, 0, 0, 0), (.getfield 47, 7, 6, 2), (.getfield 250, 3, 3, 0), (.iconst (-1), 0, 0, (-1)), (.if_icmp .ne 8, 102, 0, 0), (.bipush (-5), 0, 0, (-5)), (.goto 10, 109, 0, 0)]
def bk_76_102 : List mIns := [(.aload_n 0, 0, 0, 0), (.getfield 47, 7, 6, 2), (.getfield 250, 3, 3, 0), (.nop, 109, 0, 0)]
def bk_76_109 : List mIns := [(.ireturn, 0, 0, 0)]
def bk_77_0 : List mIns := [(.iload_n 1, 1, 0, 0), (.invokestatic 72, 82, 1, 0), (.ifCond .ne 5, 9, 0, 0), (.iconst (-1), 0, 0, (-1)), (.ireturn, 0, 0, 0)]
def bk_77_9 : List mIns := [(.aload_n 0, 0, 0, 0), (.getfield 12, 7, 0, 2), (.getfield 79, 4, 0, 2), (.iload_n 1, 1, 0, 0), (.aaload, 4, 6, 0), (.astore_n 2, 2, 0, 0), (.aload_n 2, 2, 0, 0), (.getfield 83, 6, 3, 1), (.ifCond .ne 6, 29, 0, 0), (.bipush (-4), 0, 0, (-4)), (.ireturn, 0, 0, 0)]
def bk_77_29 : List mIns := [(.iconst 0, 0, 0, 0), (.istore_n 3, 3, 0, 0), (.bipush 31, 0, 0, 31), (.istore 4, 4, 0, 0), (.iconst 0, 0, 0, 0), (.istore 5, 5, 0, 0), (.nop, 38, 0, 0)]
def bk_77_38 : List mIns := [(.iload 5, 5, 0, 0), (.iconst 2, 0, 0, 2), (.if_icmp .gt 52, 93, 0, 0), (.aload_n 2, 2, 0, 0), (.iload 5, 5, 0, 0), (.invokevirtual 130, 40, 2, 0), (.ifCond .eq 37, 87, 0, 0), (.aload_n 0, 0, 0, 0), (.getfield 47, 7, 6, 2), (.aload_n 2, 2, 0, 0), (.iload 5, 5, 0, 0), (.invokevirtual 133, 18, 3, 0), (.aload_n 0, 0, 0, 0), (.getfield 47, 7, 6, 2), (.invokevirtual 253, 22, 1, 0), (.iload 4, 4, 0, 0), (.if_icmp .ge 15, 87, 0, 0), (.aload_n 0, 0, 0, 0), (.getfield 47, 7, 6, 2), (.invokevirtual 253, 22, 1, 0), (.istore 4, 4, 0, 0), (.iload 5, 5, 0, 0), (.istore_n 3, 3, 0, 0), (.nop, 87, 0, 0)]
def bk_77_87 : List mIns := [(.iinc 5 1, 5, 0, 1), (.goto (-52), 38, 0, 0)]
def bk_77_93 : List mIns := [(.iload_n 3, 3, 0, 0), (.ireturn, 0, 0, 0)]
def bk_78_0 : List mIns := [(.iload_n 1, 1, 0, 0), (.invokestatic 72, 82, 1, 0), (.ifCond .ne 5, 9, 0, 0), (.iconst (-1), 0, 0, (-1)), (.ireturn, 0, 0, 0)]
def bk_78_9 : List mIns := [(.iload_n 2, 2, 0, 0), (.invokestatic 256, 85, 1, 0), (.ifCond .eq 22, 35, 0, 0), (.iload_n 3, 3, 0, 0), (.invokestatic 76, 83, 1, 0), (.ifCond .eq 15, 35, 0, 0), (.iload 4, 4, 0, 0), (.ifCond .lt 10, 35, 0, 0), (.iload 4, 4, 0, 0), (.bipush 30, 0, 0, 30), (.if_icmp .le 6, 38, 0, 0), (.nop, 35, 0, 0)]
def bk_78_35 : List mIns := [(.bipush (-2), 0, 0, (-2)), (.ireturn, 0, 0, 0)]
def bk_78_38 : List mIns := [(.aload_n 0, 0, 0, 0), (.getfield 12, 7, 0, 2), (.getfield 79, 4, 0, 2), (.iload_n 1, 1, 0, 0), (.aaload, 4, 6, 0), (.astore 5, 5, 0, 0), (.aload 5, 5, 0, 0), (.getfield 83, 6, 3, 1), (.ifCond .ne 6, 60, 0, 0), (.bipush (-4), 0, 0, (-4)), (.ireturn, 0, 0, 0)]
def bk_78_60 : List mIns := [(.aload_n 0, 0, 0, 0), (.getfield 57, 7, 8, 2), (.aload 5, 5, 0, 0), (.invokevirtual 259, 36, 2, 0), (.iconst 1, 0, 0, 1), (.istore 6, 6, 0, 0), (.iconst 0, 0, 0, 0), (.istore 7, 7, 0, 0), (.nop, 75, 0, 0)]
def bk_78_75 : List mIns := [(.iload 7, 7, 0, 0), (.iload 4, 4, 0, 0), (.if_icmp .ge 56, 135, 0, 0), (.iload 6, 6, 0, 0), (.ifCond .eq 51, 135, 0, 0), (.aload_n 0, 0, 0, 0), (.getfield 57, 7, 8, 2), (.aload_n 0, 0, 0, 0), (.getfield 12, 7, 0, 2), (.getfield 61, 4, 2, 0), (.aload_n 0, 0, 0, 0), (.getfield 12, 7, 0, 2), (.getfield 69, 4, 3, 0), (.iload_n 3, 3, 0, 0), (.invokevirtual 261, 51, 4, 0), (.istore 8, 8, 0, 0), (.iload 8, 8, 0, 0), (.iconst (-1), 0, 0, (-1)), (.if_icmp .eq 15, 129, 0, 0), (.aload_n 0, 0, 0, 0), (.getfield 57, 7, 8, 2), (.iload 8, 8, 0, 0), (.invokevirtual 264, 52, 2, 0), (.iconst 0, 0, 0, 0), (.istore 6, 6, 0, 0), (.nop, 129, 0, 0)]
def bk_78_129 : List mIns := [(.iinc 7 1, 7, 0, 1), (.goto (-57), 75, 0, 0)]
def bk_78_135 : List mIns := [(.aload_n 0, 0, 0, 0), (.getfield 51, 7, 7, 2), (.aload_n 0, 0, 0, 0), (.getfield 57, 7, 8, 2), (.iload_n 2, 2, 0, 0), (.invokevirtual 133, 18, 3, 0), (.aload_n 0, 0, 0, 0), (.getfield 51, 7, 7, 2), (.invokevirtual 253, 22, 1, 0), (.aload 5, 5, 0, 0), (.getfield 114, 6, 5, 0), (.iadd, 0, 0, 0), (.aload_n 0, 0, 0, 0), (.getfield 57, 7, 8, 2), (.getfield 114, 6, 5, 0), (.isub, 0, 0, 0), (.ireturn, 0, 0, 0)]
def bk_79_0 : List mIns := [(.iload_n 1, 1, 0, 0), (.invokestatic 72, 82, 1, 0), (.ifCond .ne 5, 9, 0, 0), (.iconst (-1), 0, 0, (-1)), (.ireturn, 0, 0, 0)]
def bk_79_9 : List mIns := [(.iload_n 2, 2, 0, 0), (.invokestatic 256, 85, 1, 0), (.ifCond .eq 10, 23, 0, 0), (.iload_n 3, 3, 0, 0), (.invokestatic 76, 83, 1, 0), (.ifCond .ne 6, 26, 0, 0), (.nop, 23, 0, 0)]
def bk_79_23 : List mIns := [(.bipush (-2), 0, 0, (-2)), (.ireturn, 0, 0, 0)]
def bk_79_26 : List mIns := [(.aload_n 0, 0, 0, 0), (.getfield 12, 7, 0, 2), (.getfield 79, 4, 0, 2), (.iload_n 1, 1, 0, 0), (.aaload, 4, 6, 0), (.astore 4, 4, 0, 0), (.aload 4, 4, 0, 0), (.getfield 83, 6, 3, 1), (.ifCond .ne 6, 48, 0, 0), (.bipush (-4), 0, 0, (-4)), (.ireturn, 0, 0, 0)]
def bk_79_48 : List mIns := [(.aload_n 0, 0, 0, 0), (.getfield 47, 7, 6, 2), (.aload 4, 4, 0, 0), (.iload_n 2, 2, 0, 0), (.invokevirtual 133, 18, 3, 0), (.aload_n 0, 0, 0, 0), (.getfield 57, 7, 8, 2), (.aload 4, 4, 0, 0), (.invokevirtual 259, 36, 2, 0), (.iconst 0, 0, 0, 0), (.istore 5, 5, 0, 0), (.nop, 70, 0, 0)]
def bk_79_70 : List mIns := [(.iload 5, 5, 0, 0), (.bipush 30, 0, 0, 30), (.if_icmp .ge 72, 146, 0, 0), (.aload_n 0, 0, 0, 0), (.getfield 57, 7, 8, 2), (.aload_n 0, 0, 0, 0), (.getfield 12, 7, 0, 2), (.getfield 61, 4, 2, 0), (.aload_n 0, 0, 0, 0), (.getfield 12, 7, 0, 2), (.getfield 69, 4, 3, 0), (.iload_n 3, 3, 0, 0), (.invokevirtual 261, 51, 4, 0), (.iconst (-1), 0, 0, (-1)), (.if_icmp .eq 6, 106, 0, 0), (.iload 5, 5, 0, 0), (.ireturn, 0, 0, 0)]
def bk_79_106 : List mIns := [(.aload_n 0, 0, 0, 0), (.getfield 51, 7, 7, 2), (.aload_n 0, 0, 0, 0), (.getfield 57, 7, 8, 2), (.iload_n 2, 2, 0, 0), (.invokevirtual 133, 18, 3, 0), (.aload_n 0, 0, 0, 0), (.getfield 51, 7, 7, 2), (.aload_n 0, 0, 0, 0), (.getfield 47, 7, 6, 2), (.aload 4, 4, 0, 0), (.getfield 114, 6, 5, 0), (.invokevirtual 267, 23, 3, 0), (.ifCond .ne 6, 140, 0, 0), (.iload 5, 5, 0, 0), (.ireturn, 0, 0, 0)]
def bk_79_140 : List mIns := [(.iinc 5 1, 5, 0, 1), (.goto (-73), 70, 0, 0)]
def bk_79_146 : List mIns := [(.bipush 30, 0, 0, 30), (.ireturn, 0, 0, 0)]
def bk_80_0 : List mIns := [(.iload_n 1, 1, 0, 0), (.ifCond .lt 12, 13, 0, 0), (.iload_n 2, 2, 0, 0), (.ifCond .lt 8, 13, 0, 0), (.iload_n 2, 2, 0, 0), (.iconst 2, 0, 0, 2), (.if_icmp .le 6, 16, 0, 0), (.nop, 13, 0, 0)]
def bk_80_13 : List mIns := [(.bipush (-2), 0, 0, (-2)), (.ireturn, 0, 0, 0)]
def bk_80_16 : List mIns := [(.aload_n 0, 0, 0, 0), (.getfield 12, 7, 0, 2), (.getfield 104, 4, 1, 2), (.iload_n 1, 1, 0, 0), (.iload_n 2, 2, 0, 0), (.invokevirtual 271, 16, 3, 0), (.ireturn, 0, 0, 0)]
def bk_81_0 : List mIns := [(.iload_n 1, 1, 0, 0), (.tableswitch 147 0 10 #[59, 67, 75, 83, 91, 99, 107, 115, 123, 131, 139], 1, 59, 0)]
def bk_81_60 : List mIns := [(.aload_n 0, 0, 0, 0), (.getfield 12, 7, 0, 2), (.invokevirtual 216, 26, 1, 0), (.ireturn, 0, 0, 0)]
def bk_81_68 : List mIns := [(.aload_n 0, 0, 0, 0), (.getfield 12, 7, 0, 2), (.invokevirtual 274, 27, 1, 0), (.ireturn, 0, 0, 0)]
def bk_81_76 : List mIns := [(.aload_n 0, 0, 0, 0), (.getfield 12, 7, 0, 2), (.getfield 277, 4, 4, 0), (.ireturn, 0, 0, 0)]
def bk_81_84 : List mIns := [(.aload_n 0, 0, 0, 0), (.getfield 12, 7, 0, 2), (.getfield 101, 4, 5, 0), (.ireturn, 0, 0, 0)]
def bk_81_92 : List mIns := [(.aload_n 0, 0, 0, 0), (.getfield 12, 7, 0, 2), (.getfield 280, 4, 6, 0), (.ireturn, 0, 0, 0)]
def bk_81_100 : List mIns := [(.aload_n 0, 0, 0, 0), (.getfield 12, 7, 0, 2), (.getfield 281, 4, 7, 0), (.ireturn, 0, 0, 0)]
def bk_81_108 : List mIns := [(.aload_n 0, 0, 0, 0), (.getfield 12, 7, 0, 2), (.getfield 284, 4, 8, 0), (.ireturn, 0, 0, 0)]
def bk_81_116 : List mIns := [(.aload_n 0, 0, 0, 0), (.getfield 12, 7, 0, 2), (.getfield 61, 4, 2, 0), (.ireturn, 0, 0, 0)]
def bk_81_124 : List mIns := [(.aload_n 0, 0, 0, 0), (.getfield 12, 7, 0, 2), (.getfield 69, 4, 3, 0), (.ireturn, 0, 0, 0)]
def bk_81_132 : List mIns := [(.aload_n 0, 0, 0, 0), (.getfield 19, 7, 1, 2), (.getfield 212, 1, 1, 0), (.ireturn, 0, 0, 0)]
def bk_81_140 : List mIns := [(.aload_n 0, 0, 0, 0), (.getfield 33, 7, 4, 2), (.getfield 156, 5, 1, 0), (.ireturn, 0, 0, 0)]
def bk_81_148 : List mIns := [(.bipush (-2), 0, 0, (-2)), (.ireturn, 0, 0, 0)]
def bk_82_0 : List mIns := [(.iload_n 0, 0, 0, 0), (.ifCond .lt 13, 14, 0, 0), (.iload_n 0, 0, 0, 0), (.bipush 6, 0, 0, 6), (.if_icmp .ge 7, 14, 0, 0), (.iconst 1, 0, 0, 1), (.goto 4, 15, 0, 0)]
def bk_82_14 : List mIns := [(.iconst 0, 0, 0, 0), (.nop, 15, 0, 0)]
def bk_82_15 : List mIns := [(.ireturn, 0, 0, 1)]
def bk_83_0 : List mIns := [(.iload_n 0, 0, 0, 0), (.ifCond .lt 13, 14, 0, 0), (.iload_n 0, 0, 0, 0), (.bipush 9, 0, 0, 9), (.if_icmp .gt 7, 14, 0, 0), (.iconst 1, 0, 0, 1), (.goto 4, 15, 0, 0)]
def bk_83_14 : List mIns := [(.iconst 0, 0, 0, 0), (.nop, 15, 0, 0)]
def bk_83_15 : List mIns := [(.ireturn, 0, 0, 1)]
def bk_84_0 : List mIns := [(.iload_n 0, 0, 0, 0), (.ifCond .lt 12, 13, 0, 0), (.iload_n 0, 0, 0, 0), (.iconst 2, 0, 0, 2), (.if_icmp .gt 7, 13, 0, 0), (.iconst 1, 0, 0, 1), (.goto 4, 14, 0, 0)]
def bk_84_13 : List mIns := [(.iconst 0, 0, 0, 0), (.nop, 14, 0, 0)]
def bk_84_14 : List mIns := [(.ireturn, 0, 0, 1)]
def bk_85_0 : List mIns := [(.iload_n 0, 0, 0, 0), (.ifCond .eq 8, 9, 0, 0), (.iload_n 0, 0, 0, 0), (.iconst 1, 0, 0, 1), (.if_icmp .ne 7, 13, 0, 0), (.nop, 9, 0, 0)]
def bk_85_9 : List mIns := [(.iconst 1, 0, 0, 1), (.goto 4, 14, 0, 0)]
def bk_85_13 : List mIns := [(.iconst 0, 0, 0, 0), (.nop, 14, 0, 0)]
def bk_85_14 : List mIns := [(.ireturn, 0, 0, 1)]
def bk_86_0 : List mIns := [(.sipush 2000, 0, 0, 2000), (.sipush 1000, 0, 0, 1000), (.iload_n 0, 0, 0, 0), (.imul, 0, 0, 0), (.iadd, 0, 0, 0), (.ireturn, 0, 0, 0)]
def bk_87_0 : List mIns := [(.iload_n 0, 0, 0, 0), (.iconst 1, 0, 0, 1), (.if_icmp .ne 13, 15, 0, 0), (.iconst 2, 0, 0, 2), (.iload_n 1, 1, 0, 0), (.imul, 0, 0, 0), (.iload_n 1, 1, 0, 0), (.imul, 0, 0, 0), (.iload_n 1, 1, 0, 0), (.iload_n 2, 2, 0, 0), (.imul, 0, 0, 0), (.iadd, 0, 0, 0), (.ireturn, 0, 0, 0)]
def bk_87_15 : List mIns := [(.iload_n 0, 0, 0, 0), (.iconst 2, 0, 0, 2), (.if_icmp .ne 17, 34, 0, 0), (.iconst 2, 0, 0, 2), (.iload_n 1, 1, 0, 0), (.imul, 0, 0, 0), (.iload_n 1, 1, 0, 0), (.imul, 0, 0, 0), (.iload_n 1, 1, 0, 0), (.iload_n 3, 3, 0, 0), (.iconst 1, 0, 0, 1), (.isub, 0, 0, 0), (.iload_n 2, 2, 0, 0), (.isub, 0, 0, 0), (.imul, 0, 0, 0), (.iadd, 0, 0, 0), (.ireturn, 0, 0, 0)]
def bk_87_34 : List mIns := [(.iconst 4, 0, 0, 4), (.iload_n 1, 1, 0, 0), (.imul, 0, 0, 0), (.iload_n 1, 1, 0, 0), (.imul, 0, 0, 0), (.ireturn, 0, 0, 0)]
def bk_88_0 : List mIns := [(.aload_n 0, 0, 0, 0), (.invokespecial 1, 0, 0, 0), (.aload_n 0, 0, 0, 0), (.sipush 626, 0, 0, 626), (.newarray .int, 2, 0, 0), (.putfield 7, 8, 0, 5), (.aload_n 0, 0, 0, 0), (.sipush 2504, 0, 0, 2504), (.newarray .int, 2, 0, 0), (.putfield 13, 8, 1, 5), (.aload_n 0, 0, 0, 0), (.sipush 626, 0, 0, 626), (.newarray .int, 2, 0, 0), (.putfield 16, 8, 3, 5), (.aload_n 0, 0, 0, 0), (.sipush 626, 0, 0, 626), (.newarray .int, 2, 0, 0), (.putfield 19, 8, 5, 5), (.aload_n 0, 0, 0, 0), (.bipush 30, 0, 0, 30), (.newarray .int, 2, 0, 0), (.putfield 22, 8, 6, 5), (.aload_n 0, 0, 0, 0), (.bipush 50, 0, 0, 50), (.newarray .char, 3, 0, 0), (.putfield 25, 8, 8, 5), (.aload_n 0, 0, 0, 0), (.bipush 30, 0, 0, 30), (.newarray .int, 2, 0, 0), (.putfield 29, 8, 14, 5), (.aload_n 0, 0, 0, 0), (.getfield 7, 8, 0, 2), (.sipush 589, 0, 0, 589), (.sipush 130, 0, 0, 130), (.iastore, 0, 0, 0), (.return_, 0, 0, 0)]
def bk_89_0 : List mIns := [(.iload_n 0, 0, 0, 0), (.iload_n 1, 1, 0, 0), (.if_icmp .lt 12, 14, 0, 0), (.iload_n 0, 0, 0, 0), (.iload_n 2, 2, 0, 0), (.if_icmp .gt 7, 14, 0, 0), (.iconst 1, 0, 0, 1), (.goto 4, 15, 0, 0)]
def bk_89_14 : List mIns := [(.iconst 0, 0, 0, 0), (.nop, 15, 0, 0)]
def bk_89_15 : List mIns := [(.ireturn, 0, 0, 1)]
def bk_90_0 : List mIns := [(.iload_n 0, 0, 0, 0), (.iconst 0, 0, 0, 0), (.iconst 5, 0, 0, 5), (.invokestatic 32, 89, 3, 0), (.ifCond .ne 7, 13, 0, 0), (.iconst 1, 0, 0, 1), (.goto 4, 14, 0, 0)]
def bk_90_13 : List mIns := [(.iconst 0, 0, 0, 0), (.nop, 14, 0, 0)]
def bk_90_14 : List mIns := [(.ireturn, 0, 0, 1)]
def bk_91_0 : List mIns := [(.aload_n 0, 0, 0, 0), (.getfield 7, 8, 0, 2), (.bipush 98, 0, 0, 98), (.iload_n 1, 1, 0, 0), (.imul, 0, 0, 0), (.iload_n 2, 2, 0, 0), (.iadd, 0, 0, 0), (.iaload, 0, 0, 0), (.ireturn, 0, 0, 0)]
def bk_92_0 : List mIns := [(.aload_n 0, 0, 0, 0), (.getfield 7, 8, 0, 2), (.bipush 98, 0, 0, 98), (.iload_n 1, 1, 0, 0), (.imul, 0, 0, 0), (.iload_n 2, 2, 0, 0), (.iadd, 0, 0, 0), (.iload_n 3, 3, 0, 0), (.iastore, 0, 0, 0), (.return_, 0, 0, 0)]
def bk_93_0 : List mIns := [(.aload_n 0, 0, 0, 0), (.iload_n 1, 1, 0, 0), (.iconst 0, 0, 0, 0), (.invokevirtual 36, 91, 3, 0), (.ifCond .ne 7, 13, 0, 0), (.iconst 1, 0, 0, 1), (.goto 4, 14, 0, 0)]
def bk_93_13 : List mIns := [(.iconst 0, 0, 0, 0), (.nop, 14, 0, 0)]
def bk_93_14 : List mIns := [(.ireturn, 0, 0, 1)]
def bk_94_0 : List mIns := [(.aload_n 0, 0, 0, 0), (.iload_n 1, 1, 0, 0), (.iconst 2, 0, 0, 2), (.invokevirtual 36, 91, 3, 0), (.iconst 1, 0, 0, 1), (.iadd, 0, 0, 0), (.aload_n 0, 0, 0, 0), (.iload_n 1, 1, 0, 0), (.iconst 1, 0, 0, 1), (.invokevirtual 36, 91, 3, 0), (.iadd, 0, 0, 0), (.ireturn, 0, 0, 0)]
def bk_95_0 : List mIns := [(.aload_n 0, 0, 0, 0), (.getfield 40, 8, 2, 0), (.iconst 4, 0, 0, 4), (.if_icmp .ne 44, 49, 0, 0), (.iconst 0, 0, 0, 0), (.istore_n 1, 1, 0, 0), (.nop, 10, 0, 0)]
def bk_95_10 : List mIns := [(.iload_n 1, 1, 0, 0), (.sipush 1878, 0, 0, 1878), (.if_icmp .ge 25, 39, 0, 0), (.aload_n 0, 0, 0, 0), (.getfield 13, 8, 1, 2), (.iload_n 1, 1, 0, 0), (.aload_n 0, 0, 0, 0), (.getfield 13, 8, 1, 2), (.iload_n 1, 1, 0, 0), (.sipush 626, 0, 0, 626), (.iadd, 0, 0, 0), (.iaload, 0, 0, 0), (.iastore, 0, 0, 0), (.iinc 1 1, 1, 0, 1), (.goto (-26), 10, 0, 0)]
def bk_95_39 : List mIns := [(.aload_n 0, 0, 0, 0), (.dup, 0, 0, 0), (.getfield 40, 8, 2, 0), (.iconst 1, 0, 0, 1), (.isub, 0, 0, 0), (.putfield 40, 8, 2, 0), (.nop, 49, 0, 0)]
def bk_95_49 : List mIns := [(.iconst 0, 0, 0, 0), (.istore_n 1, 1, 0, 0), (.nop, 51, 0, 0)]
def bk_95_51 : List mIns := [(.iload_n 1, 1, 0, 0), (.sipush 626, 0, 0, 626), (.if_icmp .ge 30, 85, 0, 0), (.aload_n 0, 0, 0, 0), (.getfield 13, 8, 1, 2), (.sipush 626, 0, 0, 626), (.aload_n 0, 0, 0, 0), (.getfield 40, 8, 2, 0), (.imul, 0, 0, 0), (.iload_n 1, 1, 0, 0), (.iadd, 0, 0, 0), (.aload_n 0, 0, 0, 0), (.getfield 7, 8, 0, 2), (.iload_n 1, 1, 0, 0), (.iaload, 0, 0, 0), (.iastore, 0, 0, 0), (.iinc 1 1, 1, 0, 1), (.goto (-31), 51, 0, 0)]
def bk_95_85 : List mIns := [(.aload_n 0, 0, 0, 0), (.dup, 0, 0, 0), (.getfield 40, 8, 2, 0), (.iconst 1, 0, 0, 1), (.iadd, 0, 0, 0), (.putfield 40, 8, 2, 0), (.return_, 0, 0, 0)]
def bk_96_0 : List mIns := [(.aload_n 0, 0, 0, 0), (.getfield 7, 8, 0, 2), (.sipush 595, 0, 0, 595), (.iaload, 0, 0, 0), (.bipush 10, 0, 0, 10), (.if_icmp .ne 55, 65, 0, 0), (.iconst 0, 0, 0, 0), (.istore 4, 4, 0, 0), (.nop, 16, 0, 0)]
def bk_96_16 : List mIns := [(.iload 4, 4, 0, 0), (.bipush 27, 0, 0, 27), (.if_icmp .ge 33, 53, 0, 0), (.aload_n 0, 0, 0, 0), (.getfield 7, 8, 0, 2), (.sipush 596, 0, 0, 596), (.iload 4, 4, 0, 0), (.iadd, 0, 0, 0), (.aload_n 0, 0, 0, 0), (.getfield 7, 8, 0, 2), (.sipush 596, 0, 0, 596), (.iload 4, 4, 0, 0), (.iadd, 0, 0, 0), (.iconst 3, 0, 0, 3), (.iadd, 0, 0, 0), (.iaload, 0, 0, 0), (.iastore, 0, 0, 0), (.iinc 4 1, 4, 0, 1), (.goto (-34), 16, 0, 0)]
def bk_96_53 : List mIns := [(.aload_n 0, 0, 0, 0), (.getfield 7, 8, 0, 2), (.sipush 595, 0, 0, 595), (.dup2, 0, 0, 0), (.iaload, 0, 0, 0), (.iconst 1, 0, 0, 1), (.isub, 0, 0, 0), (.iastore, 0, 0, 0), (.nop, 65, 0, 0)]
def bk_96_65 : List mIns := [(.sipush 596, 0, 0, 596), (.iconst 3, 0, 0, 3), (.aload_n 0, 0, 0, 0), (.getfield 7, 8, 0, 2), (.sipush 595, 0, 0, 595), (.iaload, 0, 0, 0), (.imul, 0, 0, 0), (.iadd, 0, 0, 0), (.istore 4, 4, 0, 0), (.aload_n 0, 0, 0, 0), (.getfield 7, 8, 0, 2), (.iload 4, 4, 0, 0), (.iload_n 1, 1, 0, 0), (.iastore, 0, 0, 0), (.aload_n 0, 0, 0, 0), (.getfield 7, 8, 0, 2), (.iload 4, 4, 0, 0), (.iconst 1, 0, 0, 1), (.iadd, 0, 0, 0), (.iload_n 2, 2, 0, 0), (.iastore, 0, 0, 0), (.aload_n 0, 0, 0, 0), (.getfield 7, 8, 0, 2), (.iload 4, 4, 0, 0), (.iconst 2, 0, 0, 2), (.iadd, 0, 0, 0), (.iload_n 3, 3, 0, 0), (.iastore, 0, 0, 0), (.aload_n 0, 0, 0, 0), (.getfield 7, 8, 0, 2), (.sipush 595, 0, 0, 595), (.dup2, 0, 0, 0), (.iaload, 0, 0, 0), (.iconst 1, 0, 0, 1), (.iadd, 0, 0, 0), (.iastore, 0, 0, 0), (.return_, 0, 0, 0)]
def bk_97_0 : List mIns := [(.iload_n 1, 1, 0, 0), (.iconst 0, 0, 0, 0), (.iconst 2, 0, 0, 2), (.invokestatic 32, 89, 3, 0), (.ifCond .ne 6, 12, 0, 0), (.bipush (-2), 0, 0, (-2)), (.ireturn, 0, 0, 0)]
def bk_97_12 : List mIns := [(.aload_n 0, 0, 0, 0), (.getfield 7, 8, 0, 2), (.sipush 588, 0, 0, 588), (.iaload, 0, 0, 0), (.istore_n 2, 2, 0, 0), (.iload_n 2, 2, 0, 0), (.iload_n 1, 1, 0, 0), (.if_icmp .ne 6, 29, 0, 0), (.bipush (-5), 0, 0, (-5)), (.ireturn, 0, 0, 0)]
def bk_97_29 : List mIns := [(.aload_n 0, 0, 0, 0), (.invokevirtual 44, 95, 1, 0), (.aload_n 0, 0, 0, 0), (.getfield 7, 8, 0, 2), (.sipush 588, 0, 0, 588), (.iload_n 1, 1, 0, 0), (.iastore, 0, 0, 0), (.iload_n 2, 2, 0, 0), (.ireturn, 0, 0, 0)]
def bk_98_0 : List mIns := [(.iload_n 1, 1, 0, 0), (.bipush 101, 0, 0, 101), (.sipush 200, 0, 0, 200), (.invokestatic 32, 89, 3, 0), (.ifCond .ne 6, 15, 0, 0), (.bipush (-2), 0, 0, (-2)), (.ireturn, 0, 0, 0)]
def bk_98_15 : List mIns := [(.aload_n 0, 0, 0, 0), (.getfield 7, 8, 0, 2), (.sipush 589, 0, 0, 589), (.iaload, 0, 0, 0), (.istore_n 2, 2, 0, 0), (.iload_n 2, 2, 0, 0), (.iload_n 1, 1, 0, 0), (.if_icmp .ne 6, 32, 0, 0), (.bipush (-5), 0, 0, (-5)), (.ireturn, 0, 0, 0)]
def bk_98_32 : List mIns := [(.aload_n 0, 0, 0, 0), (.invokevirtual 44, 95, 1, 0), (.aload_n 0, 0, 0, 0), (.getfield 7, 8, 0, 2), (.sipush 589, 0, 0, 589), (.iload_n 1, 1, 0, 0), (.iastore, 0, 0, 0), (.iload_n 2, 2, 0, 0), (.ireturn, 0, 0, 0)]
def bk_99_0 : List mIns := [(.aload_n 0, 0, 0, 0), (.iload_n 1, 1, 0, 0), (.iconst 4, 0, 0, 4), (.iload_n 2, 2, 0, 0), (.iadd, 0, 0, 0), (.iload_n 3, 3, 0, 0), (.invokevirtual 47, 92, 4, 0), (.aload_n 0, 0, 0, 0), (.iload_n 1, 1, 0, 0), (.bipush 36, 0, 0, 36), (.iload_n 2, 2, 0, 0), (.iadd, 0, 0, 0), (.iload_n 3, 3, 0, 0), (.invokevirtual 47, 92, 4, 0), (.aload_n 0, 0, 0, 0), (.getfield 7, 8, 0, 2), (.sipush 591, 0, 0, 591), (.dup2, 0, 0, 0), (.iaload, 0, 0, 0), (.iload_n 3, 3, 0, 0), (.iadd, 0, 0, 0), (.iastore, 0, 0, 0), (.return_, 0, 0, 0)]
def bk_100_0 : List mIns := [(.aload_n 0, 0, 0, 0), (.iload_n 3, 3, 0, 0), (.iconst 4, 0, 0, 4), (.iload 4, 4, 0, 0), (.iadd, 0, 0, 0), (.aload_n 0, 0, 0, 0), (.iload_n 1, 1, 0, 0), (.iconst 4, 0, 0, 4), (.iload_n 2, 2, 0, 0), (.iadd, 0, 0, 0), (.invokevirtual 36, 91, 3, 0), (.invokevirtual 47, 92, 4, 0), (.aload_n 0, 0, 0, 0), (.iload_n 3, 3, 0, 0), (.bipush 36, 0, 0, 36), (.iload 4, 4, 0, 0), (.iadd, 0, 0, 0), (.aload_n 0, 0, 0, 0), (.iload_n 1, 1, 0, 0), (.bipush 36, 0, 0, 36), (.iload_n 2, 2, 0, 0), (.iadd, 0, 0, 0), (.invokevirtual 36, 91, 3, 0), (.invokevirtual 47, 92, 4, 0), (.return_, 0, 0, 0)]
def bk_101_0 : List mIns := [(.aload_n 0, 0, 0, 0), (.getfield 7, 8, 0, 2), (.sipush 588, 0, 0, 588), (.iaload, 0, 0, 0), (.ifCond .ne 9, 17, 0, 0), (.iconst 4, 0, 0, 4), (.iload_n 3, 3, 0, 0), (.imul, 0, 0, 0), (.iload_n 3, 3, 0, 0), (.imul, 0, 0, 0), (.ireturn, 0, 0, 0)]
def bk_101_17 : List mIns := [(.aload_n 0, 0, 0, 0), (.getfield 7, 8, 0, 2), (.sipush 588, 0, 0, 588), (.iaload, 0, 0, 0), (.iconst 1, 0, 0, 1), (.if_icmp .ne 7, 33, 0, 0), (.iload_n 2, 2, 0, 0), (.goto 12, 42, 0, 0)]
def bk_101_33 : List mIns := [(.aload_n 0, 0, 0, 0), (.iload_n 1, 1, 0, 0), (.invokevirtual 51, 94, 2, 0), (.iconst 1, 0, 0, 1), (.isub, 0, 0, 0), (.iload_n 2, 2, 0, 0), (.isub, 0, 0, 0), (.nop, 42, 0, 0)]
def bk_101_42 : List mIns := [(.istore 4, 4, 0, 0), (.iconst 2, 0, 0, 2), (.iload_n 3, 3, 0, 0), (.imul, 0, 0, 0), (.iload_n 3, 3, 0, 0), (.imul, 0, 0, 0), (.iload_n 3, 3, 0, 0), (.iload 4, 4, 0, 0), (.imul, 0, 0, 0), (.iadd, 0, 0, 0), (.ireturn, 0, 0, 0)]
def bk_102_0 : List mIns := [(.aload_n 0, 0, 0, 0), (.iload_n 1, 1, 0, 0), (.invokevirtual 51, 94, 2, 0), (.istore_n 3, 3, 0, 0), (.iload_n 3, 3, 0, 0), (.istore 4, 4, 0, 0), (.iconst 0, 0, 0, 0), (.istore 5, 5, 0, 0), (.nop, 12, 0, 0)]
def bk_102_12 : List mIns := [(.iload 5, 5, 0, 0), (.iload_n 3, 3, 0, 0), (.if_icmp .ge 88, 103, 0, 0), (.aload_n 0, 0, 0, 0), (.iload_n 1, 1, 0, 0), (.iconst 4, 0, 0, 4), (.iload 5, 5, 0, 0), (.iadd, 0, 0, 0), (.invokevirtual 36, 91, 3, 0), (.istore 6, 6, 0, 0), (.iload 6, 6, 0, 0), (.iload 6, 6, 0, 0), (.aload_n 0, 0, 0, 0), (.iload_n 1, 1, 0, 0), (.iload 5, 5, 0, 0), (.iload_n 2, 2, 0, 0), (.invokevirtual 55, 101, 4, 0), (.imul, 0, 0, 0), (.sipush 10000, 0, 0, 10000), (.idiv, 0, 0, 0), (.iadd, 0, 0, 0), (.istore 6, 6, 0, 0), (.aload_n 0, 0, 0, 0), (.iload_n 1, 1, 0, 0), (.iconst 4, 0, 0, 4), (.iload 5, 5, 0, 0), (.iadd, 0, 0, 0), (.iload 6, 6, 0, 0), (.invokevirtual 47, 92, 4, 0), (.iload 4, 4, 0, 0), (.iload_n 3, 3, 0, 0), (.if_icmp .ne 34, 97, 0, 0), (.iload 6, 6, 0, 0), (.bipush 100, 0, 0, 100), (.imul, 0, 0, 0), (.aload_n 0, 0, 0, 0), (.iload_n 1, 1, 0, 0), (.bipush 36, 0, 0, 36), (.iload 5, 5, 0, 0), (.iadd, 0, 0, 0), (.invokevirtual 36, 91, 3, 0), (.aload_n 0, 0, 0, 0), (.getfield 7, 8, 0, 2), (.sipush 589, 0, 0, 589), (.iaload, 0, 0, 0), (.imul, 0, 0, 0), (.if_icmp .le 7, 97, 0, 0), (.iload 5, 5, 0, 0), (.istore 4, 4, 0, 0), (.nop, 97, 0, 0)]
def bk_102_97 : List mIns := [(.iinc 5 1, 5, 0, 1), (.goto (-88), 12, 0, 0)]
def bk_102_103 : List mIns := [(.aload_n 0, 0, 0, 0), (.iload_n 1, 1, 0, 0), (.iconst 3, 0, 0, 3), (.aload_n 0, 0, 0, 0), (.iload_n 1, 1, 0, 0), (.iconst 3, 0, 0, 3), (.invokevirtual 36, 91, 3, 0), (.iconst 1, 0, 0, 1), (.iadd, 0, 0, 0), (.invokevirtual 47, 92, 4, 0), (.aload_n 0, 0, 0, 0), (.getfield 7, 8, 0, 2), (.sipush 590, 0, 0, 590), (.dup2, 0, 0, 0), (.iaload, 0, 0, 0), (.bipush 10, 0, 0, 10), (.iload_n 2, 2, 0, 0), (.isub, 0, 0, 0), (.iadd, 0, 0, 0), (.iastore, 0, 0, 0), (.aload_n 0, 0, 0, 0), (.getfield 7, 8, 0, 2), (.sipush 592, 0, 0, 592), (.dup2, 0, 0, 0), (.iaload, 0, 0, 0), (.iconst 1, 0, 0, 1), (.iadd, 0, 0, 0), (.iastore, 0, 0, 0), (.aload_n 0, 0, 0, 0), (.iconst 1, 0, 0, 1), (.iload_n 1, 1, 0, 0), (.iload_n 2, 2, 0, 0), (.invokevirtual 59, 96, 4, 0), (.iload 4, 4, 0, 0), (.iload_n 3, 3, 0, 0), (.if_icmp .ne 5, 159, 0, 0), (.iconst 0, 0, 0, 0), (.ireturn, 0, 0, 1)]
def bk_102_159 : List mIns := [(.iload 4, 4, 0, 0), (.ifCond .ne 7, 168, 0, 0), (.iconst 0, 0, 0, 0), (.goto 7, 172, 0, 0)]
def bk_102_168 : List mIns := [(.iload 4, 4, 0, 0), (.iconst 1, 0, 0, 1), (.isub, 0, 0, 0), (.nop, 172, 0, 0)]
def bk_102_172 : List mIns := [(.istore 5, 5, 0, 0), (.aload_n 0, 0, 0, 0), (.getfield 7, 8, 0, 2), (.sipush 593, 0, 0, 593), (.dup2, 0, 0, 0), (.iaload, 0, 0, 0), (.iconst 1, 0, 0, 1), (.iadd, 0, 0, 0), (.iastore, 0, 0, 0), (.aload_n 0, 0, 0, 0), (.getfield 7, 8, 0, 2), (.sipush 594, 0, 0, 594), (.dup2, 0, 0, 0), (.iaload, 0, 0, 0), (.iload 4, 4, 0, 0), (.iload_n 3, 3, 0, 0), (.iconst 1, 0, 0, 1), (.isub, 0, 0, 0), (.if_icmp .ne 17, 217, 0, 0), (.aload_n 0, 0, 0, 0), (.iload_n 1, 1, 0, 0), (.iconst 1, 0, 0, 1), (.invokevirtual 36, 91, 3, 0), (.iconst 1, 0, 0, 1), (.if_icmp .ne 7, 217, 0, 0), (.iconst 0, 0, 0, 0), (.goto 12, 226, 0, 0)]
def bk_102_217 : List mIns := [(.aload_n 0, 0, 0, 0), (.iload_n 1, 1, 0, 0), (.iconst 2, 0, 0, 2), (.invokevirtual 36, 91, 3, 0), (.iload 5, 5, 0, 0), (.isub, 0, 0, 0), (.nop, 226, 0, 0)]
def bk_102_226 : List mIns := [(.iadd, 0, 0, 0), (.iastore, 0, 0, 0), (.aload_n 0, 0, 0, 0), (.iconst 2, 0, 0, 2), (.iload_n 1, 1, 0, 0), (.iload_n 3, 3, 0, 0), (.iload 4, 4, 0, 0), (.isub, 0, 0, 0), (.invokevirtual 59, 96, 4, 0), (.aload_n 0, 0, 0, 0), (.iload_n 1, 1, 0, 0), (.iconst 0, 0, 0, 0), (.iload 4, 4, 0, 0), (.ifCond .ne 7, 250, 0, 0), (.iconst 0, 0, 0, 0), (.goto 4, 251, 0, 0)]
def bk_102_250 : List mIns := [(.iconst 1, 0, 0, 1), (.nop, 251, 0, 0)]
def bk_102_251 : List mIns := [(.invokevirtual 47, 92, 4, 0), (.aload_n 0, 0, 0, 0), (.iload_n 1, 1, 0, 0), (.iconst 1, 0, 0, 1), (.iconst 0, 0, 0, 0), (.invokevirtual 47, 92, 4, 0), (.aload_n 0, 0, 0, 0), (.iload_n 1, 1, 0, 0), (.iconst 2, 0, 0, 2), (.iload 4, 4, 0, 0), (.aload_n 0, 0, 0, 0), (.iload_n 1, 1, 0, 0), (.iconst 2, 0, 0, 2), (.invokevirtual 36, 91, 3, 0), (.if_icmp .le 12, 284, 0, 0), (.aload_n 0, 0, 0, 0), (.iload_n 1, 1, 0, 0), (.iconst 2, 0, 0, 2), (.invokevirtual 36, 91, 3, 0), (.goto 5, 286, 0, 0)]
def bk_102_284 : List mIns := [(.iload 5, 5, 0, 0), (.nop, 286, 0, 0)]
def bk_102_286 : List mIns := [(.invokevirtual 47, 92, 4, 0), (.iconst 1, 0, 0, 1), (.ireturn, 0, 0, 1)]
def bk_103_0 : List mIns := [(.iload_n 1, 1, 0, 0), (.invokestatic 62, 90, 1, 0), (.ifCond .eq 5, 9, 0, 0), (.iconst (-1), 0, 0, (-1)), (.ireturn, 0, 0, 0)]
def bk_103_9 : List mIns := [(.iload_n 2, 2, 0, 0), (.iconst 0, 0, 0, 0), (.bipush 9, 0, 0, 9), (.invokestatic 32, 89, 3, 0), (.ifCond .eq 13, 29, 0, 0), (.iload_n 3, 3, 0, 0), (.iconst 1, 0, 0, 1), (.bipush 30, 0, 0, 30), (.invokestatic 32, 89, 3, 0), (.ifCond .ne 6, 32, 0, 0), (.nop, 29, 0, 0)]
def bk_103_29 : List mIns := [(.bipush (-2), 0, 0, (-2)), (.ireturn, 0, 0, 0)]
def bk_103_32 : List mIns := [(.aload_n 0, 0, 0, 0), (.iload_n 1, 1, 0, 0), (.invokevirtual 66, 93, 2, 0), (.ifCond .eq 6, 43, 0, 0), (.bipush (-4), 0, 0, (-4)), (.ireturn, 0, 0, 0)]
def bk_103_43 : List mIns := [(.aload_n 0, 0, 0, 0), (.invokevirtual 44, 95, 1, 0), (.iconst 1, 0, 0, 1), (.istore 4, 4, 0, 0), (.aload_n 0, 0, 0, 0), (.iload_n 1, 1, 0, 0), (.iload_n 2, 2, 0, 0), (.invokevirtual 69, 102, 3, 0), (.istore 5, 5, 0, 0), (.nop, 58, 0, 0)]
def bk_103_58 : List mIns := [(.iload 5, 5, 0, 0), (.ifCond .ne 23, 83, 0, 0), (.iload 4, 4, 0, 0), (.iload_n 3, 3, 0, 0), (.if_icmp .ge 17, 83, 0, 0), (.aload_n 0, 0, 0, 0), (.iload_n 1, 1, 0, 0), (.iload_n 2, 2, 0, 0), (.invokevirtual 69, 102, 3, 0), (.istore 5, 5, 0, 0), (.iinc 4 1, 4, 0, 1), (.goto (-22), 58, 0, 0)]
def bk_103_83 : List mIns := [(.iload 4, 4, 0, 0), (.ireturn, 0, 0, 0)]
def bk_104_0 : List mIns := [(.iload_n 1, 1, 0, 0), (.invokestatic 62, 90, 1, 0), (.ifCond .ne 27, 31, 0, 0), (.iload_n 2, 2, 0, 0), (.iconst 0, 0, 0, 0), (.aload_n 0, 0, 0, 0), (.iload_n 1, 1, 0, 0), (.iconst 2, 0, 0, 2), (.invokevirtual 36, 91, 3, 0), (.iconst 1, 0, 0, 1), (.isub, 0, 0, 0), (.invokestatic 32, 89, 3, 0), (.ifCond .eq 11, 31, 0, 0), (.aload_n 0, 0, 0, 0), (.iload_n 1, 1, 0, 0), (.invokevirtual 66, 93, 2, 0), (.ifCond .eq 5, 33, 0, 0), (.nop, 31, 0, 0)]
def bk_104_31 : List mIns := [(.iconst (-1), 0, 0, (-1)), (.ireturn, 0, 0, 0)]
def bk_104_33 : List mIns := [(.iconst 0, 0, 0, 0), (.istore_n 3, 3, 0, 0), (.nop, 35, 0, 0)]
def bk_104_35 : List mIns := [(.iload_n 3, 3, 0, 0), (.bipush 6, 0, 0, 6), (.if_icmp .ge 17, 55, 0, 0), (.aload_n 0, 0, 0, 0), (.iload_n 3, 3, 0, 0), (.invokevirtual 66, 93, 2, 0), (.ifCond .ne 9, 55, 0, 0), (.iinc 3 1, 3, 0, 1), (.goto (-17), 35, 0, 0)]
def bk_104_55 : List mIns := [(.iload_n 3, 3, 0, 0), (.bipush 6, 0, 0, 6), (.if_icmp .ne 6, 64, 0, 0), (.bipush (-3), 0, 0, (-3)), (.ireturn, 0, 0, 0)]
def bk_104_64 : List mIns := [(.aload_n 0, 0, 0, 0), (.invokevirtual 44, 95, 1, 0), (.aload_n 0, 0, 0, 0), (.iload_n 1, 1, 0, 0), (.iconst 2, 0, 0, 2), (.invokevirtual 36, 91, 3, 0), (.iload_n 2, 2, 0, 0), (.isub, 0, 0, 0), (.istore 4, 4, 0, 0), (.iconst 0, 0, 0, 0), (.istore 5, 5, 0, 0), (.nop, 81, 0, 0)]
def bk_104_81 : List mIns := [(.iload 5, 5, 0, 0), (.iload 4, 4, 0, 0), (.aload_n 0, 0, 0, 0), (.iload_n 1, 1, 0, 0), (.iconst 1, 0, 0, 1), (.invokevirtual 36, 91, 3, 0), (.iadd, 0, 0, 0), (.if_icmp .ge 25, 117, 0, 0), (.aload_n 0, 0, 0, 0), (.iload_n 1, 1, 0, 0), (.iload_n 2, 2, 0, 0), (.iconst 1, 0, 0, 1), (.iadd, 0, 0, 0), (.iload 5, 5, 0, 0), (.iadd, 0, 0, 0), (.iload_n 3, 3, 0, 0), (.iconst 1, 0, 0, 1), (.iload 5, 5, 0, 0), (.iadd, 0, 0, 0), (.invokevirtual 73, 100, 5, 0), (.iinc 5 1, 5, 0, 1), (.goto (-33), 81, 0, 0)]
def bk_104_117 : List mIns := [(.iconst 0, 0, 0, 0), (.istore 5, 5, 0, 0), (.nop, 120, 0, 0)]
def bk_104_120 : List mIns := [(.iload 5, 5, 0, 0), (.iload 4, 4, 0, 0), (.if_icmp .ge 31, 155, 0, 0), (.aload_n 0, 0, 0, 0), (.iload_n 3, 3, 0, 0), (.bipush 68, 0, 0, 68), (.iload 5, 5, 0, 0), (.iadd, 0, 0, 0), (.aload_n 0, 0, 0, 0), (.iload_n 1, 1, 0, 0), (.bipush 68, 0, 0, 68), (.iload_n 2, 2, 0, 0), (.iadd, 0, 0, 0), (.iload 5, 5, 0, 0), (.iadd, 0, 0, 0), (.invokevirtual 36, 91, 3, 0), (.invokevirtual 47, 92, 4, 0), (.iinc 5 1, 5, 0, 1), (.goto (-32), 120, 0, 0)]
def bk_104_155 : List mIns := [(.aload_n 0, 0, 0, 0), (.iload_n 3, 3, 0, 0), (.iconst 0, 0, 0, 0), (.sipush 5000, 0, 0, 5000), (.invokevirtual 77, 99, 4, 0), (.aload_n 0, 0, 0, 0), (.iload_n 3, 3, 0, 0), (.iconst 0, 0, 0, 0), (.iconst 1, 0, 0, 1), (.invokevirtual 47, 92, 4, 0), (.aload_n 0, 0, 0, 0), (.iload_n 3, 3, 0, 0), (.iconst 1, 0, 0, 1), (.aload_n 0, 0, 0, 0), (.iload_n 1, 1, 0, 0), (.iconst 1, 0, 0, 1), (.invokevirtual 36, 91, 3, 0), (.invokevirtual 47, 92, 4, 0), (.aload_n 0, 0, 0, 0), (.iload_n 3, 3, 0, 0), (.iconst 2, 0, 0, 2), (.iload 4, 4, 0, 0), (.invokevirtual 47, 92, 4, 0), (.aload_n 0, 0, 0, 0), (.iload_n 3, 3, 0, 0), (.iconst 3, 0, 0, 3), (.iconst 0, 0, 0, 0), (.invokevirtual 47, 92, 4, 0), (.aload_n 0, 0, 0, 0), (.iload_n 1, 1, 0, 0), (.iconst 1, 0, 0, 1), (.iconst 0, 0, 0, 0), (.invokevirtual 47, 92, 4, 0), (.aload_n 0, 0, 0, 0), (.iload_n 1, 1, 0, 0), (.iconst 2, 0, 0, 2), (.iload_n 2, 2, 0, 0), (.invokevirtual 47, 92, 4, 0), (.aload_n 0, 0, 0, 0), (.iconst 3, 0, 0, 3), (.iload_n 1, 1, 0, 0), (.iload_n 3, 3, 0, 0), (.invokevirtual 59, 96, 4, 0), (.iload_n 3, 3, 0, 0), (.ireturn, 0, 0, 0)]
def bk_105_0 : List mIns := [(.iload_n 1, 1, 0, 0), (.invokestatic 62, 90, 1, 0), (.ifCond .ne 10, 14, 0, 0), (.iload_n 2, 2, 0, 0), (.invokestatic 62, 90, 1, 0), (.ifCond .eq 5, 16, 0, 0), (.nop, 14, 0, 0)]
def bk_105_14 : List mIns := [(.iconst (-1), 0, 0, (-1)), (.ireturn, 0, 0, 0)]
def bk_105_16 : List mIns := [(.iload_n 1, 1, 0, 0), (.iload_n 2, 2, 0, 0), (.if_icmp .ne 6, 24, 0, 0), (.bipush (-2), 0, 0, (-2)), (.ireturn, 0, 0, 0)]
def bk_105_24 : List mIns := [(.aload_n 0, 0, 0, 0), (.iload_n 1, 1, 0, 0), (.invokevirtual 66, 93, 2, 0), (.ifCond .ne 11, 40, 0, 0), (.aload_n 0, 0, 0, 0), (.iload_n 2, 2, 0, 0), (.invokevirtual 66, 93, 2, 0), (.ifCond .eq 6, 43, 0, 0), (.nop, 40, 0, 0)]
def bk_105_40 : List mIns := [(.bipush (-4), 0, 0, (-4)), (.ireturn, 0, 0, 0)]
def bk_105_43 : List mIns := [(.aload_n 0, 0, 0, 0), (.iload_n 1, 1, 0, 0), (.iconst 2, 0, 0, 2), (.invokevirtual 36, 91, 3, 0), (.istore_n 3, 3, 0, 0), (.aload_n 0, 0, 0, 0), (.iload_n 2, 2, 0, 0), (.iconst 2, 0, 0, 2), (.invokevirtual 36, 91, 3, 0), (.istore 4, 4, 0, 0), (.iload_n 3, 3, 0, 0), (.iload 4, 4, 0, 0), (.iadd, 0, 0, 0), (.bipush 30, 0, 0, 30), (.if_icmp .le 6, 70, 0, 0), (.bipush (-3), 0, 0, (-3)), (.ireturn, 0, 0, 0)]
def bk_105_70 : List mIns := [(.aload_n 0, 0, 0, 0), (.invokevirtual 44, 95, 1, 0), (.iconst 0, 0, 0, 0), (.istore 5, 5, 0, 0), (.nop, 77, 0, 0)]
def bk_105_77 : List mIns := [(.iload 5, 5, 0, 0), (.iload 4, 4, 0, 0), (.aload_n 0, 0, 0, 0), (.iload_n 2, 2, 0, 0), (.iconst 1, 0, 0, 1), (.invokevirtual 36, 91, 3, 0), (.iadd, 0, 0, 0), (.if_icmp .ge 25, 113, 0, 0), (.aload_n 0, 0, 0, 0), (.iload_n 2, 2, 0, 0), (.iconst 1, 0, 0, 1), (.iload 5, 5, 0, 0), (.iadd, 0, 0, 0), (.iload_n 1, 1, 0, 0), (.iload_n 3, 3, 0, 0), (.iconst 1, 0, 0, 1), (.iadd, 0, 0, 0), (.iload 5, 5, 0, 0), (.iadd, 0, 0, 0), (.invokevirtual 73, 100, 5, 0), (.iinc 5 1, 5, 0, 1), (.goto (-33), 77, 0, 0)]
def bk_105_113 : List mIns := [(.iconst 0, 0, 0, 0), (.istore 5, 5, 0, 0), (.nop, 116, 0, 0)]
def bk_105_116 : List mIns := [(.iload 5, 5, 0, 0), (.iload 4, 4, 0, 0), (.if_icmp .ge 31, 151, 0, 0), (.aload_n 0, 0, 0, 0), (.iload_n 1, 1, 0, 0), (.bipush 68, 0, 0, 68), (.iload_n 3, 3, 0, 0), (.iadd, 0, 0, 0), (.iload 5, 5, 0, 0), (.iadd, 0, 0, 0), (.aload_n 0, 0, 0, 0), (.iload_n 2, 2, 0, 0), (.bipush 68, 0, 0, 68), (.iload 5, 5, 0, 0), (.iadd, 0, 0, 0), (.invokevirtual 36, 91, 3, 0), (.invokevirtual 47, 92, 4, 0), (.iinc 5 1, 5, 0, 1), (.goto (-32), 116, 0, 0)]
def bk_105_151 : List mIns := [(.aload_n 0, 0, 0, 0), (.iload_n 1, 1, 0, 0), (.iconst 1, 0, 0, 1), (.aload_n 0, 0, 0, 0), (.iload_n 2, 2, 0, 0), (.iconst 1, 0, 0, 1), (.invokevirtual 36, 91, 3, 0), (.invokevirtual 47, 92, 4, 0), (.aload_n 0, 0, 0, 0), (.iload_n 1, 1, 0, 0), (.iconst 2, 0, 0, 2), (.iload_n 3, 3, 0, 0), (.iload 4, 4, 0, 0), (.iadd, 0, 0, 0), (.invokevirtual 47, 92, 4, 0), (.aload_n 0, 0, 0, 0), (.iload_n 2, 2, 0, 0), (.iconst 0, 0, 0, 0), (.iconst 0, 0, 0, 0), (.invokevirtual 47, 92, 4, 0), (.aload_n 0, 0, 0, 0), (.iload_n 2, 2, 0, 0), (.iconst 1, 0, 0, 1), (.iconst 0, 0, 0, 0), (.invokevirtual 47, 92, 4, 0), (.aload_n 0, 0, 0, 0), (.iload_n 2, 2, 0, 0), (.iconst 2, 0, 0, 2), (.iconst 0, 0, 0, 0), (.invokevirtual 47, 92, 4, 0), (.aload_n 0, 0, 0, 0), (.iconst 4, 0, 0, 4), (.iload_n 1, 1, 0, 0), (.iload_n 3, 3, 0, 0), (.iload 4, 4, 0, 0), (.iadd, 0, 0, 0), (.invokevirtual 59, 96, 4, 0), (.iload_n 3, 3, 0, 0), (.iload 4, 4, 0, 0), (.iadd, 0, 0, 0), (.ireturn, 0, 0, 0)]
def bk_106_0 : List mIns := [(.iload_n 1, 1, 0, 0), (.invokestatic 62, 90, 1, 0), (.ifCond .eq 5, 9, 0, 0), (.iconst (-1), 0, 0, (-1)), (.ireturn, 0, 0, 0)]
def bk_106_9 : List mIns := [(.aload_n 0, 0, 0, 0), (.iload_n 1, 1, 0, 0), (.invokevirtual 66, 93, 2, 0), (.ifCond .eq 6, 20, 0, 0), (.bipush (-4), 0, 0, (-4)), (.ireturn, 0, 0, 0)]
def bk_106_20 : List mIns := [(.aload_n 0, 0, 0, 0), (.iload_n 1, 1, 0, 0), (.iconst 1, 0, 0, 1), (.invokevirtual 36, 91, 3, 0), (.iconst 1, 0, 0, 1), (.if_icmp .ne 6, 33, 0, 0), (.bipush (-5), 0, 0, (-5)), (.ireturn, 0, 0, 0)]
def bk_106_33 : List mIns := [(.aload_n 0, 0, 0, 0), (.invokevirtual 44, 95, 1, 0), (.aload_n 0, 0, 0, 0), (.iload_n 1, 1, 0, 0), (.iconst 1, 0, 0, 1), (.iconst 1, 0, 0, 1), (.invokevirtual 47, 92, 4, 0), (.aload_n 0, 0, 0, 0), (.iload_n 1, 1, 0, 0), (.aload_n 0, 0, 0, 0), (.iload_n 1, 1, 0, 0), (.iconst 2, 0, 0, 2), (.invokevirtual 36, 91, 3, 0), (.iconst 1, 0, 0, 1), (.iadd, 0, 0, 0), (.sipush 5000, 0, 0, 5000), (.invokevirtual 77, 99, 4, 0), (.aload_n 0, 0, 0, 0), (.iconst 5, 0, 0, 5), (.iload_n 1, 1, 0, 0), (.aload_n 0, 0, 0, 0), (.iload_n 1, 1, 0, 0), (.iconst 2, 0, 0, 2), (.invokevirtual 36, 91, 3, 0), (.invokevirtual 59, 96, 4, 0), (.aload_n 0, 0, 0, 0), (.iload_n 1, 1, 0, 0), (.iconst 2, 0, 0, 2), (.invokevirtual 36, 91, 3, 0), (.ireturn, 0, 0, 0)]
def bk_107_0 : List mIns := [(.bipush 10, 0, 0, 10), (.iload_n 0, 0, 0, 0), (.imul, 0, 0, 0), (.iload_n 1, 1, 0, 0), (.iadd, 0, 0, 0), (.iconst 2, 0, 0, 2), (.iload_n 1, 1, 0, 0), (.imul, 0, 0, 0), (.idiv, 0, 0, 0), (.iconst 2, 0, 0, 2), (.isub, 0, 0, 0), (.istore_n 2, 2, 0, 0), (.iload_n 2, 2, 0, 0), (.iconst 0, 0, 0, 0), (.bipush 7, 0, 0, 7), (.invokestatic 32, 89, 3, 0), (.ifCond .eq 7, 27, 0, 0), (.iload_n 2, 2, 0, 0), (.goto 5, 29, 0, 0)]
def bk_107_27 : List mIns := [(.bipush (-5), 0, 0, (-5)), (.nop, 29, 0, 0)]
def bk_107_29 : List mIns := [(.ireturn, 0, 0, 0)]
def bk_108_0 : List mIns := [(.aload_n 0, 0, 0, 0), (.iload_n 1, 1, 0, 0), (.iconst 4, 0, 0, 4), (.invokevirtual 36, 91, 3, 0), (.istore_n 3, 3, 0, 0), (.aload_n 0, 0, 0, 0), (.iload_n 1, 1, 0, 0), (.iconst 2, 0, 0, 2), (.invokevirtual 36, 91, 3, 0), (.istore 4, 4, 0, 0), (.iload_n 3, 3, 0, 0), (.istore 5, 5, 0, 0), (.iconst 0, 0, 0, 0), (.istore 6, 6, 0, 0), (.nop, 21, 0, 0)]
def bk_108_21 : List mIns := [(.iload 6, 6, 0, 0), (.iload 4, 4, 0, 0), (.if_icmp .ge 98, 123, 0, 0), (.aload_n 0, 0, 0, 0), (.iload_n 1, 1, 0, 0), (.iconst 5, 0, 0, 5), (.iload 6, 6, 0, 0), (.iadd, 0, 0, 0), (.invokevirtual 36, 91, 3, 0), (.istore 7, 7, 0, 0), (.iload_n 2, 2, 0, 0), (.iconst 2, 0, 0, 2), (.if_icmp .ne 28, 69, 0, 0), (.iload_n 3, 3, 0, 0), (.aload_n 0, 0, 0, 0), (.iload_n 1, 1, 0, 0), (.iconst 5, 0, 0, 5), (.iload 4, 4, 0, 0), (.iadd, 0, 0, 0), (.invokevirtual 36, 91, 3, 0), (.iload_n 3, 3, 0, 0), (.isub, 0, 0, 0), (.iload 6, 6, 0, 0), (.iconst 1, 0, 0, 1), (.iadd, 0, 0, 0), (.imul, 0, 0, 0), (.iload 4, 4, 0, 0), (.iconst 1, 0, 0, 1), (.iadd, 0, 0, 0), (.idiv, 0, 0, 0), (.iadd, 0, 0, 0), (.istore 5, 5, 0, 0), (.nop, 69, 0, 0)]
def bk_108_69 : List mIns := [(.iload 7, 7, 0, 0), (.iload 5, 5, 0, 0), (.invokestatic 80, 107, 2, 0), (.istore 8, 8, 0, 0), (.aload_n 0, 0, 0, 0), (.getfield 22, 8, 6, 2), (.iload 6, 6, 0, 0), (.iload 8, 8, 0, 0), (.iastore, 0, 0, 0), (.iload_n 2, 2, 0, 0), (.iconst 1, 0, 0, 1), (.if_icmp .ne 28, 117, 0, 0), (.iload 8, 8, 0, 0), (.bipush (-5), 0, 0, (-5)), (.if_icmp .eq 21, 117, 0, 0), (.iconst 3, 0, 0, 3), (.iload 5, 5, 0, 0), (.imul, 0, 0, 0), (.iconst 5, 0, 0, 5), (.iload 7, 7, 0, 0), (.imul, 0, 0, 0), (.iload 8, 8, 0, 0), (.iconst 2, 0, 0, 2), (.iadd, 0, 0, 0), (.idiv, 0, 0, 0), (.iadd, 0, 0, 0), (.iconst 4, 0, 0, 4), (.idiv, 0, 0, 0), (.istore 5, 5, 0, 0), (.nop, 117, 0, 0)]
def bk_108_117 : List mIns := [(.iinc 6 1, 6, 0, 1), (.goto (-99), 21, 0, 0)]
def bk_108_123 : List mIns := [(.return_, 0, 0, 0)]
def bk_109_0 : List mIns := [(.iload_n 2, 2, 0, 0), (.iconst 2, 0, 0, 2), (.if_icmp .ne 16, 18, 0, 0), (.aload_n 0, 0, 0, 0), (.iload_n 1, 1, 0, 0), (.iconst 1, 0, 0, 1), (.invokevirtual 36, 91, 3, 0), (.ifCond .ne 7, 18, 0, 0), (.iconst 1, 0, 0, 1), (.goto 4, 19, 0, 0)]
def bk_109_18 : List mIns := [(.iconst 0, 0, 0, 0), (.nop, 19, 0, 0)]
def bk_109_19 : List mIns := [(.ireturn, 0, 0, 1)]
def bk_110_0 : List mIns := [(.iconst 0, 0, 0, 0), (.istore_n 3, 3, 0, 0), (.iconst 0, 0, 0, 0), (.istore 4, 4, 0, 0), (.bipush (-5), 0, 0, (-5)), (.istore 5, 5, 0, 0), (.iconst 0, 0, 0, 0), (.istore 6, 6, 0, 0), (.nop, 12, 0, 0)]
def bk_110_12 : List mIns := [(.iload 6, 6, 0, 0), (.aload_n 0, 0, 0, 0), (.iload_n 1, 1, 0, 0), (.iconst 2, 0, 0, 2), (.invokevirtual 36, 91, 3, 0), (.if_icmp .ge 90, 110, 0, 0), (.aload_n 0, 0, 0, 0), (.getfield 22, 8, 6, 2), (.iload 6, 6, 0, 0), (.iaload, 0, 0, 0), (.aload_n 0, 0, 0, 0), (.iload_n 1, 1, 0, 0), (.bipush 68, 0, 0, 68), (.iload 6, 6, 0, 0), (.iadd, 0, 0, 0), (.invokevirtual 36, 91, 3, 0), (.if_icmp .ne 6, 46, 0, 0), (.goto 61, 104, 0, 0)]
def bk_110_46 : List mIns := [(.iload_n 3, 3, 0, 0), (.aload_n 0, 0, 0, 0), (.getfield 22, 8, 6, 2), (.iload 6, 6, 0, 0), (.iaload, 0, 0, 0), (.bipush (-5), 0, 0, (-5)), (.if_icmp .ne 7, 63, 0, 0), (.iconst 0, 0, 0, 0), (.goto 4, 64, 0, 0)]
def bk_110_63 : List mIns := [(.iconst 1, 0, 0, 1), (.nop, 64, 0, 0)]
def bk_110_64 : List mIns := [(.iadd, 0, 0, 0), (.istore_n 3, 3, 0, 0), (.iload 4, 4, 0, 0), (.aload_n 0, 0, 0, 0), (.getfield 22, 8, 6, 2), (.iload 6, 6, 0, 0), (.iaload, 0, 0, 0), (.bipush (-5), 0, 0, (-5)), (.if_icmp .ne 7, 84, 0, 0), (.iconst 1, 0, 0, 1), (.goto 4, 85, 0, 0)]
def bk_110_84 : List mIns := [(.iconst 0, 0, 0, 0), (.nop, 85, 0, 0)]
def bk_110_85 : List mIns := [(.iadd, 0, 0, 0), (.istore 4, 4, 0, 0), (.iload 5, 5, 0, 0), (.bipush (-5), 0, 0, (-5)), (.if_icmp .ne 8, 100, 0, 0), (.iload 6, 6, 0, 0), (.goto 5, 102, 0, 0)]
def bk_110_100 : List mIns := [(.iload 5, 5, 0, 0), (.nop, 102, 0, 0)]
def bk_110_102 : List mIns := [(.istore 5, 5, 0, 0), (.nop, 104, 0, 0)]
def bk_110_104 : List mIns := [(.iinc 6 1, 6, 0, 1), (.goto (-95), 12, 0, 0)]
def bk_110_110 : List mIns := [(.iload_n 2, 2, 0, 0), (.ifCond .ne 7, 118, 0, 0), (.iload_n 3, 3, 0, 0), (.goto 15, 130, 0, 0)]
def bk_110_118 : List mIns := [(.iload_n 2, 2, 0, 0), (.iconst 1, 0, 0, 1), (.if_icmp .ne 8, 128, 0, 0), (.iload 4, 4, 0, 0), (.goto 5, 130, 0, 0)]
def bk_110_128 : List mIns := [(.iload 5, 5, 0, 0), (.nop, 130, 0, 0)]
def bk_110_130 : List mIns := [(.ireturn, 0, 0, 0)]
def bk_111_0 : List mIns := [(.aload_n 0, 0, 0, 0), (.iload_n 1, 1, 0, 0), (.iload_n 2, 2, 0, 0), (.invokevirtual 83, 108, 3, 0), (.aload_n 0, 0, 0, 0), (.iload_n 1, 1, 0, 0), (.iconst 0, 0, 0, 0), (.invokevirtual 87, 110, 3, 0), (.aload_n 0, 0, 0, 0), (.iload_n 1, 1, 0, 0), (.iconst 1, 0, 0, 1), (.invokevirtual 87, 110, 3, 0), (.iadd, 0, 0, 0), (.ireturn, 0, 0, 0)]
def bk_112_0 : List mIns := [(.iload_n 1, 1, 0, 0), (.invokestatic 62, 90, 1, 0), (.ifCond .eq 5, 9, 0, 0), (.iconst (-1), 0, 0, (-1)), (.ireturn, 0, 0, 0)]
def bk_112_9 : List mIns := [(.iload_n 2, 2, 0, 0), (.iconst 0, 0, 0, 0), (.iconst 2, 0, 0, 2), (.invokestatic 32, 89, 3, 0), (.ifCond .ne 6, 21, 0, 0), (.bipush (-2), 0, 0, (-2)), (.ireturn, 0, 0, 0)]
def bk_112_21 : List mIns := [(.aload_n 0, 0, 0, 0), (.iload_n 1, 1, 0, 0), (.invokevirtual 66, 93, 2, 0), (.ifCond .ne 12, 38, 0, 0), (.aload_n 0, 0, 0, 0), (.iload_n 1, 1, 0, 0), (.iload_n 2, 2, 0, 0), (.invokevirtual 90, 109, 3, 0), (.ifCond .eq 6, 41, 0, 0), (.nop, 38, 0, 0)]
def bk_112_38 : List mIns := [(.bipush (-4), 0, 0, (-4)), (.ireturn, 0, 0, 0)]
def bk_112_41 : List mIns := [(.aload_n 0, 0, 0, 0), (.iload_n 1, 1, 0, 0), (.iload_n 2, 2, 0, 0), (.invokevirtual 83, 108, 3, 0), (.aload_n 0, 0, 0, 0), (.iload_n 1, 1, 0, 0), (.iconst 1, 0, 0, 1), (.invokevirtual 87, 110, 3, 0), (.ifCond .le 6, 59, 0, 0), (.bipush (-4), 0, 0, (-4)), (.ireturn, 0, 0, 0)]
def bk_112_59 : List mIns := [(.aload_n 0, 0, 0, 0), (.iload_n 1, 1, 0, 0), (.iconst 0, 0, 0, 0), (.invokevirtual 87, 110, 3, 0), (.istore_n 3, 3, 0, 0), (.aload_n 0, 0, 0, 0), (.invokevirtual 44, 95, 1, 0), (.aload_n 0, 0, 0, 0), (.iload_n 1, 1, 0, 0), (.iconst 0, 0, 0, 0), (.sipush 5000, 0, 0, 5000), (.invokevirtual 77, 99, 4, 0), (.iconst 0, 0, 0, 0), (.istore 4, 4, 0, 0), (.nop, 82, 0, 0)]
def bk_112_82 : List mIns := [(.iload 4, 4, 0, 0), (.aload_n 0, 0, 0, 0), (.iload_n 1, 1, 0, 0), (.iconst 2, 0, 0, 2), (.invokevirtual 36, 91, 3, 0), (.if_icmp .ge 33, 123, 0, 0), (.aload_n 0, 0, 0, 0), (.iload_n 1, 1, 0, 0), (.iconst 1, 0, 0, 1), (.iload 4, 4, 0, 0), (.iadd, 0, 0, 0), (.sipush 2000, 0, 0, 2000), (.sipush 1000, 0, 0, 1000), (.aload_n 0, 0, 0, 0), (.getfield 22, 8, 6, 2), (.iload 4, 4, 0, 0), (.iaload, 0, 0, 0), (.imul, 0, 0, 0), (.iadd, 0, 0, 0), (.invokevirtual 77, 99, 4, 0), (.iinc 4 1, 4, 0, 1), (.goto (-38), 82, 0, 0)]
def bk_112_123 : List mIns := [(.aload_n 0, 0, 0, 0), (.iload_n 1, 1, 0, 0), (.iconst 1, 0, 0, 1), (.invokevirtual 36, 91, 3, 0), (.iconst 1, 0, 0, 1), (.if_icmp .ne 19, 149, 0, 0), (.aload_n 0, 0, 0, 0), (.iload_n 1, 1, 0, 0), (.iconst 1, 0, 0, 1), (.aload_n 0, 0, 0, 0), (.iload_n 1, 1, 0, 0), (.iconst 2, 0, 0, 2), (.invokevirtual 36, 91, 3, 0), (.iadd, 0, 0, 0), (.sipush 5000, 0, 0, 5000), (.invokevirtual 77, 99, 4, 0), (.nop, 149, 0, 0)]
def bk_112_149 : List mIns := [(.aload_n 0, 0, 0, 0), (.iload_n 1, 1, 0, 0), (.iconst 3, 0, 0, 3), (.iconst 0, 0, 0, 0), (.invokevirtual 47, 92, 4, 0), (.aload_n 0, 0, 0, 0), (.bipush 6, 0, 0, 6), (.iload_n 1, 1, 0, 0), (.iload_n 2, 2, 0, 0), (.invokevirtual 59, 96, 4, 0), (.iload_n 3, 3, 0, 0), (.ireturn, 0, 0, 0)]
def bk_113_0 : List mIns := [(.aload_n 0, 0, 0, 0), (.getfield 93, 8, 7, 0), (.bipush 50, 0, 0, 50), (.if_icmp .ne 6, 12, 0, 0), (.bipush (-3), 0, 0, (-3)), (.ireturn, 0, 0, 0)]
def bk_113_12 : List mIns := [(.aload_n 0, 0, 0, 0), (.getfield 25, 8, 8, 2), (.aload_n 0, 0, 0, 0), (.getfield 93, 8, 7, 0), (.iload_n 1, 1, 0, 0), (.castore, 0, 0, 0), (.aload_n 0, 0, 0, 0), (.dup, 0, 0, 0), (.getfield 93, 8, 7, 0), (.iconst 1, 0, 0, 1), (.iadd, 0, 0, 0), (.putfield 93, 8, 7, 0), (.aload_n 0, 0, 0, 0), (.getfield 93, 8, 7, 0), (.ireturn, 0, 0, 0)]
def bk_114_0 : List mIns := [(.aload_n 0, 0, 0, 0), (.getfield 93, 8, 7, 0), (.istore_n 1, 1, 0, 0), (.aload_n 0, 0, 0, 0), (.iconst 0, 0, 0, 0), (.putfield 93, 8, 7, 0), (.iload_n 1, 1, 0, 0), (.ireturn, 0, 0, 0)]
def bk_115_0 : List mIns := [(.iload 5, 5, 0, 0), (.ifCond .ne 7, 9, 0, 0), (.iconst 3, 0, 0, 3), (.goto 4, 10, 0, 0)]
def bk_115_9 : List mIns := [(.iconst 5, 0, 0, 5), (.nop, 10, 0, 0)]
def bk_115_10 : List mIns := [(.istore 6, 6, 0, 0), (.aload_n 0, 0, 0, 0), (.getfield 96, 8, 9, 0), (.iload 6, 6, 0, 0), (.if_icmp .ne 33, 51, 0, 0), (.aload_n 0, 0, 0, 0), (.getfield 25, 8, 8, 2), (.iconst 0, 0, 0, 0), (.caload, 0, 0, 0), (.iload_n 1, 1, 0, 0), (.if_icmp .ne 23, 51, 0, 0), (.aload_n 0, 0, 0, 0), (.getfield 25, 8, 8, 2), (.iconst 1, 0, 0, 1), (.caload, 0, 0, 0), (.iload_n 2, 2, 0, 0), (.if_icmp .ne 13, 51, 0, 0), (.aload_n 0, 0, 0, 0), (.getfield 25, 8, 8, 2), (.iconst 2, 0, 0, 2), (.caload, 0, 0, 0), (.iload_n 3, 3, 0, 0), (.if_icmp .eq 5, 53, 0, 0), (.nop, 51, 0, 0)]
def bk_115_51 : List mIns := [(.iconst 0, 0, 0, 0), (.ireturn, 0, 0, 1)]
def bk_115_53 : List mIns := [(.iload 5, 5, 0, 0), (.ifCond .eq 25, 80, 0, 0), (.aload_n 0, 0, 0, 0), (.getfield 25, 8, 8, 2), (.iconst 3, 0, 0, 3), (.caload, 0, 0, 0), (.iload 4, 4, 0, 0), (.if_icmp .ne 18, 84, 0, 0), (.aload_n 0, 0, 0, 0), (.getfield 25, 8, 8, 2), (.iconst 4, 0, 0, 4), (.caload, 0, 0, 0), (.iload 5, 5, 0, 0), (.if_icmp .ne 7, 84, 0, 0), (.nop, 80, 0, 0)]
def bk_115_80 : List mIns := [(.iconst 1, 0, 0, 1), (.goto 4, 85, 0, 0)]
def bk_115_84 : List mIns := [(.iconst 0, 0, 0, 0), (.nop, 85, 0, 0)]
def bk_115_85 : List mIns := [(.ireturn, 0, 0, 1)]
def bk_116_0 : List mIns := [(.aload_n 0, 0, 0, 0), (.getfield 96, 8, 9, 0), (.bipush 6, 0, 0, 6), (.if_icmp .ne 70, 76, 0, 0), (.aload_n 0, 0, 0, 0), (.getfield 25, 8, 8, 2), (.iconst 0, 0, 0, 0), (.caload, 0, 0, 0), (.iload_n 1, 1, 0, 0), (.if_icmp .ne 60, 76, 0, 0), (.aload_n 0, 0, 0, 0), (.getfield 25, 8, 8, 2), (.iconst 1, 0, 0, 1), (.caload, 0, 0, 0), (.iload_n 2, 2, 0, 0), (.if_icmp .ne 50, 76, 0, 0), (.aload_n 0, 0, 0, 0), (.getfield 25, 8, 8, 2), (.iconst 2, 0, 0, 2), (.caload, 0, 0, 0), (.iload_n 3, 3, 0, 0), (.if_icmp .ne 40, 76, 0, 0), (.aload_n 0, 0, 0, 0), (.getfield 25, 8, 8, 2), (.iconst 3, 0, 0, 3), (.caload, 0, 0, 0), (.iload 4, 4, 0, 0), (.if_icmp .ne 29, 76, 0, 0), (.aload_n 0, 0, 0, 0), (.getfield 25, 8, 8, 2), (.iconst 4, 0, 0, 4), (.caload, 0, 0, 0), (.iload 5, 5, 0, 0), (.if_icmp .ne 18, 76, 0, 0), (.aload_n 0, 0, 0, 0), (.getfield 25, 8, 8, 2), (.iconst 5, 0, 0, 5), (.caload, 0, 0, 0), (.iload 6, 6, 0, 0), (.if_icmp .ne 7, 76, 0, 0), (.iconst 1, 0, 0, 1), (.goto 4, 77, 0, 0)]
def bk_116_76 : List mIns := [(.iconst 0, 0, 0, 0), (.nop, 77, 0, 0)]
def bk_116_77 : List mIns := [(.ireturn, 0, 0, 1)]
def bk_117_0 : List mIns := [(.aload_n 0, 0, 0, 0), (.iconst 0, 0, 0, 0), (.putfield 96, 8, 9, 0), (.nop, 5, 0, 0)]
def bk_117_5 : List mIns := [(.aload_n 0, 0, 0, 0), (.getfield 96, 8, 9, 0), (.aload_n 0, 0, 0, 0), (.getfield 93, 8, 7, 0), (.if_icmp .ge 35, 48, 0, 0), (.aload_n 0, 0, 0, 0), (.getfield 25, 8, 8, 2), (.aload_n 0, 0, 0, 0), (.getfield 96, 8, 9, 0), (.caload, 0, 0, 0), (.bipush 97, 0, 0, 97), (.bipush 122, 0, 0, 122), (.invokestatic 32, 89, 3, 0), (.ifCond .eq 16, 48, 0, 0), (.aload_n 0, 0, 0, 0), (.dup, 0, 0, 0), (.getfield 96, 8, 9, 0), (.iconst 1, 0, 0, 1), (.iadd, 0, 0, 0), (.putfield 96, 8, 9, 0), (.goto (-40), 5, 0, 0)]
def bk_117_48 : List mIns := [(.aload_n 0, 0, 0, 0), (.bipush 99, 0, 0, 99), (.bipush 117, 0, 0, 117), (.bipush 116, 0, 0, 116), (.iconst 0, 0, 0, 0), (.iconst 0, 0, 0, 0), (.invokevirtual 99, 115, 6, 0), (.ifCond .eq 5, 65, 0, 0), (.iconst 2, 0, 0, 2), (.ireturn, 0, 0, 0)]
def bk_117_65 : List mIns := [(.aload_n 0, 0, 0, 0), (.bipush 119, 0, 0, 119), (.bipush 114, 0, 0, 114), (.bipush 105, 0, 0, 105), (.bipush 116, 0, 0, 116), (.bipush 101, 0, 0, 101), (.invokevirtual 99, 115, 6, 0), (.ifCond .eq 5, 84, 0, 0), (.iconst 0, 0, 0, 0), (.ireturn, 0, 0, 0)]
def bk_117_84 : List mIns := [(.aload_n 0, 0, 0, 0), (.bipush 99, 0, 0, 99), (.bipush 108, 0, 0, 108), (.bipush 111, 0, 0, 111), (.bipush 115, 0, 0, 115), (.bipush 101, 0, 0, 101), (.invokevirtual 99, 115, 6, 0), (.ifCond .eq 5, 103, 0, 0), (.iconst 4, 0, 0, 4), (.ireturn, 0, 0, 0)]
def bk_117_103 : List mIns := [(.aload_n 0, 0, 0, 0), (.bipush 112, 0, 0, 112), (.bipush 117, 0, 0, 117), (.bipush 110, 0, 0, 110), (.bipush 99, 0, 0, 99), (.bipush 104, 0, 0, 104), (.invokevirtual 99, 115, 6, 0), (.ifCond .eq 5, 122, 0, 0), (.iconst 5, 0, 0, 5), (.ireturn, 0, 0, 0)]
def bk_117_122 : List mIns := [(.aload_n 0, 0, 0, 0), (.bipush 114, 0, 0, 114), (.bipush 101, 0, 0, 101), (.bipush 119, 0, 0, 119), (.bipush 105, 0, 0, 105), (.bipush 110, 0, 0, 110), (.bipush 100, 0, 0, 100), (.invokevirtual 103, 116, 7, 0), (.ifCond .eq 7, 145, 0, 0), (.iconst 1, 0, 0, 1), (.goto 28, 170, 0, 0)]
def bk_117_145 : List mIns := [(.aload_n 0, 0, 0, 0), (.bipush 115, 0, 0, 115), (.bipush 112, 0, 0, 112), (.bipush 108, 0, 0, 108), (.bipush 105, 0, 0, 105), (.bipush 99, 0, 0, 99), (.bipush 101, 0, 0, 101), (.invokevirtual 103, 116, 7, 0), (.ifCond .eq 7, 168, 0, 0), (.iconst 3, 0, 0, 3), (.goto 5, 170, 0, 0)]
def bk_117_168 : List mIns := [(.bipush (-5), 0, 0, (-5)), (.nop, 170, 0, 0)]
def bk_117_170 : List mIns := [(.ireturn, 0, 0, 0)]
def bk_118_0 : List mIns := [(.aload_n 0, 0, 0, 0), (.getfield 96, 8, 9, 0), (.aload_n 0, 0, 0, 0), (.getfield 93, 8, 7, 0), (.if_icmp .eq 17, 25, 0, 0), (.aload_n 0, 0, 0, 0), (.getfield 25, 8, 8, 2), (.aload_n 0, 0, 0, 0), (.getfield 96, 8, 9, 0), (.caload, 0, 0, 0), (.bipush 32, 0, 0, 32), (.if_icmp .eq 5, 27, 0, 0), (.nop, 25, 0, 0)]
def bk_118_25 : List mIns := [(.iconst 0, 0, 0, 0), (.ireturn, 0, 0, 1)]
def bk_118_27 : List mIns := [(.aload_n 0, 0, 0, 0), (.dup, 0, 0, 0), (.getfield 96, 8, 9, 0), (.iconst 1, 0, 0, 1), (.iadd, 0, 0, 0), (.putfield 96, 8, 9, 0), (.iconst 1, 0, 0, 1), (.ireturn, 0, 0, 1)]
def bk_119_0 : List mIns := [(.aload_n 0, 0, 0, 0), (.getfield 96, 8, 9, 0), (.aload_n 0, 0, 0, 0), (.getfield 93, 8, 7, 0), (.if_icmp .eq 22, 30, 0, 0), (.aload_n 0, 0, 0, 0), (.getfield 25, 8, 8, 2), (.aload_n 0, 0, 0, 0), (.getfield 96, 8, 9, 0), (.caload, 0, 0, 0), (.bipush 48, 0, 0, 48), (.bipush 57, 0, 0, 57), (.invokestatic 32, 89, 3, 0), (.ifCond .ne 5, 32, 0, 0), (.nop, 30, 0, 0)]
def bk_119_30 : List mIns := [(.iconst 0, 0, 0, 0), (.ireturn, 0, 0, 1)]
def bk_119_32 : List mIns := [(.aload_n 0, 0, 0, 0), (.aload_n 0, 0, 0, 0), (.getfield 25, 8, 8, 2), (.aload_n 0, 0, 0, 0), (.getfield 96, 8, 9, 0), (.caload, 0, 0, 0), (.bipush 48, 0, 0, 48), (.isub, 0, 0, 0), (.putfield 107, 8, 10, 0), (.aload_n 0, 0, 0, 0), (.dup, 0, 0, 0), (.getfield 96, 8, 9, 0), (.iconst 1, 0, 0, 1), (.iadd, 0, 0, 0), (.putfield 96, 8, 9, 0), (.aload_n 0, 0, 0, 0), (.getfield 107, 8, 10, 0), (.ifCond .le 67, 129, 0, 0), (.aload_n 0, 0, 0, 0), (.getfield 96, 8, 9, 0), (.aload_n 0, 0, 0, 0), (.getfield 93, 8, 7, 0), (.if_icmp .ge 56, 129, 0, 0), (.aload_n 0, 0, 0, 0), (.getfield 25, 8, 8, 2), (.aload_n 0, 0, 0, 0), (.getfield 96, 8, 9, 0), (.caload, 0, 0, 0), (.bipush 48, 0, 0, 48), (.bipush 57, 0, 0, 57), (.invokestatic 32, 89, 3, 0), (.ifCond .eq 37, 129, 0, 0), (.aload_n 0, 0, 0, 0), (.bipush 10, 0, 0, 10), (.aload_n 0, 0, 0, 0), (.getfield 107, 8, 10, 0), (.imul, 0, 0, 0), (.aload_n 0, 0, 0, 0), (.getfield 25, 8, 8, 2), (.aload_n 0, 0, 0, 0), (.getfield 96, 8, 9, 0), (.caload, 0, 0, 0), (.iadd, 0, 0, 0), (.bipush 48, 0, 0, 48), (.isub, 0, 0, 0), (.putfield 107, 8, 10, 0), (.aload_n 0, 0, 0, 0), (.dup, 0, 0, 0), (.getfield 96, 8, 9, 0), (.iconst 1, 0, 0, 1), (.iadd, 0, 0, 0), (.putfield 96, 8, 9, 0), (.nop, 129, 0, 0)]
def bk_119_129 : List mIns := [(.iconst 1, 0, 0, 1), (.ireturn, 0, 0, 1)]
def bk_120_0 : List mIns := [(.aload_n 0, 0, 0, 0), (.aload_n 0, 0, 0, 0), (.invokevirtual 110, 117, 1, 0), (.putfield 114, 8, 11, 0), (.aload_n 0, 0, 0, 0), (.getfield 114, 8, 11, 0), (.bipush (-5), 0, 0, (-5)), (.if_icmp .ne 10, 24, 0, 0), (.aload_n 0, 0, 0, 0), (.iconst 0, 0, 0, 0), (.putfield 96, 8, 9, 0), (.iconst 0, 0, 0, 0), (.ireturn, 0, 0, 1)]
def bk_120_24 : List mIns := [(.aload_n 0, 0, 0, 0), (.invokevirtual 117, 118, 1, 0), (.ifCond .eq 10, 38, 0, 0), (.aload_n 0, 0, 0, 0), (.invokevirtual 121, 119, 1, 0), (.ifCond .ne 5, 40, 0, 0), (.nop, 38, 0, 0)]
def bk_120_38 : List mIns := [(.iconst 0, 0, 0, 0), (.ireturn, 0, 0, 1)]
def bk_120_40 : List mIns := [(.aload_n 0, 0, 0, 0), (.aload_n 0, 0, 0, 0), (.getfield 107, 8, 10, 0), (.putfield 124, 8, 12, 0), (.aload_n 0, 0, 0, 0), (.getfield 114, 8, 11, 0), (.iconst 4, 0, 0, 4), (.if_icmp .ne 20, 73, 0, 0), (.aload_n 0, 0, 0, 0), (.getfield 96, 8, 9, 0), (.aload_n 0, 0, 0, 0), (.getfield 93, 8, 7, 0), (.if_icmp .ne 7, 71, 0, 0), (.iconst 1, 0, 0, 1), (.goto 4, 72, 0, 0)]
def bk_120_71 : List mIns := [(.iconst 0, 0, 0, 0), (.nop, 72, 0, 0)]
def bk_120_72 : List mIns := [(.ireturn, 0, 0, 1)]
def bk_120_73 : List mIns := [(.aload_n 0, 0, 0, 0), (.invokevirtual 117, 118, 1, 0), (.ifCond .ne 5, 82, 0, 0), (.iconst 0, 0, 0, 0), (.ireturn, 0, 0, 1)]
def bk_120_82 : List mIns := [(.aload_n 0, 0, 0, 0), (.aload_n 0, 0, 0, 0), (.getfield 96, 8, 9, 0), (.putfield 127, 8, 13, 0), (.aload_n 0, 0, 0, 0), (.getfield 114, 8, 11, 0), (.ifCond .le 37, 131, 0, 0), (.aload_n 0, 0, 0, 0), (.invokevirtual 121, 119, 1, 0), (.ifCond .ne 5, 106, 0, 0), (.iconst 0, 0, 0, 0), (.ireturn, 0, 0, 1)]
def bk_120_106 : List mIns := [(.aload_n 0, 0, 0, 0), (.aload_n 0, 0, 0, 0), (.getfield 107, 8, 10, 0), (.putfield 127, 8, 13, 0), (.aload_n 0, 0, 0, 0), (.getfield 96, 8, 9, 0), (.aload_n 0, 0, 0, 0), (.getfield 93, 8, 7, 0), (.if_icmp .ne 7, 129, 0, 0), (.iconst 1, 0, 0, 1), (.goto 4, 130, 0, 0)]
def bk_120_129 : List mIns := [(.iconst 0, 0, 0, 0), (.nop, 130, 0, 0)]
def bk_120_130 : List mIns := [(.ireturn, 0, 0, 1)]
def bk_120_131 : List mIns := [(.aload_n 0, 0, 0, 0), (.getfield 96, 8, 9, 0), (.aload_n 0, 0, 0, 0), (.getfield 93, 8, 7, 0), (.if_icmp .ge 35, 174, 0, 0), (.aload_n 0, 0, 0, 0), (.getfield 25, 8, 8, 2), (.aload_n 0, 0, 0, 0), (.getfield 96, 8, 9, 0), (.caload, 0, 0, 0), (.bipush 97, 0, 0, 97), (.bipush 104, 0, 0, 104), (.invokestatic 32, 89, 3, 0), (.ifCond .eq 16, 174, 0, 0), (.aload_n 0, 0, 0, 0), (.dup, 0, 0, 0), (.getfield 96, 8, 9, 0), (.iconst 1, 0, 0, 1), (.iadd, 0, 0, 0), (.putfield 96, 8, 9, 0), (.goto (-40), 131, 0, 0)]
def bk_120_174 : List mIns := [(.aload_n 0, 0, 0, 0), (.getfield 96, 8, 9, 0), (.aload_n 0, 0, 0, 0), (.getfield 93, 8, 7, 0), (.if_icmp .ne 18, 200, 0, 0), (.aload_n 0, 0, 0, 0), (.getfield 96, 8, 9, 0), (.aload_n 0, 0, 0, 0), (.getfield 127, 8, 13, 0), (.if_icmp .le 7, 200, 0, 0), (.iconst 1, 0, 0, 1), (.goto 4, 201, 0, 0)]
def bk_120_200 : List mIns := [(.iconst 0, 0, 0, 0), (.nop, 201, 0, 0)]
def bk_120_201 : List mIns := [(.ireturn, 0, 0, 1)]
def bk_121_0 : List mIns := [(.aload_n 0, 0, 0, 0), (.getfield 124, 8, 12, 0), (.invokestatic 62, 90, 1, 0), (.ifCond .eq 5, 12, 0, 0), (.iconst (-1), 0, 0, (-1)), (.ireturn, 0, 0, 0)]
def bk_121_12 : List mIns := [(.aload_n 0, 0, 0, 0), (.aload_n 0, 0, 0, 0), (.getfield 124, 8, 12, 0), (.invokevirtual 66, 93, 2, 0), (.ifCond .ne 6, 26, 0, 0), (.bipush (-4), 0, 0, (-4)), (.ireturn, 0, 0, 0)]
def bk_121_26 : List mIns := [(.aload_n 0, 0, 0, 0), (.getfield 93, 8, 7, 0), (.aload_n 0, 0, 0, 0), (.getfield 127, 8, 13, 0), (.isub, 0, 0, 0), (.istore_n 1, 1, 0, 0), (.iload_n 1, 1, 0, 0), (.bipush 30, 0, 0, 30), (.if_icmp .le 6, 45, 0, 0), (.bipush (-3), 0, 0, (-3)), (.ireturn, 0, 0, 0)]
def bk_121_45 : List mIns := [(.aload_n 0, 0, 0, 0), (.invokevirtual 44, 95, 1, 0), (.aload_n 0, 0, 0, 0), (.aload_n 0, 0, 0, 0), (.getfield 124, 8, 12, 0), (.iconst 0, 0, 0, 0), (.sipush 5000, 0, 0, 5000), (.invokevirtual 77, 99, 4, 0), (.iconst 0, 0, 0, 0), (.istore_n 2, 2, 0, 0), (.nop, 63, 0, 0)]
def bk_121_63 : List mIns := [(.iload_n 2, 2, 0, 0), (.iload_n 1, 1, 0, 0), (.if_icmp .ge 57, 122, 0, 0), (.aload_n 0, 0, 0, 0), (.getfield 25, 8, 8, 2), (.aload_n 0, 0, 0, 0), (.getfield 127, 8, 13, 0), (.iload_n 2, 2, 0, 0), (.iadd, 0, 0, 0), (.caload, 0, 0, 0), (.bipush 97, 0, 0, 97), (.isub, 0, 0, 0), (.istore_n 3, 3, 0, 0), (.aload_n 0, 0, 0, 0), (.aload_n 0, 0, 0, 0), (.getfield 124, 8, 12, 0), (.iconst 1, 0, 0, 1), (.iload_n 2, 2, 0, 0), (.iadd, 0, 0, 0), (.sipush 2000, 0, 0, 2000), (.sipush 1000, 0, 0, 1000), (.iload_n 3, 3, 0, 0), (.imul, 0, 0, 0), (.iadd, 0, 0, 0), (.invokevirtual 77, 99, 4, 0), (.aload_n 0, 0, 0, 0), (.aload_n 0, 0, 0, 0), (.getfield 124, 8, 12, 0), (.bipush 68, 0, 0, 68), (.iload_n 2, 2, 0, 0), (.iadd, 0, 0, 0), (.iload_n 3, 3, 0, 0), (.invokevirtual 47, 92, 4, 0), (.iinc 2 1, 2, 0, 1), (.goto (-56), 63, 0, 0)]
def bk_121_122 : List mIns := [(.aload_n 0, 0, 0, 0), (.aload_n 0, 0, 0, 0), (.getfield 124, 8, 12, 0), (.iconst 1, 0, 0, 1), (.iload_n 1, 1, 0, 0), (.iadd, 0, 0, 0), (.sipush 5000, 0, 0, 5000), (.invokevirtual 77, 99, 4, 0), (.aload_n 0, 0, 0, 0), (.aload_n 0, 0, 0, 0), (.getfield 124, 8, 12, 0), (.iconst 0, 0, 0, 0), (.iconst 1, 0, 0, 1), (.invokevirtual 47, 92, 4, 0), (.aload_n 0, 0, 0, 0), (.aload_n 0, 0, 0, 0), (.getfield 124, 8, 12, 0), (.iconst 1, 0, 0, 1), (.iconst 1, 0, 0, 1), (.invokevirtual 47, 92, 4, 0), (.aload_n 0, 0, 0, 0), (.aload_n 0, 0, 0, 0), (.getfield 124, 8, 12, 0), (.iconst 2, 0, 0, 2), (.iload_n 1, 1, 0, 0), (.invokevirtual 47, 92, 4, 0), (.aload_n 0, 0, 0, 0), (.aload_n 0, 0, 0, 0), (.getfield 124, 8, 12, 0), (.iconst 3, 0, 0, 3), (.iconst 0, 0, 0, 0), (.invokevirtual 47, 92, 4, 0), (.aload_n 0, 0, 0, 0), (.iconst 0, 0, 0, 0), (.aload_n 0, 0, 0, 0), (.getfield 124, 8, 12, 0), (.iload_n 1, 1, 0, 0), (.invokevirtual 59, 96, 4, 0), (.iload_n 1, 1, 0, 0), (.ireturn, 0, 0, 0)]
def bk_122_0 : List mIns := [(.aload_n 0, 0, 0, 0), (.invokevirtual 130, 120, 1, 0), (.ifCond .ne 11, 15, 0, 0), (.bipush (-100), 0, 0, (-100)), (.aload_n 0, 0, 0, 0), (.getfield 96, 8, 9, 0), (.isub, 0, 0, 0), (.ireturn, 0, 0, 0)]
def bk_122_15 : List mIns := [(.aload_n 0, 0, 0, 0), (.getfield 114, 8, 11, 0), (.tableswitch 87 0 4 #[33, 38, 52, 65, 78], 19, 33, 0)]
def bk_122_52 : List mIns := [(.aload_n 0, 0, 0, 0), (.invokevirtual 133, 121, 1, 0), (.ireturn, 0, 0, 0)]
def bk_122_57 : List mIns := [(.aload_n 0, 0, 0, 0), (.aload_n 0, 0, 0, 0), (.getfield 124, 8, 12, 0), (.aload_n 0, 0, 0, 0), (.getfield 127, 8, 13, 0), (.iconst 1, 0, 0, 1), (.invokevirtual 136, 103, 4, 0), (.ireturn, 0, 0, 0)]
def bk_122_71 : List mIns := [(.aload_n 0, 0, 0, 0), (.aload_n 0, 0, 0, 0), (.getfield 124, 8, 12, 0), (.aload_n 0, 0, 0, 0), (.getfield 127, 8, 13, 0), (.invokevirtual 139, 104, 3, 0), (.ireturn, 0, 0, 0)]
def bk_122_84 : List mIns := [(.aload_n 0, 0, 0, 0), (.aload_n 0, 0, 0, 0), (.getfield 124, 8, 12, 0), (.aload_n 0, 0, 0, 0), (.getfield 127, 8, 13, 0), (.invokevirtual 142, 105, 3, 0), (.ireturn, 0, 0, 0)]
def bk_122_97 : List mIns := [(.aload_n 0, 0, 0, 0), (.aload_n 0, 0, 0, 0), (.getfield 124, 8, 12, 0), (.invokevirtual 145, 106, 2, 0), (.ireturn, 0, 0, 0)]
def bk_122_106 : List mIns := [(.aload_n 0, 0, 0, 0), (.aload_n 0, 0, 0, 0), (.getfield 124, 8, 12, 0), (.aload_n 0, 0, 0, 0), (.getfield 127, 8, 13, 0), (.invokevirtual 148, 112, 3, 0), (.ireturn, 0, 0, 0)]
def bk_123_0 : List mIns := [(.iconst 0, 0, 0, 0), (.istore_n 1, 1, 0, 0), (.iconst 0, 0, 0, 0), (.istore_n 2, 2, 0, 0), (.nop, 4, 0, 0)]
def bk_123_4 : List mIns := [(.iload_n 2, 2, 0, 0), (.bipush 6, 0, 0, 6), (.if_icmp .ge 25, 32, 0, 0), (.iload_n 1, 1, 0, 0), (.aload_n 0, 0, 0, 0), (.iload_n 2, 2, 0, 0), (.invokevirtual 66, 93, 2, 0), (.ifCond .eq 7, 23, 0, 0), (.iconst 0, 0, 0, 0), (.goto 4, 24, 0, 0)]
def bk_123_23 : List mIns := [(.iconst 1, 0, 0, 1), (.nop, 24, 0, 0)]
def bk_123_24 : List mIns := [(.iadd, 0, 0, 0), (.istore_n 1, 1, 0, 0), (.iinc 2 1, 2, 0, 1), (.goto (-25), 4, 0, 0)]
def bk_123_32 : List mIns := [(.iload_n 1, 1, 0, 0), (.ireturn, 0, 0, 0)]
def bk_124_0 : List mIns := [(.aload_n 0, 0, 0, 0), (.getfield 40, 8, 2, 0), (.ifCond .ne 6, 10, 0, 0), (.bipush (-5), 0, 0, (-5)), (.ireturn, 0, 0, 0)]
def bk_124_10 : List mIns := [(.aload_n 0, 0, 0, 0), (.dup, 0, 0, 0), (.getfield 40, 8, 2, 0), (.iconst 1, 0, 0, 1), (.isub, 0, 0, 0), (.putfield 40, 8, 2, 0), (.iconst 0, 0, 0, 0), (.istore_n 1, 1, 0, 0), (.nop, 22, 0, 0)]
def bk_124_22 : List mIns := [(.iload_n 1, 1, 0, 0), (.sipush 626, 0, 0, 626), (.if_icmp .ge 30, 56, 0, 0), (.aload_n 0, 0, 0, 0), (.getfield 7, 8, 0, 2), (.iload_n 1, 1, 0, 0), (.aload_n 0, 0, 0, 0), (.getfield 13, 8, 1, 2), (.sipush 626, 0, 0, 626), (.aload_n 0, 0, 0, 0), (.getfield 40, 8, 2, 0), (.imul, 0, 0, 0), (.iload_n 1, 1, 0, 0), (.iadd, 0, 0, 0), (.iaload, 0, 0, 0), (.iastore, 0, 0, 0), (.iinc 1 1, 1, 0, 1), (.goto (-31), 22, 0, 0)]
def bk_124_56 : List mIns := [(.aload_n 0, 0, 0, 0), (.getfield 40, 8, 2, 0), (.ireturn, 0, 0, 0)]
def bk_125_0 : List mIns := [(.iconst 0, 0, 0, 0), (.istore_n 1, 1, 0, 0), (.nop, 2, 0, 0)]
def bk_125_2 : List mIns := [(.iload_n 1, 1, 0, 0), (.sipush 626, 0, 0, 626), (.if_icmp .ge 21, 27, 0, 0), (.aload_n 0, 0, 0, 0), (.getfield 16, 8, 3, 2), (.iload_n 1, 1, 0, 0), (.aload_n 0, 0, 0, 0), (.getfield 7, 8, 0, 2), (.iload_n 1, 1, 0, 0), (.iaload, 0, 0, 0), (.iastore, 0, 0, 0), (.iinc 1 1, 1, 0, 1), (.goto (-22), 2, 0, 0)]
def bk_125_27 : List mIns := [(.aload_n 0, 0, 0, 0), (.iconst 1, 0, 0, 1), (.putfield 151, 8, 4, 1), (.aload_n 0, 0, 0, 0), (.invokevirtual 155, 123, 1, 0), (.ireturn, 0, 0, 0)]
def bk_126_0 : List mIns := [(.aload_n 0, 0, 0, 0), (.getfield 151, 8, 4, 1), (.ifCond .ne 6, 10, 0, 0), (.bipush (-5), 0, 0, (-5)), (.ireturn, 0, 0, 0)]
def bk_126_10 : List mIns := [(.aload_n 0, 0, 0, 0), (.invokevirtual 44, 95, 1, 0), (.iconst 0, 0, 0, 0), (.istore_n 1, 1, 0, 0), (.nop, 16, 0, 0)]
def bk_126_16 : List mIns := [(.iload_n 1, 1, 0, 0), (.sipush 626, 0, 0, 626), (.if_icmp .ge 21, 41, 0, 0), (.aload_n 0, 0, 0, 0), (.getfield 7, 8, 0, 2), (.iload_n 1, 1, 0, 0), (.aload_n 0, 0, 0, 0), (.getfield 16, 8, 3, 2), (.iload_n 1, 1, 0, 0), (.iaload, 0, 0, 0), (.iastore, 0, 0, 0), (.iinc 1 1, 1, 0, 1), (.goto (-22), 16, 0, 0)]
def bk_126_41 : List mIns := [(.aload_n 0, 0, 0, 0), (.invokevirtual 155, 123, 1, 0), (.ireturn, 0, 0, 0)]
def bk_127_0 : List mIns := [(.aload_n 0, 0, 0, 0), (.iload_n 1, 1, 0, 0), (.iconst 4, 0, 0, 4), (.iload_n 2, 2, 0, 0), (.iadd, 0, 0, 0), (.invokevirtual 36, 91, 3, 0), (.sipush 1000, 0, 0, 1000), (.imul, 0, 0, 0), (.aload_n 0, 0, 0, 0), (.iload_n 1, 1, 0, 0), (.bipush 36, 0, 0, 36), (.iload_n 2, 2, 0, 0), (.iadd, 0, 0, 0), (.invokevirtual 36, 91, 3, 0), (.idiv, 0, 0, 0), (.ireturn, 0, 0, 0)]
def bk_128_0 : List mIns := [(.iconst 0, 0, 0, 0), (.istore_n 2, 2, 0, 0), (.iconst 1, 0, 0, 1), (.istore_n 3, 3, 0, 0), (.nop, 4, 0, 0)]
def bk_128_4 : List mIns := [(.iload_n 3, 3, 0, 0), (.aload_n 0, 0, 0, 0), (.iload_n 1, 1, 0, 0), (.invokevirtual 51, 94, 2, 0), (.if_icmp .ge 30, 40, 0, 0), (.aload_n 0, 0, 0, 0), (.iload_n 1, 1, 0, 0), (.iload_n 3, 3, 0, 0), (.invokevirtual 158, 127, 3, 0), (.aload_n 0, 0, 0, 0), (.iload_n 1, 1, 0, 0), (.iload_n 2, 2, 0, 0), (.invokevirtual 158, 127, 3, 0), (.if_icmp .le 7, 32, 0, 0), (.iload_n 3, 3, 0, 0), (.goto 4, 33, 0, 0)]
def bk_128_32 : List mIns := [(.iload_n 2, 2, 0, 0), (.nop, 33, 0, 0)]
def bk_128_33 : List mIns := [(.istore_n 2, 2, 0, 0), (.iinc 3 1, 3, 0, 1), (.goto (-33), 4, 0, 0)]
def bk_128_40 : List mIns := [(.iload_n 2, 2, 0, 0), (.ireturn, 0, 0, 0)]
def bk_129_0 : List mIns := [(.iconst 0, 0, 0, 0), (.istore_n 3, 3, 0, 0), (.iconst 0, 0, 0, 0), (.istore 4, 4, 0, 0), (.nop, 5, 0, 0)]
def bk_129_5 : List mIns := [(.iload 4, 4, 0, 0), (.aload_n 0, 0, 0, 0), (.iload_n 1, 1, 0, 0), (.invokevirtual 51, 94, 2, 0), (.if_icmp .ge 21, 33, 0, 0), (.iload_n 3, 3, 0, 0), (.aload_n 0, 0, 0, 0), (.iload_n 1, 1, 0, 0), (.iload_n 2, 2, 0, 0), (.iload 4, 4, 0, 0), (.iadd, 0, 0, 0), (.invokevirtual 36, 91, 3, 0), (.iadd, 0, 0, 0), (.istore_n 3, 3, 0, 0), (.iinc 4 1, 4, 0, 1), (.goto (-25), 5, 0, 0)]
def bk_129_33 : List mIns := [(.iload_n 3, 3, 0, 0), (.ireturn, 0, 0, 0)]
def bk_130_0 : List mIns := [(.iload_n 1, 1, 0, 0), (.invokestatic 62, 90, 1, 0), (.ifCond .eq 5, 9, 0, 0), (.iconst (-1), 0, 0, (-1)), (.ireturn, 0, 0, 0)]
def bk_130_9 : List mIns := [(.iload_n 2, 2, 0, 0), (.iconst 0, 0, 0, 0), (.bipush 6, 0, 0, 6), (.invokestatic 32, 89, 3, 0), (.ifCond .ne 6, 22, 0, 0), (.bipush (-2), 0, 0, (-2)), (.ireturn, 0, 0, 0)]
def bk_130_22 : List mIns := [(.aload_n 0, 0, 0, 0), (.iload_n 1, 1, 0, 0), (.invokevirtual 66, 93, 2, 0), (.ifCond .eq 6, 33, 0, 0), (.bipush (-4), 0, 0, (-4)), (.ireturn, 0, 0, 0)]
def bk_130_33 : List mIns := [(.iload_n 2, 2, 0, 0), (.tableswitch 80 0 5 #[38, 45, 52, 59, 67, 74], 34, 38, 0)]
def bk_130_72 : List mIns := [(.aload_n 0, 0, 0, 0), (.iload_n 1, 1, 0, 0), (.iconst 2, 0, 0, 2), (.invokevirtual 36, 91, 3, 0), (.ireturn, 0, 0, 0)]
def bk_130_79 : List mIns := [(.aload_n 0, 0, 0, 0), (.iload_n 1, 1, 0, 0), (.iconst 1, 0, 0, 1), (.invokevirtual 36, 91, 3, 0), (.ireturn, 0, 0, 0)]
def bk_130_86 : List mIns := [(.aload_n 0, 0, 0, 0), (.iload_n 1, 1, 0, 0), (.iconst 4, 0, 0, 4), (.invokevirtual 161, 129, 3, 0), (.ireturn, 0, 0, 0)]
def bk_130_93 : List mIns := [(.aload_n 0, 0, 0, 0), (.iload_n 1, 1, 0, 0), (.bipush 36, 0, 0, 36), (.invokevirtual 161, 129, 3, 0), (.ireturn, 0, 0, 0)]
def bk_130_101 : List mIns := [(.aload_n 0, 0, 0, 0), (.iload_n 1, 1, 0, 0), (.iconst 3, 0, 0, 3), (.invokevirtual 36, 91, 3, 0), (.ireturn, 0, 0, 0)]
def bk_130_108 : List mIns := [(.aload_n 0, 0, 0, 0), (.iload_n 1, 1, 0, 0), (.invokevirtual 164, 128, 2, 0), (.ireturn, 0, 0, 0)]
def bk_130_114 : List mIns := [(.aload_n 0, 0, 0, 0), (.iload_n 1, 1, 0, 0), (.aload_n 0, 0, 0, 0), (.iload_n 1, 1, 0, 0), (.invokevirtual 164, 128, 2, 0), (.invokevirtual 158, 127, 3, 0), (.ireturn, 0, 0, 0)]
def bk_131_0 : List mIns := [(.iload_n 1, 1, 0, 0), (.invokestatic 62, 90, 1, 0), (.ifCond .ne 26, 30, 0, 0), (.aload_n 0, 0, 0, 0), (.iload_n 1, 1, 0, 0), (.invokevirtual 66, 93, 2, 0), (.ifCond .ne 18, 30, 0, 0), (.iload_n 2, 2, 0, 0), (.iconst 0, 0, 0, 0), (.aload_n 0, 0, 0, 0), (.iload_n 1, 1, 0, 0), (.invokevirtual 51, 94, 2, 0), (.iconst 1, 0, 0, 1), (.isub, 0, 0, 0), (.invokestatic 32, 89, 3, 0), (.ifCond .ne 5, 32, 0, 0), (.nop, 30, 0, 0)]
def bk_131_30 : List mIns := [(.iconst (-1), 0, 0, (-1)), (.ireturn, 0, 0, 0)]
def bk_131_32 : List mIns := [(.iload_n 3, 3, 0, 0), (.tableswitch 93 0 3 #[31, 40, 50, 84], 33, 31, 0)]
def bk_131_64 : List mIns := [(.aload_n 0, 0, 0, 0), (.iload_n 1, 1, 0, 0), (.iconst 4, 0, 0, 4), (.iload_n 2, 2, 0, 0), (.iadd, 0, 0, 0), (.invokevirtual 36, 91, 3, 0), (.ireturn, 0, 0, 0)]
def bk_131_73 : List mIns := [(.aload_n 0, 0, 0, 0), (.iload_n 1, 1, 0, 0), (.bipush 36, 0, 0, 36), (.iload_n 2, 2, 0, 0), (.iadd, 0, 0, 0), (.invokevirtual 36, 91, 3, 0), (.ireturn, 0, 0, 0)]
def bk_131_83 : List mIns := [(.iload_n 2, 2, 0, 0), (.iconst 1, 0, 0, 1), (.aload_n 0, 0, 0, 0), (.iload_n 1, 1, 0, 0), (.iconst 2, 0, 0, 2), (.invokevirtual 36, 91, 3, 0), (.invokestatic 32, 89, 3, 0), (.ifCond .eq 20, 114, 0, 0), (.bipush 97, 0, 0, 97), (.aload_n 0, 0, 0, 0), (.iload_n 1, 1, 0, 0), (.bipush 68, 0, 0, 68), (.iload_n 2, 2, 0, 0), (.iadd, 0, 0, 0), (.iconst 1, 0, 0, 1), (.isub, 0, 0, 0), (.invokevirtual 36, 91, 3, 0), (.iadd, 0, 0, 0), (.goto 5, 116, 0, 0)]
def bk_131_114 : List mIns := [(.bipush (-5), 0, 0, (-5)), (.nop, 116, 0, 0)]
def bk_131_116 : List mIns := [(.ireturn, 0, 0, 0)]
def bk_131_117 : List mIns := [(.aload_n 0, 0, 0, 0), (.iload_n 1, 1, 0, 0), (.iload_n 2, 2, 0, 0), (.bipush 9, 0, 0, 9), (.invokevirtual 55, 101, 4, 0), (.ireturn, 0, 0, 0)]
def bk_131_126 : List mIns := [(.bipush (-2), 0, 0, (-2)), (.ireturn, 0, 0, 0)]
def bk_132_0 : List mIns := [(.iload_n 1, 1, 0, 0), (.invokestatic 62, 90, 1, 0), (.ifCond .ne 27, 31, 0, 0), (.aload_n 0, 0, 0, 0), (.iload_n 1, 1, 0, 0), (.invokevirtual 66, 93, 2, 0), (.ifCond .ne 19, 31, 0, 0), (.iload_n 3, 3, 0, 0), (.iconst 0, 0, 0, 0), (.aload_n 0, 0, 0, 0), (.iload_n 1, 1, 0, 0), (.iconst 2, 0, 0, 2), (.invokevirtual 36, 91, 3, 0), (.iconst 1, 0, 0, 1), (.isub, 0, 0, 0), (.invokestatic 32, 89, 3, 0), (.ifCond .ne 5, 33, 0, 0), (.nop, 31, 0, 0)]
def bk_132_31 : List mIns := [(.iconst (-1), 0, 0, (-1)), (.ireturn, 0, 0, 0)]
def bk_132_33 : List mIns := [(.iload_n 2, 2, 0, 0), (.iconst 0, 0, 0, 0), (.iconst 2, 0, 0, 2), (.invokestatic 32, 89, 3, 0), (.ifCond .ne 6, 45, 0, 0), (.bipush (-2), 0, 0, (-2)), (.ireturn, 0, 0, 0)]
def bk_132_45 : List mIns := [(.aload_n 0, 0, 0, 0), (.iload_n 1, 1, 0, 0), (.iload_n 2, 2, 0, 0), (.invokevirtual 90, 109, 3, 0), (.ifCond .eq 6, 57, 0, 0), (.bipush (-4), 0, 0, (-4)), (.ireturn, 0, 0, 0)]
def bk_132_57 : List mIns := [(.aload_n 0, 0, 0, 0), (.iload_n 1, 1, 0, 0), (.iload_n 2, 2, 0, 0), (.invokevirtual 83, 108, 3, 0), (.aload_n 0, 0, 0, 0), (.getfield 22, 8, 6, 2), (.iload_n 3, 3, 0, 0), (.iaload, 0, 0, 0), (.bipush (-5), 0, 0, (-5)), (.if_icmp .ne 8, 79, 0, 0), (.bipush 63, 0, 0, 63), (.goto 12, 88, 0, 0)]
def bk_132_79 : List mIns := [(.bipush 97, 0, 0, 97), (.aload_n 0, 0, 0, 0), (.getfield 22, 8, 6, 2), (.iload_n 3, 3, 0, 0), (.iaload, 0, 0, 0), (.iadd, 0, 0, 0), (.nop, 88, 0, 0)]
def bk_132_88 : List mIns := [(.ireturn, 0, 0, 0)]
def bk_133_0 : List mIns := [(.iload_n 1, 1, 0, 0), (.invokestatic 62, 90, 1, 0), (.ifCond .eq 5, 9, 0, 0), (.iconst (-1), 0, 0, (-1)), (.ireturn, 0, 0, 0)]
def bk_133_9 : List mIns := [(.iload_n 2, 2, 0, 0), (.iconst 0, 0, 0, 0), (.iconst 2, 0, 0, 2), (.invokestatic 32, 89, 3, 0), (.ifCond .eq 12, 27, 0, 0), (.iload_n 3, 3, 0, 0), (.iconst 0, 0, 0, 0), (.iconst 2, 0, 0, 2), (.invokestatic 32, 89, 3, 0), (.ifCond .ne 6, 30, 0, 0), (.nop, 27, 0, 0)]
def bk_133_27 : List mIns := [(.bipush (-2), 0, 0, (-2)), (.ireturn, 0, 0, 0)]
def bk_133_30 : List mIns := [(.aload_n 0, 0, 0, 0), (.iload_n 1, 1, 0, 0), (.invokevirtual 66, 93, 2, 0), (.ifCond .ne 12, 47, 0, 0), (.aload_n 0, 0, 0, 0), (.iload_n 1, 1, 0, 0), (.iload_n 2, 2, 0, 0), (.invokevirtual 90, 109, 3, 0), (.ifCond .eq 6, 50, 0, 0), (.nop, 47, 0, 0)]
def bk_133_47 : List mIns := [(.bipush (-4), 0, 0, (-4)), (.ireturn, 0, 0, 0)]
def bk_133_50 : List mIns := [(.aload_n 0, 0, 0, 0), (.iload_n 1, 1, 0, 0), (.iload_n 2, 2, 0, 0), (.invokevirtual 83, 108, 3, 0), (.aload_n 0, 0, 0, 0), (.iload_n 1, 1, 0, 0), (.iload_n 3, 3, 0, 0), (.invokevirtual 87, 110, 3, 0), (.ireturn, 0, 0, 0)]
def bk_134_0 : List mIns := [(.iload_n 1, 1, 0, 0), (.invokestatic 62, 90, 1, 0), (.ifCond .eq 5, 9, 0, 0), (.iconst (-1), 0, 0, (-1)), (.ireturn, 0, 0, 0)]
def bk_134_9 : List mIns := [(.aload_n 0, 0, 0, 0), (.iload_n 1, 1, 0, 0), (.invokevirtual 66, 93, 2, 0), (.ifCond .eq 6, 20, 0, 0), (.bipush (-4), 0, 0, (-4)), (.ireturn, 0, 0, 0)]
def bk_134_20 : List mIns := [(.iconst 0, 0, 0, 0), (.istore_n 2, 2, 0, 0), (.aload_n 0, 0, 0, 0), (.iload_n 1, 1, 0, 0), (.iconst 0, 0, 0, 0), (.invokevirtual 167, 111, 3, 0), (.istore_n 3, 3, 0, 0), (.iconst 1, 0, 0, 1), (.istore 4, 4, 0, 0), (.nop, 32, 0, 0)]
def bk_134_32 : List mIns := [(.iload 4, 4, 0, 0), (.iconst 2, 0, 0, 2), (.aload_n 0, 0, 0, 0), (.iload_n 1, 1, 0, 0), (.iconst 1, 0, 0, 1), (.invokevirtual 36, 91, 3, 0), (.iadd, 0, 0, 0), (.if_icmp .ge 30, 72, 0, 0), (.aload_n 0, 0, 0, 0), (.iload_n 1, 1, 0, 0), (.iload 4, 4, 0, 0), (.invokevirtual 167, 111, 3, 0), (.istore 5, 5, 0, 0), (.iload 5, 5, 0, 0), (.iload_n 3, 3, 0, 0), (.if_icmp .ge 9, 66, 0, 0), (.iload 4, 4, 0, 0), (.istore_n 2, 2, 0, 0), (.iload 5, 5, 0, 0), (.istore_n 3, 3, 0, 0), (.nop, 66, 0, 0)]
def bk_134_66 : List mIns := [(.iinc 4 1, 4, 0, 1), (.goto (-37), 32, 0, 0)]
def bk_134_72 : List mIns := [(.iload_n 2, 2, 0, 0), (.ireturn, 0, 0, 0)]
def bk_135_0 : List mIns := [(.iconst 0, 0, 0, 0), (.istore_n 1, 1, 0, 0), (.nop, 2, 0, 0)]
def bk_135_2 : List mIns := [(.iload_n 1, 1, 0, 0), (.sipush 626, 0, 0, 626), (.if_icmp .ge 21, 27, 0, 0), (.aload_n 0, 0, 0, 0), (.getfield 19, 8, 5, 2), (.iload_n 1, 1, 0, 0), (.aload_n 0, 0, 0, 0), (.getfield 7, 8, 0, 2), (.iload_n 1, 1, 0, 0), (.iaload, 0, 0, 0), (.iastore, 0, 0, 0), (.iinc 1 1, 1, 0, 1), (.goto (-22), 2, 0, 0)]
def bk_135_27 : List mIns := [(.return_, 0, 0, 0)]
def bk_136_0 : List mIns := [(.iconst 0, 0, 0, 0), (.istore_n 1, 1, 0, 0), (.nop, 2, 0, 0)]
def bk_136_2 : List mIns := [(.iload_n 1, 1, 0, 0), (.sipush 626, 0, 0, 626), (.if_icmp .ge 21, 27, 0, 0), (.aload_n 0, 0, 0, 0), (.getfield 7, 8, 0, 2), (.iload_n 1, 1, 0, 0), (.aload_n 0, 0, 0, 0), (.getfield 19, 8, 5, 2), (.iload_n 1, 1, 0, 0), (.iaload, 0, 0, 0), (.iastore, 0, 0, 0), (.iinc 1 1, 1, 0, 1), (.goto (-22), 2, 0, 0)]
def bk_136_27 : List mIns := [(.return_, 0, 0, 0)]
def bk_137_0 : List mIns := [(.iload_n 1, 1, 0, 0), (.invokestatic 62, 90, 1, 0), (.ifCond .eq 5, 9, 0, 0), (.iconst (-1), 0, 0, (-1)), (.ireturn, 0, 0, 0)]
def bk_137_9 : List mIns := [(.iload_n 2, 2, 0, 0), (.iconst 0, 0, 0, 0), (.iconst 1, 0, 0, 1), (.invokestatic 32, 89, 3, 0), (.ifCond .eq 24, 39, 0, 0), (.iload_n 3, 3, 0, 0), (.iconst 0, 0, 0, 0), (.bipush 9, 0, 0, 9), (.invokestatic 32, 89, 3, 0), (.ifCond .eq 14, 39, 0, 0), (.iload 4, 4, 0, 0), (.iconst 0, 0, 0, 0), (.bipush 30, 0, 0, 30), (.invokestatic 32, 89, 3, 0), (.ifCond .ne 6, 42, 0, 0), (.nop, 39, 0, 0)]
def bk_137_39 : List mIns := [(.bipush (-2), 0, 0, (-2)), (.ireturn, 0, 0, 0)]
def bk_137_42 : List mIns := [(.aload_n 0, 0, 0, 0), (.iload_n 1, 1, 0, 0), (.invokevirtual 66, 93, 2, 0), (.ifCond .eq 8, 55, 0, 0), (.bipush (-4), 0, 0, (-4)), (.goto 4, 56, 0, 0)]
def bk_137_55 : List mIns := [(.iconst 0, 0, 0, 0), (.nop, 56, 0, 0)]
def bk_137_56 : List mIns := [(.ireturn, 0, 0, 0)]
def bk_138_0 : List mIns := [(.aload_n 0, 0, 0, 0), (.iload_n 1, 1, 0, 0), (.iload_n 2, 2, 0, 0), (.iload_n 3, 3, 0, 0), (.iload 4, 4, 0, 0), (.invokevirtual 170, 137, 5, 0), (.istore 5, 5, 0, 0), (.iload 5, 5, 0, 0), (.ifCond .eq 6, 19, 0, 0), (.iload 5, 5, 0, 0), (.ireturn, 0, 0, 0)]
def bk_138_19 : List mIns := [(.aload_n 0, 0, 0, 0), (.invokevirtual 174, 135, 1, 0), (.aload_n 0, 0, 0, 0), (.iload_n 1, 1, 0, 0), (.iconst 2, 0, 0, 2), (.invokevirtual 36, 91, 3, 0), (.istore 6, 6, 0, 0), (.iconst 0, 0, 0, 0), (.istore 7, 7, 0, 0), (.iconst 0, 0, 0, 0), (.istore 8, 8, 0, 0), (.nop, 37, 0, 0)]
def bk_138_37 : List mIns := [(.iload 8, 8, 0, 0), (.iload 4, 4, 0, 0), (.if_icmp .ge 22, 63, 0, 0), (.iload 7, 7, 0, 0), (.ifCond .ne 17, 63, 0, 0), (.aload_n 0, 0, 0, 0), (.iload_n 1, 1, 0, 0), (.iload_n 3, 3, 0, 0), (.invokevirtual 69, 102, 3, 0), (.istore 7, 7, 0, 0), (.iinc 8 1, 8, 0, 1), (.goto (-23), 37, 0, 0)]
def bk_138_63 : List mIns := [(.iload 6, 6, 0, 0), (.aload_n 0, 0, 0, 0), (.iload_n 1, 1, 0, 0), (.iconst 2, 0, 0, 2), (.invokevirtual 36, 91, 3, 0), (.isub, 0, 0, 0), (.aload_n 0, 0, 0, 0), (.iload_n 1, 1, 0, 0), (.iload_n 2, 2, 0, 0), (.invokevirtual 167, 111, 3, 0), (.iadd, 0, 0, 0), (.istore 8, 8, 0, 0), (.aload_n 0, 0, 0, 0), (.invokevirtual 177, 136, 1, 0), (.iload 8, 8, 0, 0), (.ireturn, 0, 0, 0)]
def bk_139_0 : List mIns := [(.aload_n 0, 0, 0, 0), (.iload_n 1, 1, 0, 0), (.iload_n 2, 2, 0, 0), (.invokevirtual 83, 108, 3, 0), (.iconst 0, 0, 0, 0), (.istore_n 3, 3, 0, 0), (.nop, 8, 0, 0)]
def bk_139_8 : List mIns := [(.iload_n 3, 3, 0, 0), (.aload_n 0, 0, 0, 0), (.iload_n 1, 1, 0, 0), (.iconst 2, 0, 0, 2), (.invokevirtual 36, 91, 3, 0), (.if_icmp .ge 26, 41, 0, 0), (.aload_n 0, 0, 0, 0), (.getfield 22, 8, 6, 2), (.iload_n 3, 3, 0, 0), (.iaload, 0, 0, 0), (.aload_n 0, 0, 0, 0), (.getfield 29, 8, 14, 2), (.iload_n 3, 3, 0, 0), (.iaload, 0, 0, 0), (.if_icmp .eq 5, 35, 0, 0), (.iconst 0, 0, 0, 0), (.ireturn, 0, 0, 1)]
def bk_139_35 : List mIns := [(.iinc 3 1, 3, 0, 1), (.goto (-30), 8, 0, 0)]
def bk_139_41 : List mIns := [(.iconst 1, 0, 0, 1), (.ireturn, 0, 0, 1)]
def bk_140_0 : List mIns := [(.aload_n 0, 0, 0, 0), (.iload_n 1, 1, 0, 0), (.iload_n 2, 2, 0, 0), (.iload_n 3, 3, 0, 0), (.iconst 0, 0, 0, 0), (.invokevirtual 170, 137, 5, 0), (.istore 4, 4, 0, 0), (.iload 4, 4, 0, 0), (.ifCond .eq 6, 18, 0, 0), (.iload 4, 4, 0, 0), (.ireturn, 0, 0, 0)]
def bk_140_18 : List mIns := [(.aload_n 0, 0, 0, 0), (.iload_n 1, 1, 0, 0), (.iload_n 2, 2, 0, 0), (.invokevirtual 83, 108, 3, 0), (.iconst 0, 0, 0, 0), (.istore 5, 5, 0, 0), (.nop, 27, 0, 0)]
def bk_140_27 : List mIns := [(.iload 5, 5, 0, 0), (.bipush 30, 0, 0, 30), (.if_icmp .ge 23, 54, 0, 0), (.aload_n 0, 0, 0, 0), (.getfield 29, 8, 14, 2), (.iload 5, 5, 0, 0), (.aload_n 0, 0, 0, 0), (.getfield 22, 8, 6, 2), (.iload 5, 5, 0, 0), (.iaload, 0, 0, 0), (.iastore, 0, 0, 0), (.iinc 5 1, 5, 0, 1), (.goto (-24), 27, 0, 0)]
def bk_140_54 : List mIns := [(.aload_n 0, 0, 0, 0), (.invokevirtual 174, 135, 1, 0), (.iconst 0, 0, 0, 0), (.istore 5, 5, 0, 0), (.nop, 61, 0, 0)]
def bk_140_61 : List mIns := [(.iload 5, 5, 0, 0), (.bipush 30, 0, 0, 30), (.if_icmp .ge 27, 92, 0, 0), (.aload_n 0, 0, 0, 0), (.iload_n 1, 1, 0, 0), (.iload_n 3, 3, 0, 0), (.invokevirtual 69, 102, 3, 0), (.ifCond .ne 18, 92, 0, 0), (.aload_n 0, 0, 0, 0), (.iload_n 1, 1, 0, 0), (.iload_n 2, 2, 0, 0), (.invokevirtual 180, 139, 3, 0), (.ifCond .eq 9, 92, 0, 0), (.iinc 5 1, 5, 0, 1), (.goto (-28), 61, 0, 0)]
def bk_140_92 : List mIns := [(.aload_n 0, 0, 0, 0), (.invokevirtual 177, 136, 1, 0), (.iload 5, 5, 0, 0), (.ireturn, 0, 0, 0)]
def bk_141_0 : List mIns := [(.iload_n 1, 1, 0, 0), (.ifCond .lt 12, 13, 0, 0), (.iload_n 2, 2, 0, 0), (.iconst 0, 0, 0, 0), (.iconst 2, 0, 0, 2), (.invokestatic 32, 89, 3, 0), (.ifCond .ne 6, 16, 0, 0), (.nop, 13, 0, 0)]
def bk_141_13 : List mIns := [(.bipush (-2), 0, 0, (-2)), (.ireturn, 0, 0, 0)]
def bk_141_16 : List mIns := [(.iload_n 1, 1, 0, 0), (.aload_n 0, 0, 0, 0), (.getfield 7, 8, 0, 2), (.sipush 595, 0, 0, 595), (.iaload, 0, 0, 0), (.if_icmp .ge 31, 56, 0, 0), (.aload_n 0, 0, 0, 0), (.getfield 7, 8, 0, 2), (.sipush 596, 0, 0, 596), (.iconst 3, 0, 0, 3), (.aload_n 0, 0, 0, 0), (.getfield 7, 8, 0, 2), (.sipush 595, 0, 0, 595), (.iaload, 0, 0, 0), (.iconst 1, 0, 0, 1), (.isub, 0, 0, 0), (.iload_n 1, 1, 0, 0), (.isub, 0, 0, 0), (.imul, 0, 0, 0), (.iadd, 0, 0, 0), (.iload_n 2, 2, 0, 0), (.iadd, 0, 0, 0), (.iaload, 0, 0, 0), (.goto 5, 58, 0, 0)]
def bk_141_56 : List mIns := [(.bipush (-5), 0, 0, (-5)), (.nop, 58, 0, 0)]
def bk_141_58 : List mIns := [(.ireturn, 0, 0, 0)]
def bk_142_0 : List mIns := [(.iconst 0, 0, 0, 0), (.istore_n 1, 1, 0, 0), (.iconst 0, 0, 0, 0), (.istore_n 2, 2, 0, 0), (.nop, 4, 0, 0)]
def bk_142_4 : List mIns := [(.iload_n 2, 2, 0, 0), (.bipush 6, 0, 0, 6), (.if_icmp .ge 30, 37, 0, 0), (.iload_n 1, 1, 0, 0), (.aload_n 0, 0, 0, 0), (.iload_n 2, 2, 0, 0), (.invokevirtual 66, 93, 2, 0), (.ifCond .eq 7, 23, 0, 0), (.iconst 0, 0, 0, 0), (.goto 9, 29, 0, 0)]
def bk_142_23 : List mIns := [(.aload_n 0, 0, 0, 0), (.iload_n 2, 2, 0, 0), (.iconst 2, 0, 0, 2), (.invokevirtual 36, 91, 3, 0), (.nop, 29, 0, 0)]
def bk_142_29 : List mIns := [(.iadd, 0, 0, 0), (.istore_n 1, 1, 0, 0), (.iinc 2 1, 2, 0, 1), (.goto (-30), 4, 0, 0)]
def bk_142_37 : List mIns := [(.iload_n 1, 1, 0, 0), (.ireturn, 0, 0, 0)]
def bk_143_0 : List mIns := [(.iload_n 1, 1, 0, 0), (.tableswitch 142 0 10 #[59, 64, 69, 78, 87, 96, 105, 114, 123, 132, 137], 1, 59, 0)]
def bk_143_60 : List mIns := [(.aload_n 0, 0, 0, 0), (.invokevirtual 155, 123, 1, 0), (.ireturn, 0, 0, 0)]
def bk_143_65 : List mIns := [(.aload_n 0, 0, 0, 0), (.invokevirtual 183, 142, 1, 0), (.ireturn, 0, 0, 0)]
def bk_143_70 : List mIns := [(.aload_n 0, 0, 0, 0), (.getfield 7, 8, 0, 2), (.sipush 590, 0, 0, 590), (.iaload, 0, 0, 0), (.ireturn, 0, 0, 0)]
def bk_143_79 : List mIns := [(.aload_n 0, 0, 0, 0), (.getfield 7, 8, 0, 2), (.sipush 591, 0, 0, 591), (.iaload, 0, 0, 0), (.ireturn, 0, 0, 0)]
def bk_143_88 : List mIns := [(.aload_n 0, 0, 0, 0), (.getfield 7, 8, 0, 2), (.sipush 592, 0, 0, 592), (.iaload, 0, 0, 0), (.ireturn, 0, 0, 0)]
def bk_143_97 : List mIns := [(.aload_n 0, 0, 0, 0), (.getfield 7, 8, 0, 2), (.sipush 593, 0, 0, 593), (.iaload, 0, 0, 0), (.ireturn, 0, 0, 0)]
def bk_143_106 : List mIns := [(.aload_n 0, 0, 0, 0), (.getfield 7, 8, 0, 2), (.sipush 594, 0, 0, 594), (.iaload, 0, 0, 0), (.ireturn, 0, 0, 0)]
def bk_143_115 : List mIns := [(.aload_n 0, 0, 0, 0), (.getfield 7, 8, 0, 2), (.sipush 588, 0, 0, 588), (.iaload, 0, 0, 0), (.ireturn, 0, 0, 0)]
def bk_143_124 : List mIns := [(.aload_n 0, 0, 0, 0), (.getfield 7, 8, 0, 2), (.sipush 589, 0, 0, 589), (.iaload, 0, 0, 0), (.ireturn, 0, 0, 0)]
def bk_143_133 : List mIns := [(.aload_n 0, 0, 0, 0), (.getfield 40, 8, 2, 0), (.ireturn, 0, 0, 0)]
def bk_143_138 : List mIns := [(.aload_n 0, 0, 0, 0), (.getfield 93, 8, 7, 0), (.ireturn, 0, 0, 0)]
def bk_143_143 : List mIns := [(.bipush (-2), 0, 0, (-2)), (.ireturn, 0, 0, 0)]
def bk_144_0 : List mIns := [(.aload_n 0, 0, 0, 0), (.getfield 9, 0, 0, 4), (.arraylength, 0, 0, 2), (.aload_n 0, 0, 0, 0), (.invokevirtual 335, 146, 1, 0), (.ishr, 0, 0, 0), (.ireturn, 0, 0, 0)]
def bk_145_0 : List mIns := [(.aload_n 0, 0, 0, 0), (.invokevirtual 492, 147, 1, 0), (.ifCond .eq 12, 16, 0, 0), (.aload_n 0, 0, 0, 0), (.getfield 9, 0, 0, 4), (.iload_n 1, 1, 0, 0), (.invokestatic 495, 149, 2, 0), (.ireturn, 0, 0, 3)]
def bk_145_16 : List mIns := [(.aload_n 0, 0, 0, 0), (.getfield 9, 0, 0, 4), (.iload_n 1, 1, 0, 0), (.invokestatic 498, 0, 0, 7), (.ireturn, 0, 0, 3)]
def bk_146_0 : List mIns := [(.getstatic 38, 0, 0, 0), (.ifCond .eq 10, 13, 0, 0), (.aload_n 0, 0, 0, 0), (.getfield 15, 0, 0, 5), (.goto 4, 14, 0, 0)]
def bk_146_13 : List mIns := [(.iconst 1, 0, 0, 1), (.nop, 14, 0, 0)]
def bk_146_14 : List mIns := [(.ireturn, 0, 0, 2)]
def bk_147_0 : List mIns := [(.getstatic 38, 0, 0, 0), (.ifCond .eq 14, 17, 0, 0), (.aload_n 0, 0, 0, 0), (.getfield 15, 0, 0, 5), (.ifCond .ne 7, 17, 0, 0), (.iconst 1, 0, 0, 1), (.goto 4, 18, 0, 0)]
def bk_147_17 : List mIns := [(.iconst 0, 0, 0, 0), (.nop, 18, 0, 0)]
def bk_147_18 : List mIns := [(.ireturn, 0, 0, 1)]
def bk_148_0 : List mIns := [(.iload_n 0, 0, 0, 0), (.iload_n 1, 1, 0, 0), (.getstatic 1053, 0, 0, 1), (.invokestatic 1059, 150, 3, 0), (.pop, 0, 0, 0), (.return_, 0, 0, 0)]
def bk_149_0 : List mIns := [(.iload_n 1, 1, 0, 0), (.aload_n 0, 0, 0, 0), (.arraylength, 0, 0, 2), (.invokestatic 9, 148, 2, 0), (.aload_n 0, 0, 0, 0), (.iload_n 1, 1, 0, 0), (.baload, 0, 0, 0), (.sipush 255, 0, 0, 255), (.iand, 0, 0, 0), (.i2c, 0, 0, 0), (.ireturn, 0, 0, 3)]
def bk_150_0 : List mIns := [(.iload_n 0, 0, 0, 0), (.ifCond .lt 8, 9, 0, 0), (.iload_n 0, 0, 0, 0), (.iload_n 1, 1, 0, 0), (.if_icmp .lt 10, 16, 0, 0), (.nop, 9, 0, 0)]
def bk_150_9 : List mIns := [(.aload_n 2, 2, 0, 0), (.iload_n 0, 0, 0, 0), (.iload_n 1, 1, 0, 0), (.invokestatic 95, 0, 0, 7), (.athrow, 0, 0, 0)]
def bk_150_16 : List mIns := [(.iload_n 0, 0, 0, 0), (.ireturn, 0, 0, 0)]
def bk_151_0 : List mIns := [(.new 7, 7, 9, 0), (.dup, 0, 0, 0), (.invokespecial 9, 58, 1, 1), (.astore_n 1, 1, 0, 0), (.new 10, 8, 15, 0), (.dup, 0, 0, 0), (.invokespecial 12, 88, 1, 1), (.astore_n 2, 2, 0, 0), (.iconst 0, 0, 0, 0), (.istore_n 3, 3, 0, 0), (.nop, 18, 0, 0)]
def bk_151_18 : List mIns := [(.iload_n 3, 3, 0, 0), (.aload_n 0, 0, 0, 0), (.arraylength, 0, 0, 1), (.iconst 5, 0, 0, 5), (.isub, 0, 0, 0), (.if_icmp .gt 757, 780, 0, 0), (.aload_n 0, 0, 0, 0), (.iload_n 3, 3, 0, 0), (.iaload, 0, 0, 1), (.bipush 31, 0, 0, 31), (.iand, 0, 0, 0), (.tableswitch 742 0 21 #[104, 127, 150, 193, 226, 259, 282, 315, 340, 353, 366, 379, 392, 405, 438, 481, 524, 567, 590, 643, 686, 719], 32, 104, 0)]
def bk_151_136 : List mIns := [(.aload_n 1, 1, 0, 0), (.aload_n 0, 0, 0, 0), (.iload_n 3, 3, 0, 0), (.iconst 1, 0, 0, 1), (.iadd, 0, 0, 0), (.iaload, 0, 0, 1), (.invokevirtual 13, 59, 2, 0), (.aload_n 2, 2, 0, 0), (.aload_n 0, 0, 0, 0), (.iload_n 3, 3, 0, 0), (.iconst 1, 0, 0, 1), (.iadd, 0, 0, 0), (.iaload, 0, 0, 1), (.invokevirtual 17, 97, 2, 0), (.if_icmp .eq 620, 774, 0, 0), (.iconst 0, 0, 0, 0), (.ireturn, 0, 0, 1)]
def bk_151_159 : List mIns := [(.aload_n 1, 1, 0, 0), (.aload_n 0, 0, 0, 0), (.iload_n 3, 3, 0, 0), (.iconst 1, 0, 0, 1), (.iadd, 0, 0, 0), (.iaload, 0, 0, 1), (.invokevirtual 18, 60, 2, 0), (.aload_n 2, 2, 0, 0), (.aload_n 0, 0, 0, 0), (.iload_n 3, 3, 0, 0), (.iconst 1, 0, 0, 1), (.iadd, 0, 0, 0), (.iaload, 0, 0, 1), (.invokevirtual 21, 98, 2, 0), (.if_icmp .eq 597, 774, 0, 0), (.iconst 0, 0, 0, 0), (.ireturn, 0, 0, 1)]
def bk_151_182 : List mIns := [(.aload_n 1, 1, 0, 0), (.aload_n 0, 0, 0, 0), (.iload_n 3, 3, 0, 0), (.iconst 1, 0, 0, 1), (.iadd, 0, 0, 0), (.iaload, 0, 0, 1), (.aload_n 0, 0, 0, 0), (.iload_n 3, 3, 0, 0), (.iconst 2, 0, 0, 2), (.iadd, 0, 0, 0), (.iaload, 0, 0, 1), (.aload_n 0, 0, 0, 0), (.iload_n 3, 3, 0, 0), (.iconst 3, 0, 0, 3), (.iadd, 0, 0, 0), (.iaload, 0, 0, 1), (.invokevirtual 22, 61, 4, 0), (.aload_n 2, 2, 0, 0), (.aload_n 0, 0, 0, 0), (.iload_n 3, 3, 0, 0), (.iconst 1, 0, 0, 1), (.iadd, 0, 0, 0), (.iaload, 0, 0, 1), (.aload_n 0, 0, 0, 0), (.iload_n 3, 3, 0, 0), (.iconst 2, 0, 0, 2), (.iadd, 0, 0, 0), (.iaload, 0, 0, 1), (.aload_n 0, 0, 0, 0), (.iload_n 3, 3, 0, 0), (.iconst 3, 0, 0, 3), (.iadd, 0, 0, 0), (.iaload, 0, 0, 1), (.invokevirtual 26, 103, 4, 0), (.if_icmp .eq 554, 774, 0, 0), (.iconst 0, 0, 0, 0), (.ireturn, 0, 0, 1)]
def bk_151_225 : List mIns := [(.aload_n 1, 1, 0, 0), (.aload_n 0, 0, 0, 0), (.iload_n 3, 3, 0, 0), (.iconst 1, 0, 0, 1), (.iadd, 0, 0, 0), (.iaload, 0, 0, 1), (.aload_n 0, 0, 0, 0), (.iload_n 3, 3, 0, 0), (.iconst 2, 0, 0, 2), (.iadd, 0, 0, 0), (.iaload, 0, 0, 1), (.invokevirtual 27, 62, 3, 0), (.aload_n 2, 2, 0, 0), (.aload_n 0, 0, 0, 0), (.iload_n 3, 3, 0, 0), (.iconst 1, 0, 0, 1), (.iadd, 0, 0, 0), (.iaload, 0, 0, 1), (.aload_n 0, 0, 0, 0), (.iload_n 3, 3, 0, 0), (.iconst 2, 0, 0, 2), (.iadd, 0, 0, 0), (.iaload, 0, 0, 1), (.invokevirtual 31, 104, 3, 0), (.if_icmp .eq 521, 774, 0, 0), (.iconst 0, 0, 0, 0), (.ireturn, 0, 0, 1)]
def bk_151_258 : List mIns := [(.aload_n 1, 1, 0, 0), (.aload_n 0, 0, 0, 0), (.iload_n 3, 3, 0, 0), (.iconst 1, 0, 0, 1), (.iadd, 0, 0, 0), (.iaload, 0, 0, 1), (.aload_n 0, 0, 0, 0), (.iload_n 3, 3, 0, 0), (.iconst 2, 0, 0, 2), (.iadd, 0, 0, 0), (.iaload, 0, 0, 1), (.invokevirtual 32, 63, 3, 0), (.aload_n 2, 2, 0, 0), (.aload_n 0, 0, 0, 0), (.iload_n 3, 3, 0, 0), (.iconst 1, 0, 0, 1), (.iadd, 0, 0, 0), (.iaload, 0, 0, 1), (.aload_n 0, 0, 0, 0), (.iload_n 3, 3, 0, 0), (.iconst 2, 0, 0, 2), (.iadd, 0, 0, 0), (.iaload, 0, 0, 1), (.invokevirtual 35, 105, 3, 0), (.if_icmp .eq 488, 774, 0, 0), (.iconst 0, 0, 0, 0), (.ireturn, 0, 0, 1)]
def bk_151_291 : List mIns := [(.aload_n 1, 1, 0, 0), (.aload_n 0, 0, 0, 0), (.iload_n 3, 3, 0, 0), (.iconst 1, 0, 0, 1), (.iadd, 0, 0, 0), (.iaload, 0, 0, 1), (.invokevirtual 36, 64, 2, 0), (.aload_n 2, 2, 0, 0), (.aload_n 0, 0, 0, 0), (.iload_n 3, 3, 0, 0), (.iconst 1, 0, 0, 1), (.iadd, 0, 0, 0), (.iaload, 0, 0, 1), (.invokevirtual 39, 106, 2, 0), (.if_icmp .eq 465, 774, 0, 0), (.iconst 0, 0, 0, 0), (.ireturn, 0, 0, 1)]
def bk_151_314 : List mIns := [(.aload_n 1, 1, 0, 0), (.aload_n 0, 0, 0, 0), (.iload_n 3, 3, 0, 0), (.iconst 1, 0, 0, 1), (.iadd, 0, 0, 0), (.iaload, 0, 0, 1), (.aload_n 0, 0, 0, 0), (.iload_n 3, 3, 0, 0), (.iconst 2, 0, 0, 2), (.iadd, 0, 0, 0), (.iaload, 0, 0, 1), (.invokevirtual 40, 65, 3, 0), (.aload_n 2, 2, 0, 0), (.aload_n 0, 0, 0, 0), (.iload_n 3, 3, 0, 0), (.iconst 1, 0, 0, 1), (.iadd, 0, 0, 0), (.iaload, 0, 0, 1), (.aload_n 0, 0, 0, 0), (.iload_n 3, 3, 0, 0), (.iconst 2, 0, 0, 2), (.iadd, 0, 0, 0), (.iaload, 0, 0, 1), (.invokevirtual 43, 112, 3, 0), (.if_icmp .eq 432, 774, 0, 0), (.iconst 0, 0, 0, 0), (.ireturn, 0, 0, 1)]
def bk_151_347 : List mIns := [(.aload_n 1, 1, 0, 0), (.aload_n 0, 0, 0, 0), (.iload_n 3, 3, 0, 0), (.iconst 1, 0, 0, 1), (.iadd, 0, 0, 0), (.iaload, 0, 0, 1), (.i2c, 0, 0, 0), (.invokevirtual 44, 66, 2, 0), (.aload_n 2, 2, 0, 0), (.aload_n 0, 0, 0, 0), (.iload_n 3, 3, 0, 0), (.iconst 1, 0, 0, 1), (.iadd, 0, 0, 0), (.iaload, 0, 0, 1), (.i2c, 0, 0, 0), (.invokevirtual 48, 113, 2, 0), (.if_icmp .eq 407, 774, 0, 0), (.iconst 0, 0, 0, 0), (.ireturn, 0, 0, 1)]
def bk_151_372 : List mIns := [(.aload_n 1, 1, 0, 0), (.invokevirtual 49, 67, 1, 0), (.aload_n 2, 2, 0, 0), (.invokevirtual 53, 114, 1, 0), (.if_icmp .eq 394, 774, 0, 0), (.iconst 0, 0, 0, 0), (.ireturn, 0, 0, 1)]
def bk_151_385 : List mIns := [(.aload_n 1, 1, 0, 0), (.invokevirtual 54, 68, 1, 0), (.aload_n 2, 2, 0, 0), (.invokevirtual 57, 122, 1, 0), (.if_icmp .eq 381, 774, 0, 0), (.iconst 0, 0, 0, 0), (.ireturn, 0, 0, 1)]
def bk_151_398 : List mIns := [(.aload_n 1, 1, 0, 0), (.invokevirtual 58, 70, 1, 0), (.aload_n 2, 2, 0, 0), (.invokevirtual 61, 124, 1, 0), (.if_icmp .eq 368, 774, 0, 0), (.iconst 0, 0, 0, 0), (.ireturn, 0, 0, 1)]
def bk_151_411 : List mIns := [(.aload_n 1, 1, 0, 0), (.invokevirtual 62, 71, 1, 0), (.aload_n 2, 2, 0, 0), (.invokevirtual 65, 125, 1, 0), (.if_icmp .eq 355, 774, 0, 0), (.iconst 0, 0, 0, 0), (.ireturn, 0, 0, 1)]
def bk_151_424 : List mIns := [(.aload_n 1, 1, 0, 0), (.invokevirtual 66, 72, 1, 0), (.aload_n 2, 2, 0, 0), (.invokevirtual 69, 126, 1, 0), (.if_icmp .eq 342, 774, 0, 0), (.iconst 0, 0, 0, 0), (.ireturn, 0, 0, 1)]
def bk_151_437 : List mIns := [(.aload_n 1, 1, 0, 0), (.aload_n 0, 0, 0, 0), (.iload_n 3, 3, 0, 0), (.iconst 1, 0, 0, 1), (.iadd, 0, 0, 0), (.iaload, 0, 0, 1), (.aload_n 0, 0, 0, 0), (.iload_n 3, 3, 0, 0), (.iconst 2, 0, 0, 2), (.iadd, 0, 0, 0), (.iaload, 0, 0, 1), (.invokevirtual 70, 73, 3, 0), (.aload_n 2, 2, 0, 0), (.aload_n 0, 0, 0, 0), (.iload_n 3, 3, 0, 0), (.iconst 1, 0, 0, 1), (.iadd, 0, 0, 0), (.iaload, 0, 0, 1), (.aload_n 0, 0, 0, 0), (.iload_n 3, 3, 0, 0), (.iconst 2, 0, 0, 2), (.iadd, 0, 0, 0), (.iaload, 0, 0, 1), (.invokevirtual 73, 130, 3, 0), (.if_icmp .eq 309, 774, 0, 0), (.iconst 0, 0, 0, 0), (.ireturn, 0, 0, 1)]
def bk_151_470 : List mIns := [(.aload_n 1, 1, 0, 0), (.aload_n 0, 0, 0, 0), (.iload_n 3, 3, 0, 0), (.iconst 1, 0, 0, 1), (.iadd, 0, 0, 0), (.iaload, 0, 0, 1), (.aload_n 0, 0, 0, 0), (.iload_n 3, 3, 0, 0), (.iconst 2, 0, 0, 2), (.iadd, 0, 0, 0), (.iaload, 0, 0, 1), (.aload_n 0, 0, 0, 0), (.iload_n 3, 3, 0, 0), (.iconst 3, 0, 0, 3), (.iadd, 0, 0, 0), (.iaload, 0, 0, 1), (.invokevirtual 74, 74, 4, 0), (.aload_n 2, 2, 0, 0), (.aload_n 0, 0, 0, 0), (.iload_n 3, 3, 0, 0), (.iconst 1, 0, 0, 1), (.iadd, 0, 0, 0), (.iaload, 0, 0, 1), (.aload_n 0, 0, 0, 0), (.iload_n 3, 3, 0, 0), (.iconst 2, 0, 0, 2), (.iadd, 0, 0, 0), (.iaload, 0, 0, 1), (.aload_n 0, 0, 0, 0), (.iload_n 3, 3, 0, 0), (.iconst 3, 0, 0, 3), (.iadd, 0, 0, 0), (.iaload, 0, 0, 1), (.invokevirtual 77, 131, 4, 0), (.if_icmp .eq 266, 774, 0, 0), (.iconst 0, 0, 0, 0), (.ireturn, 0, 0, 1)]
def bk_151_513 : List mIns := [(.aload_n 1, 1, 0, 0), (.aload_n 0, 0, 0, 0), (.iload_n 3, 3, 0, 0), (.iconst 1, 0, 0, 1), (.iadd, 0, 0, 0), (.iaload, 0, 0, 1), (.aload_n 0, 0, 0, 0), (.iload_n 3, 3, 0, 0), (.iconst 2, 0, 0, 2), (.iadd, 0, 0, 0), (.iaload, 0, 0, 1), (.aload_n 0, 0, 0, 0), (.iload_n 3, 3, 0, 0), (.iconst 3, 0, 0, 3), (.iadd, 0, 0, 0), (.iaload, 0, 0, 1), (.invokevirtual 78, 75, 4, 0), (.aload_n 2, 2, 0, 0), (.aload_n 0, 0, 0, 0), (.iload_n 3, 3, 0, 0), (.iconst 1, 0, 0, 1), (.iadd, 0, 0, 0), (.iaload, 0, 0, 1), (.aload_n 0, 0, 0, 0), (.iload_n 3, 3, 0, 0), (.iconst 2, 0, 0, 2), (.iadd, 0, 0, 0), (.iaload, 0, 0, 1), (.aload_n 0, 0, 0, 0), (.iload_n 3, 3, 0, 0), (.iconst 3, 0, 0, 3), (.iadd, 0, 0, 0), (.iaload, 0, 0, 1), (.invokevirtual 81, 132, 4, 0), (.if_icmp .eq 223, 774, 0, 0), (.iconst 0, 0, 0, 0), (.ireturn, 0, 0, 1)]
def bk_151_556 : List mIns := [(.aload_n 1, 1, 0, 0), (.aload_n 0, 0, 0, 0), (.iload_n 3, 3, 0, 0), (.iconst 1, 0, 0, 1), (.iadd, 0, 0, 0), (.iaload, 0, 0, 1), (.aload_n 0, 0, 0, 0), (.iload_n 3, 3, 0, 0), (.iconst 2, 0, 0, 2), (.iadd, 0, 0, 0), (.iaload, 0, 0, 1), (.aload_n 0, 0, 0, 0), (.iload_n 3, 3, 0, 0), (.iconst 3, 0, 0, 3), (.iadd, 0, 0, 0), (.iaload, 0, 0, 1), (.invokevirtual 82, 76, 4, 0), (.aload_n 2, 2, 0, 0), (.aload_n 0, 0, 0, 0), (.iload_n 3, 3, 0, 0), (.iconst 1, 0, 0, 1), (.iadd, 0, 0, 0), (.iaload, 0, 0, 1), (.aload_n 0, 0, 0, 0), (.iload_n 3, 3, 0, 0), (.iconst 2, 0, 0, 2), (.iadd, 0, 0, 0), (.iaload, 0, 0, 1), (.aload_n 0, 0, 0, 0), (.iload_n 3, 3, 0, 0), (.iconst 3, 0, 0, 3), (.iadd, 0, 0, 0), (.iaload, 0, 0, 1), (.invokevirtual 85, 133, 4, 0), (.if_icmp .eq 180, 774, 0, 0), (.iconst 0, 0, 0, 0), (.ireturn, 0, 0, 1)]
def bk_151_599 : List mIns := [(.aload_n 1, 1, 0, 0), (.aload_n 0, 0, 0, 0), (.iload_n 3, 3, 0, 0), (.iconst 1, 0, 0, 1), (.iadd, 0, 0, 0), (.iaload, 0, 0, 1), (.invokevirtual 86, 77, 2, 0), (.aload_n 2, 2, 0, 0), (.aload_n 0, 0, 0, 0), (.iload_n 3, 3, 0, 0), (.iconst 1, 0, 0, 1), (.iadd, 0, 0, 0), (.iaload, 0, 0, 1), (.invokevirtual 89, 134, 2, 0), (.if_icmp .eq 157, 774, 0, 0), (.iconst 0, 0, 0, 0), (.ireturn, 0, 0, 1)]
def bk_151_622 : List mIns := [(.aload_n 1, 1, 0, 0), (.aload_n 0, 0, 0, 0), (.iload_n 3, 3, 0, 0), (.iconst 1, 0, 0, 1), (.iadd, 0, 0, 0), (.iaload, 0, 0, 1), (.aload_n 0, 0, 0, 0), (.iload_n 3, 3, 0, 0), (.iconst 2, 0, 0, 2), (.iadd, 0, 0, 0), (.iaload, 0, 0, 1), (.aload_n 0, 0, 0, 0), (.iload_n 3, 3, 0, 0), (.iconst 3, 0, 0, 3), (.iadd, 0, 0, 0), (.iaload, 0, 0, 1), (.aload_n 0, 0, 0, 0), (.iload_n 3, 3, 0, 0), (.iconst 4, 0, 0, 4), (.iadd, 0, 0, 0), (.iaload, 0, 0, 1), (.invokevirtual 90, 78, 5, 0), (.aload_n 2, 2, 0, 0), (.aload_n 0, 0, 0, 0), (.iload_n 3, 3, 0, 0), (.iconst 1, 0, 0, 1), (.iadd, 0, 0, 0), (.iaload, 0, 0, 1), (.aload_n 0, 0, 0, 0), (.iload_n 3, 3, 0, 0), (.iconst 2, 0, 0, 2), (.iadd, 0, 0, 0), (.iaload, 0, 0, 1), (.aload_n 0, 0, 0, 0), (.iload_n 3, 3, 0, 0), (.iconst 3, 0, 0, 3), (.iadd, 0, 0, 0), (.iaload, 0, 0, 1), (.aload_n 0, 0, 0, 0), (.iload_n 3, 3, 0, 0), (.iconst 4, 0, 0, 4), (.iadd, 0, 0, 0), (.iaload, 0, 0, 1), (.invokevirtual 94, 138, 5, 0), (.if_icmp .eq 104, 774, 0, 0), (.iconst 0, 0, 0, 0), (.ireturn, 0, 0, 1)]
def bk_151_675 : List mIns := [(.aload_n 1, 1, 0, 0), (.aload_n 0, 0, 0, 0), (.iload_n 3, 3, 0, 0), (.iconst 1, 0, 0, 1), (.iadd, 0, 0, 0), (.iaload, 0, 0, 1), (.aload_n 0, 0, 0, 0), (.iload_n 3, 3, 0, 0), (.iconst 2, 0, 0, 2), (.iadd, 0, 0, 0), (.iaload, 0, 0, 1), (.aload_n 0, 0, 0, 0), (.iload_n 3, 3, 0, 0), (.iconst 3, 0, 0, 3), (.iadd, 0, 0, 0), (.iaload, 0, 0, 1), (.invokevirtual 95, 79, 4, 0), (.aload_n 2, 2, 0, 0), (.aload_n 0, 0, 0, 0), (.iload_n 3, 3, 0, 0), (.iconst 1, 0, 0, 1), (.iadd, 0, 0, 0), (.iaload, 0, 0, 1), (.aload_n 0, 0, 0, 0), (.iload_n 3, 3, 0, 0), (.iconst 2, 0, 0, 2), (.iadd, 0, 0, 0), (.iaload, 0, 0, 1), (.aload_n 0, 0, 0, 0), (.iload_n 3, 3, 0, 0), (.iconst 3, 0, 0, 3), (.iadd, 0, 0, 0), (.iaload, 0, 0, 1), (.invokevirtual 98, 140, 4, 0), (.if_icmp .eq 61, 774, 0, 0), (.iconst 0, 0, 0, 0), (.ireturn, 0, 0, 1)]
def bk_151_718 : List mIns := [(.aload_n 1, 1, 0, 0), (.aload_n 0, 0, 0, 0), (.iload_n 3, 3, 0, 0), (.iconst 1, 0, 0, 1), (.iadd, 0, 0, 0), (.iaload, 0, 0, 1), (.aload_n 0, 0, 0, 0), (.iload_n 3, 3, 0, 0), (.iconst 2, 0, 0, 2), (.iadd, 0, 0, 0), (.iaload, 0, 0, 1), (.invokevirtual 99, 80, 3, 0), (.aload_n 2, 2, 0, 0), (.aload_n 0, 0, 0, 0), (.iload_n 3, 3, 0, 0), (.iconst 1, 0, 0, 1), (.iadd, 0, 0, 0), (.iaload, 0, 0, 1), (.aload_n 0, 0, 0, 0), (.iload_n 3, 3, 0, 0), (.iconst 2, 0, 0, 2), (.iadd, 0, 0, 0), (.iaload, 0, 0, 1), (.invokevirtual 102, 141, 3, 0), (.if_icmp .eq 28, 774, 0, 0), (.iconst 0, 0, 0, 0), (.ireturn, 0, 0, 1)]
def bk_151_751 : List mIns := [(.aload_n 1, 1, 0, 0), (.aload_n 0, 0, 0, 0), (.iload_n 3, 3, 0, 0), (.iconst 1, 0, 0, 1), (.iadd, 0, 0, 0), (.iaload, 0, 0, 1), (.invokevirtual 103, 81, 2, 0), (.aload_n 2, 2, 0, 0), (.aload_n 0, 0, 0, 0), (.iload_n 3, 3, 0, 0), (.iconst 1, 0, 0, 1), (.iadd, 0, 0, 0), (.iaload, 0, 0, 1), (.invokevirtual 106, 143, 2, 0), (.if_icmp .eq 5, 774, 0, 0), (.iconst 0, 0, 0, 0), (.ireturn, 0, 0, 1)]
def bk_151_774 : List mIns := [(.iinc 3 5, 3, 0, 5), (.goto (-759), 18, 0, 0)]
def bk_151_780 : List mIns := [(.iconst 1, 0, 0, 1), (.ireturn, 0, 0, 1)]
def bl_0 : List (Nat × List mIns) := [(0, bk_0_0)]
def bl_1 : List (Nat × List mIns) := [(0, bk_1_0), (53, bk_1_53), (78, bk_1_78), (95, bk_1_95), (123, bk_1_123)]
def bl_2 : List (Nat × List mIns) := [(0, bk_2_0), (2, bk_2_2), (29, bk_2_29)]
def bl_3 : List (Nat × List mIns) := [(0, bk_3_0), (12, bk_3_12), (24, bk_3_24), (36, bk_3_36), (48, bk_3_48), (60, bk_3_60), (75, bk_3_75), (76, bk_3_76)]
def bl_4 : List (Nat × List mIns) := [(0, bk_4_0), (15, bk_4_15), (43, bk_4_43), (114, bk_4_114)]
def bl_5 : List (Nat × List mIns) := [(0, bk_5_0), (14, bk_5_14), (22, bk_5_22), (62, bk_5_62), (81, bk_5_81)]
def bl_6 : List (Nat × List mIns) := [(0, bk_6_0), (9, bk_6_9), (31, bk_6_31)]
def bl_7 : List (Nat × List mIns) := [(0, bk_7_0), (14, bk_7_14), (15, bk_7_15)]
def bl_8 : List (Nat × List mIns) := [(0, bk_8_0), (19, bk_8_19), (43, bk_8_43)]
def bl_9 : List (Nat × List mIns) := [(0, bk_9_0), (12, bk_9_12)]
def bl_10 : List (Nat × List mIns) := [(0, bk_10_0), (9, bk_10_9), (34, bk_10_34)]
def bl_11 : List (Nat × List mIns) := [(0, bk_11_0), (9, bk_11_9)]
def bl_12 : List (Nat × List mIns) := [(0, bk_12_0)]
def bl_13 : List (Nat × List mIns) := [(0, bk_13_0)]
def bl_14 : List (Nat × List mIns) := [(0, bk_14_0), (13, bk_14_13)]
def bl_15 : List (Nat × List mIns) := [(0, bk_15_0)]
def bl_16 : List (Nat × List mIns) := [(0, bk_16_0), (12, bk_16_12), (15, bk_16_15), (35, bk_16_35), (49, bk_16_49), (55, bk_16_55)]
def bl_17 : List (Nat × List mIns) := [(0, bk_17_0)]
def bl_18 : List (Nat × List mIns) := [(0, bk_18_0), (25, bk_18_25), (64, bk_18_64), (99, bk_18_99), (131, bk_18_131)]
def bl_19 : List (Nat × List mIns) := [(0, bk_19_0), (16, bk_19_16)]
def bl_20 : List (Nat × List mIns) := [(0, bk_20_0), (6, bk_20_6), (33, bk_20_33), (34, bk_20_34)]
def bl_21 : List (Nat × List mIns) := [(0, bk_21_0), (6, bk_21_6), (24, bk_21_24), (34, bk_21_34), (47, bk_21_47)]
def bl_22 : List (Nat × List mIns) := [(0, bk_22_0)]
def bl_23 : List (Nat × List mIns) := [(0, bk_23_0), (2, bk_23_2), (30, bk_23_30), (36, bk_23_36)]
def bl_24 : List (Nat × List mIns) := [(0, bk_24_0), (63, bk_24_63), (88, bk_24_88)]
def bl_25 : List (Nat × List mIns) := [(0, bk_25_0), (2, bk_25_2), (29, bk_25_29)]
def bl_26 : List (Nat × List mIns) := [(0, bk_26_0), (4, bk_26_4), (25, bk_26_25), (31, bk_26_31)]
def bl_27 : List (Nat × List mIns) := [(0, bk_27_0), (4, bk_27_4), (28, bk_27_28)]
def bl_28 : List (Nat × List mIns) := [(0, bk_28_0), (2, bk_28_2), (22, bk_28_22), (28, bk_28_28)]
def bl_29 : List (Nat × List mIns) := [(0, bk_29_0), (3, bk_29_3), (93, bk_29_93), (99, bk_29_99)]
def bl_30 : List (Nat × List mIns) := [(0, bk_30_0)]
def bl_31 : List (Nat × List mIns) := [(0, bk_31_0)]
def bl_32 : List (Nat × List mIns) := [(0, bk_32_0), (11, bk_32_11)]
def bl_33 : List (Nat × List mIns) := [(0, bk_33_0), (12, bk_33_12), (14, bk_33_14)]
def bl_34 : List (Nat × List mIns) := [(0, bk_34_0), (10, bk_34_10), (12, bk_34_12), (32, bk_34_32), (38, bk_34_38)]
def bl_35 : List (Nat × List mIns) := [(0, bk_35_0)]
def bl_36 : List (Nat × List mIns) := [(0, bk_36_0)]
def bl_37 : List (Nat × List mIns) := [(0, bk_37_0), (9, bk_37_9), (25, bk_37_25), (31, bk_37_31)]
def bl_38 : List (Nat × List mIns) := [(0, bk_38_0), (16, bk_38_16), (17, bk_38_17)]
def bl_39 : List (Nat × List mIns) := [(0, bk_39_0), (16, bk_39_16), (17, bk_39_17)]
def bl_40 : List (Nat × List mIns) := [(0, bk_40_0), (19, bk_40_19), (23, bk_40_23), (24, bk_40_24)]
def bl_41 : List (Nat × List mIns) := [(0, bk_41_0)]
def bl_42 : List (Nat × List mIns) := [(0, bk_42_0)]
def bl_43 : List (Nat × List mIns) := [(0, bk_43_0), (32, bk_43_32)]
def bl_44 : List (Nat × List mIns) := [(0, bk_44_0)]
def bl_45 : List (Nat × List mIns) := [(0, bk_45_0), (10, bk_45_10), (11, bk_45_11)]
def bl_46 : List (Nat × List mIns) := [(0, bk_46_0)]
def bl_47 : List (Nat × List mIns) := [(0, bk_47_0)]
def bl_48 : List (Nat × List mIns) := [(0, bk_48_0)]
def bl_49 : List (Nat × List mIns) := [(0, bk_49_0), (18, bk_49_18), (49, bk_49_49)]
def bl_50 : List (Nat × List mIns) := [(0, bk_50_0), (11, bk_50_11), (52, bk_50_52), (63, bk_50_63)]
def bl_51 : List (Nat × List mIns) := [(0, bk_51_0), (12, bk_51_12), (82, bk_51_82), (88, bk_51_88)]
def bl_52 : List (Nat × List mIns) := [(0, bk_52_0), (9, bk_52_9)]
def bl_53 : List (Nat × List mIns) := [(0, bk_53_0)]
def bl_54 : List (Nat × List mIns) := [(0, bk_54_0)]
def bl_55 : List (Nat × List mIns) := [(0, bk_55_0), (10, bk_55_10), (36, bk_55_36)]
def bl_56 : List (Nat × List mIns) := [(0, bk_56_0), (9, bk_56_9), (29, bk_56_29), (35, bk_56_35)]
def bl_57 : List (Nat × List mIns) := [(0, bk_57_0), (17, bk_57_17), (19, bk_57_19)]
def bl_58 : List (Nat × List mIns) := [(0, bk_58_0)]
def bl_59 : List (Nat × List mIns) := [(0, bk_59_0), (9, bk_59_9), (12, bk_59_12), (28, bk_59_28)]
def bl_60 : List (Nat × List mIns) := [(0, bk_60_0), (13, bk_60_13), (16, bk_60_16), (32, bk_60_32)]
def bl_61 : List (Nat × List mIns) := [(0, bk_61_0), (9, bk_61_9), (27, bk_61_27), (30, bk_61_30), (48, bk_61_48)]
def bl_62 : List (Nat × List mIns) := [(0, bk_62_0), (23, bk_62_23), (25, bk_62_25), (43, bk_62_43)]
def bl_63 : List (Nat × List mIns) := [(0, bk_63_0), (14, bk_63_14), (16, bk_63_16), (24, bk_63_24), (60, bk_63_60), (63, bk_63_63), (81, bk_63_81)]
def bl_64 : List (Nat × List mIns) := [(0, bk_64_0), (9, bk_64_9), (29, bk_64_29), (39, bk_64_39)]
def bl_65 : List (Nat × List mIns) := [(0, bk_65_0), (9, bk_65_9), (19, bk_65_19), (40, bk_65_40), (62, bk_65_62)]
def bl_66 : List (Nat × List mIns) := [(0, bk_66_0), (14, bk_66_14)]
def bl_67 : List (Nat × List mIns) := [(0, bk_67_0)]
def bl_68 : List (Nat × List mIns) := [(0, bk_68_0), (33, bk_68_33), (76, bk_68_76), (102, bk_68_102), (122, bk_68_122), (141, bk_68_141), (160, bk_68_160), (172, bk_68_172)]
def bl_69 : List (Nat × List mIns) := [(0, bk_69_0), (9, bk_69_9), (31, bk_69_31), (42, bk_69_42), (61, bk_69_61), (90, bk_69_90)]
def bl_70 : List (Nat × List mIns) := [(0, bk_70_0), (17, bk_70_17)]
def bl_71 : List (Nat × List mIns) := [(0, bk_71_0)]
def bl_72 : List (Nat × List mIns) := [(0, bk_72_0), (10, bk_72_10)]
def bl_73 : List (Nat × List mIns) := [(0, bk_73_0), (9, bk_73_9), (19, bk_73_19), (22, bk_73_22), (42, bk_73_42), (80, bk_73_80), (85, bk_73_85), (96, bk_73_96), (97, bk_73_97), (98, bk_73_98), (103, bk_73_103), (108, bk_73_108), (113, bk_73_113), (118, bk_73_118)]
def bl_74 : List (Nat × List mIns) := [(0, bk_74_0), (23, bk_74_23), (25, bk_74_25), (68, bk_74_68), (76, bk_74_76), (84, bk_74_84), (100, bk_74_100), (110, bk_74_110), (111, bk_74_111), (130, bk_74_130)]
def bl_75 : List (Nat × List mIns) := [(0, bk_75_0), (23, bk_75_23), (25, bk_75_25), (35, bk_75_35), (58, bk_75_58), (90, bk_75_90), (95, bk_75_95)]
def bl_76 : List (Nat × List mIns) := [(0, bk_76_0), (9, bk_76_9), (25, bk_76_25), (28, bk_76_28), (51, bk_76_51), (73, bk_76_73), (86, bk_76_86), (102, bk_76_102), (109, bk_76_109)]
def bl_77 : List (Nat × List mIns) := [(0, bk_77_0), (9, bk_77_9), (29, bk_77_29), (38, bk_77_38), (87, bk_77_87), (93, bk_77_93)]
def bl_78 : List (Nat × List mIns) := [(0, bk_78_0), (9, bk_78_9), (35, bk_78_35), (38, bk_78_38), (60, bk_78_60), (75, bk_78_75), (129, bk_78_129), (135, bk_78_135)]
def bl_79 : List (Nat × List mIns) := [(0, bk_79_0), (9, bk_79_9), (23, bk_79_23), (26, bk_79_26), (48, bk_79_48), (70, bk_79_70), (106, bk_79_106), (140, bk_79_140), (146, bk_79_146)]
def bl_80 : List (Nat × List mIns) := [(0, bk_80_0), (13, bk_80_13), (16, bk_80_16)]
def bl_81 : List (Nat × List mIns) := [(0, bk_81_0), (60, bk_81_60), (68, bk_81_68), (76, bk_81_76), (84, bk_81_84), (92, bk_81_92), (100, bk_81_100), (108, bk_81_108), (116, bk_81_116), (124, bk_81_124), (132, bk_81_132), (140, bk_81_140), (148, bk_81_148)]
def bl_82 : List (Nat × List mIns) := [(0, bk_82_0), (14, bk_82_14), (15, bk_82_15)]
def bl_83 : List (Nat × List mIns) := [(0, bk_83_0), (14, bk_83_14), (15, bk_83_15)]
def bl_84 : List (Nat × List mIns) := [(0, bk_84_0), (13, bk_84_13), (14, bk_84_14)]
def bl_85 : List (Nat × List mIns) := [(0, bk_85_0), (9, bk_85_9), (13, bk_85_13), (14, bk_85_14)]
def bl_86 : List (Nat × List mIns) := [(0, bk_86_0)]
def bl_87 : List (Nat × List mIns) := [(0, bk_87_0), (15, bk_87_15), (34, bk_87_34)]
def bl_88 : List (Nat × List mIns) := [(0, bk_88_0)]
def bl_89 : List (Nat × List mIns) := [(0, bk_89_0), (14, bk_89_14), (15, bk_89_15)]
def bl_90 : List (Nat × List mIns) := [(0, bk_90_0), (13, bk_90_13), (14, bk_90_14)]
def bl_91 : List (Nat × List mIns) := [(0, bk_91_0)]
def bl_92 : List (Nat × List mIns) := [(0, bk_92_0)]
def bl_93 : List (Nat × List mIns) := [(0, bk_93_0), (13, bk_93_13), (14, bk_93_14)]
def bl_94 : List (Nat × List mIns) := [(0, bk_94_0)]
def bl_95 : List (Nat × List mIns) := [(0, bk_95_0), (10, bk_95_10), (39, bk_95_39), (49, bk_95_49), (51, bk_95_51), (85, bk_95_85)]
def bl_96 : List (Nat × List mIns) := [(0, bk_96_0), (16, bk_96_16), (53, bk_96_53), (65, bk_96_65)]
def bl_97 : List (Nat × List mIns) := [(0, bk_97_0), (12, bk_97_12), (29, bk_97_29)]
def bl_98 : List (Nat × List mIns) := [(0, bk_98_0), (15, bk_98_15), (32, bk_98_32)]
def bl_99 : List (Nat × List mIns) := [(0, bk_99_0)]
def bl_100 : List (Nat × List mIns) := [(0, bk_100_0)]
def bl_101 : List (Nat × List mIns) := [(0, bk_101_0), (17, bk_101_17), (33, bk_101_33), (42, bk_101_42)]
def bl_102 : List (Nat × List mIns) := [(0, bk_102_0), (12, bk_102_12), (97, bk_102_97), (103, bk_102_103), (159, bk_102_159), (168, bk_102_168), (172, bk_102_172), (217, bk_102_217), (226, bk_102_226), (250, bk_102_250), (251, bk_102_251), (284, bk_102_284), (286, bk_102_286)]
def bl_103 : List (Nat × List mIns) := [(0, bk_103_0), (9, bk_103_9), (29, bk_103_29), (32, bk_103_32), (43, bk_103_43), (58, bk_103_58), (83, bk_103_83)]
def bl_104 : List (Nat × List mIns) := [(0, bk_104_0), (31, bk_104_31), (33, bk_104_33), (35, bk_104_35), (55, bk_104_55), (64, bk_104_64), (81, bk_104_81), (117, bk_104_117), (120, bk_104_120), (155, bk_104_155)]
def bl_105 : List (Nat × List mIns) := [(0, bk_105_0), (14, bk_105_14), (16, bk_105_16), (24, bk_105_24), (40, bk_105_40), (43, bk_105_43), (70, bk_105_70), (77, bk_105_77), (113, bk_105_113), (116, bk_105_116), (151, bk_105_151)]
def bl_106 : List (Nat × List mIns) := [(0, bk_106_0), (9, bk_106_9), (20, bk_106_20), (33, bk_106_33)]
def bl_107 : List (Nat × List mIns) := [(0, bk_107_0), (27, bk_107_27), (29, bk_107_29)]
def bl_108 : List (Nat × List mIns) := [(0, bk_108_0), (21, bk_108_21), (69, bk_108_69), (117, bk_108_117), (123, bk_108_123)]
def bl_109 : List (Nat × List mIns) := [(0, bk_109_0), (18, bk_109_18), (19, bk_109_19)]
def bl_110 : List (Nat × List mIns) := [(0, bk_110_0), (12, bk_110_12), (46, bk_110_46), (63, bk_110_63), (64, bk_110_64), (84, bk_110_84), (85, bk_110_85), (100, bk_110_100), (102, bk_110_102), (104, bk_110_104), (110, bk_110_110), (118, bk_110_118), (128, bk_110_128), (130, bk_110_130)]
def bl_111 : List (Nat × List mIns) := [(0, bk_111_0)]
def bl_112 : List (Nat × List mIns) := [(0, bk_112_0), (9, bk_112_9), (21, bk_112_21), (38, bk_112_38), (41, bk_112_41), (59, bk_112_59), (82, bk_112_82), (123, bk_112_123), (149, bk_112_149)]
def bl_113 : List (Nat × List mIns) := [(0, bk_113_0), (12, bk_113_12)]
def bl_114 : List (Nat × List mIns) := [(0, bk_114_0)]
def bl_115 : List (Nat × List mIns) := [(0, bk_115_0), (9, bk_115_9), (10, bk_115_10), (51, bk_115_51), (53, bk_115_53), (80, bk_115_80), (84, bk_115_84), (85, bk_115_85)]
def bl_116 : List (Nat × List mIns) := [(0, bk_116_0), (76, bk_116_76), (77, bk_116_77)]
def bl_117 : List (Nat × List mIns) := [(0, bk_117_0), (5, bk_117_5), (48, bk_117_48), (65, bk_117_65), (84, bk_117_84), (103, bk_117_103), (122, bk_117_122), (145, bk_117_145), (168, bk_117_168), (170, bk_117_170)]
def bl_118 : List (Nat × List mIns) := [(0, bk_118_0), (25, bk_118_25), (27, bk_118_27)]
def bl_119 : List (Nat × List mIns) := [(0, bk_119_0), (30, bk_119_30), (32, bk_119_32), (129, bk_119_129)]
def bl_120 : List (Nat × List mIns) := [(0, bk_120_0), (24, bk_120_24), (38, bk_120_38), (40, bk_120_40), (71, bk_120_71), (72, bk_120_72), (73, bk_120_73), (82, bk_120_82), (106, bk_120_106), (129, bk_120_129), (130, bk_120_130), (131, bk_120_131), (174, bk_120_174), (200, bk_120_200), (201, bk_120_201)]
def bl_121 : List (Nat × List mIns) := [(0, bk_121_0), (12, bk_121_12), (26, bk_121_26), (45, bk_121_45), (63, bk_121_63), (122, bk_121_122)]
def bl_122 : List (Nat × List mIns) := [(0, bk_122_0), (15, bk_122_15), (52, bk_122_52), (57, bk_122_57), (71, bk_122_71), (84, bk_122_84), (97, bk_122_97), (106, bk_122_106)]
def bl_123 : List (Nat × List mIns) := [(0, bk_123_0), (4, bk_123_4), (23, bk_123_23), (24, bk_123_24), (32, bk_123_32)]
def bl_124 : List (Nat × List mIns) := [(0, bk_124_0), (10, bk_124_10), (22, bk_124_22), (56, bk_124_56)]
def bl_125 : List (Nat × List mIns) := [(0, bk_125_0), (2, bk_125_2), (27, bk_125_27)]
def bl_126 : List (Nat × List mIns) := [(0, bk_126_0), (10, bk_126_10), (16, bk_126_16), (41, bk_126_41)]
def bl_127 : List (Nat × List mIns) := [(0, bk_127_0)]
def bl_128 : List (Nat × List mIns) := [(0, bk_128_0), (4, bk_128_4), (32, bk_128_32), (33, bk_128_33), (40, bk_128_40)]
def bl_129 : List (Nat × List mIns) := [(0, bk_129_0), (5, bk_129_5), (33, bk_129_33)]
def bl_130 : List (Nat × List mIns) := [(0, bk_130_0), (9, bk_130_9), (22, bk_130_22), (33, bk_130_33), (72, bk_130_72), (79, bk_130_79), (86, bk_130_86), (93, bk_130_93), (101, bk_130_101), (108, bk_130_108), (114, bk_130_114)]
def bl_131 : List (Nat × List mIns) := [(0, bk_131_0), (30, bk_131_30), (32, bk_131_32), (64, bk_131_64), (73, bk_131_73), (83, bk_131_83), (114, bk_131_114), (116, bk_131_116), (117, bk_131_117), (126, bk_131_126)]
def bl_132 : List (Nat × List mIns) := [(0, bk_132_0), (31, bk_132_31), (33, bk_132_33), (45, bk_132_45), (57, bk_132_57), (79, bk_132_79), (88, bk_132_88)]
def bl_133 : List (Nat × List mIns) := [(0, bk_133_0), (9, bk_133_9), (27, bk_133_27), (30, bk_133_30), (47, bk_133_47), (50, bk_133_50)]
def bl_134 : List (Nat × List mIns) := [(0, bk_134_0), (9, bk_134_9), (20, bk_134_20), (32, bk_134_32), (66, bk_134_66), (72, bk_134_72)]
def bl_135 : List (Nat × List mIns) := [(0, bk_135_0), (2, bk_135_2), (27, bk_135_27)]
def bl_136 : List (Nat × List mIns) := [(0, bk_136_0), (2, bk_136_2), (27, bk_136_27)]
def bl_137 : List (Nat × List mIns) := [(0, bk_137_0), (9, bk_137_9), (39, bk_137_39), (42, bk_137_42), (55, bk_137_55), (56, bk_137_56)]
def bl_138 : List (Nat × List mIns) := [(0, bk_138_0), (19, bk_138_19), (37, bk_138_37), (63, bk_138_63)]
def bl_139 : List (Nat × List mIns) := [(0, bk_139_0), (8, bk_139_8), (35, bk_139_35), (41, bk_139_41)]
def bl_140 : List (Nat × List mIns) := [(0, bk_140_0), (18, bk_140_18), (27, bk_140_27), (54, bk_140_54), (61, bk_140_61), (92, bk_140_92)]
def bl_141 : List (Nat × List mIns) := [(0, bk_141_0), (13, bk_141_13), (16, bk_141_16), (56, bk_141_56), (58, bk_141_58)]
def bl_142 : List (Nat × List mIns) := [(0, bk_142_0), (4, bk_142_4), (23, bk_142_23), (29, bk_142_29), (37, bk_142_37)]
def bl_143 : List (Nat × List mIns) := [(0, bk_143_0), (60, bk_143_60), (65, bk_143_65), (70, bk_143_70), (79, bk_143_79), (88, bk_143_88), (97, bk_143_97), (106, bk_143_106), (115, bk_143_115), (124, bk_143_124), (133, bk_143_133), (138, bk_143_138), (143, bk_143_143)]
def bl_144 : List (Nat × List mIns) := [(0, bk_144_0)]
def bl_145 : List (Nat × List mIns) := [(0, bk_145_0), (16, bk_145_16)]
def bl_146 : List (Nat × List mIns) := [(0, bk_146_0), (13, bk_146_13), (14, bk_146_14)]
def bl_147 : List (Nat × List mIns) := [(0, bk_147_0), (17, bk_147_17), (18, bk_147_18)]
def bl_148 : List (Nat × List mIns) := [(0, bk_148_0)]
def bl_149 : List (Nat × List mIns) := [(0, bk_149_0)]
def bl_150 : List (Nat × List mIns) := [(0, bk_150_0), (9, bk_150_9), (16, bk_150_16)]
def bl_151 : List (Nat × List mIns) := [(0, bk_151_0), (18, bk_151_18), (136, bk_151_136), (159, bk_151_159), (182, bk_151_182), (225, bk_151_225), (258, bk_151_258), (291, bk_151_291), (314, bk_151_314), (347, bk_151_347), (372, bk_151_372), (385, bk_151_385), (398, bk_151_398), (411, bk_151_411), (424, bk_151_424), (437, bk_151_437), (470, bk_151_470), (513, bk_151_513), (556, bk_151_556), (599, bk_151_599), (622, bk_151_622), (675, bk_151_675), (718, bk_151_718), (751, bk_151_751), (774, bk_151_774), (780, bk_151_780)]
def mBL : List (List (Nat × List mIns)) := [bl_0, bl_1, bl_2, bl_3, bl_4, bl_5, bl_6, bl_7, bl_8, bl_9, bl_10, bl_11, bl_12, bl_13, bl_14, bl_15, bl_16, bl_17, bl_18, bl_19, bl_20, bl_21, bl_22, bl_23, bl_24, bl_25, bl_26, bl_27, bl_28, bl_29, bl_30, bl_31, bl_32, bl_33, bl_34, bl_35, bl_36, bl_37, bl_38, bl_39, bl_40, bl_41, bl_42, bl_43, bl_44, bl_45, bl_46, bl_47, bl_48, bl_49, bl_50, bl_51, bl_52, bl_53, bl_54, bl_55, bl_56, bl_57, bl_58, bl_59, bl_60, bl_61, bl_62, bl_63, bl_64, bl_65, bl_66, bl_67, bl_68, bl_69, bl_70, bl_71, bl_72, bl_73, bl_74, bl_75, bl_76, bl_77, bl_78, bl_79, bl_80, bl_81, bl_82, bl_83, bl_84, bl_85, bl_86, bl_87, bl_88, bl_89, bl_90, bl_91, bl_92, bl_93, bl_94, bl_95, bl_96, bl_97, bl_98, bl_99, bl_100, bl_101, bl_102, bl_103, bl_104, bl_105, bl_106, bl_107, bl_108, bl_109, bl_110, bl_111, bl_112, bl_113, bl_114, bl_115, bl_116, bl_117, bl_118, bl_119, bl_120, bl_121, bl_122, bl_123, bl_124, bl_125, bl_126, bl_127, bl_128, bl_129, bl_130, bl_131, bl_132, bl_133, bl_134, bl_135, bl_136, bl_137, bl_138, bl_139, bl_140, bl_141, bl_142, bl_143, bl_144, bl_145, bl_146, bl_147, bl_148, bl_149, bl_150, bl_151]
def mNL : List Nat := [1, 2, 2, 2, 3, 2, 2, 3, 2, 2, 3, 2, 1, 2, 4, 1, 4, 1, 7, 4, 3, 4, 1, 4, 2, 3, 3, 3, 2, 6, 6, 1, 2, 2, 4, 1, 2, 1, 2, 2, 2, 1, 1, 2, 1, 4, 4, 3, 2, 6, 3, 7, 2, 1, 1, 5, 4, 2, 1, 3, 3, 4, 4, 5, 3, 4, 2, 2, 1, 6, 1, 1, 1, 4, 5, 6, 5, 6, 9, 6, 3, 2, 1, 1, 1, 1, 1, 4, 1, 3, 1, 3, 4, 2, 2, 2, 5, 3, 3, 4, 5, 5, 7, 6, 6, 6, 2, 3, 9, 3, 7, 3, 5, 2, 2, 7, 7, 1, 1, 1, 1, 4, 1, 3, 2, 2, 2, 3, 4, 5, 3, 4, 4, 4, 6, 2, 2, 5, 9, 4, 6, 3, 3, 2, 1, 2, 1, 1, 2, 2, 3, 4]
def mRL : List Nat := [0, 0, 0, 0, 0, 0, 0, 0, 1, 1, 1, 1, 2, 2, 2, 2, 2, 3, 3, 3, 3, 3, 3, 3, 4, 4, 4, 4, 4, 4, 4, 5, 5, 5, 5, 6, 6, 6, 6, 6, 6, 6, 6, 6, 6, 6, 6, 6, 6, 6, 6, 6, 6, 6, 6, 6, 6, 6, 7, 7, 7, 7, 7, 7, 7, 7, 7, 7, 7, 7, 7, 7, 7, 7, 7, 7, 7, 7, 7, 7, 7, 7, 7, 7, 7, 7, 7, 7, 8, 8, 8, 8, 8, 8, 8, 8, 8, 8, 8, 8, 8, 8, 8, 8, 8, 8, 8, 8, 8, 8, 8, 8, 8, 8, 8, 8, 8, 8, 8, 8, 8, 8, 8, 8, 8, 8, 8, 8, 8, 8, 8, 8, 8, 8, 8, 8, 8, 8, 8, 8, 8, 8, 8, 8, 10, 10, 10, 10, 10, 11, 12, 9]
def mB (y pc : Nat) : List mIns := ((mBL.getD y []).lookup pc).getD []
def mN (y : Nat) : Nat := mNL.getD y 0
def mRc (y : Nat) : Nat := mRL.getD y 0
theorem B_0_0 : mB 0 0 = bk_0_0 := rfl
theorem N_0 : mN 0 = 1 := rfl
theorem C_0 : mRc 0 = 0 := rfl
theorem B_1_0 : mB 1 0 = bk_1_0 := rfl
theorem B_1_53 : mB 1 53 = bk_1_53 := rfl
theorem B_1_78 : mB 1 78 = bk_1_78 := rfl
theorem B_1_95 : mB 1 95 = bk_1_95 := rfl
theorem B_1_123 : mB 1 123 = bk_1_123 := rfl
theorem N_1 : mN 1 = 2 := rfl
theorem C_1 : mRc 1 = 0 := rfl
theorem B_2_0 : mB 2 0 = bk_2_0 := rfl
theorem B_2_2 : mB 2 2 = bk_2_2 := rfl
theorem B_2_29 : mB 2 29 = bk_2_29 := rfl
theorem N_2 : mN 2 = 2 := rfl
theorem C_2 : mRc 2 = 0 := rfl
theorem B_3_0 : mB 3 0 = bk_3_0 := rfl
theorem B_3_12 : mB 3 12 = bk_3_12 := rfl
theorem B_3_24 : mB 3 24 = bk_3_24 := rfl
theorem B_3_36 : mB 3 36 = bk_3_36 := rfl
theorem B_3_48 : mB 3 48 = bk_3_48 := rfl
theorem B_3_60 : mB 3 60 = bk_3_60 := rfl
theorem B_3_75 : mB 3 75 = bk_3_75 := rfl
theorem B_3_76 : mB 3 76 = bk_3_76 := rfl
theorem N_3 : mN 3 = 2 := rfl
theorem C_3 : mRc 3 = 0 := rfl
theorem B_4_0 : mB 4 0 = bk_4_0 := rfl
theorem B_4_15 : mB 4 15 = bk_4_15 := rfl
theorem B_4_43 : mB 4 43 = bk_4_43 := rfl
theorem B_4_114 : mB 4 114 = bk_4_114 := rfl
theorem N_4 : mN 4 = 3 := rfl
theorem C_4 : mRc 4 = 0 := rfl
theorem B_5_0 : mB 5 0 = bk_5_0 := rfl
theorem B_5_14 : mB 5 14 = bk_5_14 := rfl
theorem B_5_22 : mB 5 22 = bk_5_22 := rfl
theorem B_5_62 : mB 5 62 = bk_5_62 := rfl
theorem B_5_81 : mB 5 81 = bk_5_81 := rfl
theorem N_5 : mN 5 = 2 := rfl
theorem C_5 : mRc 5 = 0 := rfl
theorem B_6_0 : mB 6 0 = bk_6_0 := rfl
theorem B_6_9 : mB 6 9 = bk_6_9 := rfl
theorem B_6_31 : mB 6 31 = bk_6_31 := rfl
theorem N_6 : mN 6 = 2 := rfl
theorem C_6 : mRc 6 = 0 := rfl
theorem B_7_0 : mB 7 0 = bk_7_0 := rfl
theorem B_7_14 : mB 7 14 = bk_7_14 := rfl
theorem B_7_15 : mB 7 15 = bk_7_15 := rfl
theorem N_7 : mN 7 = 3 := rfl
theorem C_7 : mRc 7 = 0 := rfl
theorem B_8_0 : mB 8 0 = bk_8_0 := rfl
theorem B_8_19 : mB 8 19 = bk_8_19 := rfl
theorem B_8_43 : mB 8 43 = bk_8_43 := rfl
theorem N_8 : mN 8 = 2 := rfl
theorem C_8 : mRc 8 = 1 := rfl
theorem B_9_0 : mB 9 0 = bk_9_0 := rfl
theorem B_9_12 : mB 9 12 = bk_9_12 := rfl
theorem N_9 : mN 9 = 2 := rfl
theorem C_9 : mRc 9 = 1 := rfl
theorem B_10_0 : mB 10 0 = bk_10_0 := rfl
theorem B_10_9 : mB 10 9 = bk_10_9 := rfl
theorem B_10_34 : mB 10 34 = bk_10_34 := rfl
theorem N_10 : mN 10 = 3 := rfl
theorem C_10 : mRc 10 = 1 := rfl
theorem B_11_0 : mB 11 0 = bk_11_0 := rfl
theorem B_11_9 : mB 11 9 = bk_11_9 := rfl
theorem N_11 : mN 11 = 2 := rfl
theorem C_11 : mRc 11 = 1 := rfl
theorem B_12_0 : mB 12 0 = bk_12_0 := rfl
theorem N_12 : mN 12 = 1 := rfl
theorem C_12 : mRc 12 = 2 := rfl
theorem B_13_0 : mB 13 0 = bk_13_0 := rfl
theorem N_13 : mN 13 = 2 := rfl
theorem C_13 : mRc 13 = 2 := rfl
theorem B_14_0 : mB 14 0 = bk_14_0 := rfl
theorem B_14_13 : mB 14 13 = bk_14_13 := rfl
theorem N_14 : mN 14 = 4 := rfl
theorem C_14 : mRc 14 = 2 := rfl
theorem B_15_0 : mB 15 0 = bk_15_0 := rfl
theorem N_15 : mN 15 = 1 := rfl
theorem C_15 : mRc 15 = 2 := rfl
theorem B_16_0 : mB 16 0 = bk_16_0 := rfl
theorem B_16_12 : mB 16 12 = bk_16_12 := rfl
theorem B_16_15 : mB 16 15 = bk_16_15 := rfl
theorem B_16_35 : mB 16 35 = bk_16_35 := rfl
theorem B_16_49 : mB 16 49 = bk_16_49 := rfl
theorem B_16_55 : mB 16 55 = bk_16_55 := rfl
theorem N_16 : mN 16 = 4 := rfl
theorem C_16 : mRc 16 = 2 := rfl
theorem B_17_0 : mB 17 0 = bk_17_0 := rfl
theorem N_17 : mN 17 = 1 := rfl
theorem C_17 : mRc 17 = 3 := rfl
theorem B_18_0 : mB 18 0 = bk_18_0 := rfl
theorem B_18_25 : mB 18 25 = bk_18_25 := rfl
theorem B_18_64 : mB 18 64 = bk_18_64 := rfl
theorem B_18_99 : mB 18 99 = bk_18_99 := rfl
theorem B_18_131 : mB 18 131 = bk_18_131 := rfl
theorem N_18 : mN 18 = 7 := rfl
theorem C_18 : mRc 18 = 3 := rfl
theorem B_19_0 : mB 19 0 = bk_19_0 := rfl
theorem B_19_16 : mB 19 16 = bk_19_16 := rfl
theorem N_19 : mN 19 = 4 := rfl
theorem C_19 : mRc 19 = 3 := rfl
theorem B_20_0 : mB 20 0 = bk_20_0 := rfl
theorem B_20_6 : mB 20 6 = bk_20_6 := rfl
theorem B_20_33 : mB 20 33 = bk_20_33 := rfl
theorem B_20_34 : mB 20 34 = bk_20_34 := rfl
theorem N_20 : mN 20 = 3 := rfl
theorem C_20 : mRc 20 = 3 := rfl
theorem B_21_0 : mB 21 0 = bk_21_0 := rfl
theorem B_21_6 : mB 21 6 = bk_21_6 := rfl
theorem B_21_24 : mB 21 24 = bk_21_24 := rfl
theorem B_21_34 : mB 21 34 = bk_21_34 := rfl
theorem B_21_47 : mB 21 47 = bk_21_47 := rfl
theorem N_21 : mN 21 = 4 := rfl
theorem C_21 : mRc 21 = 3 := rfl
theorem B_22_0 : mB 22 0 = bk_22_0 := rfl
theorem N_22 : mN 22 = 1 := rfl
theorem C_22 : mRc 22 = 3 := rfl
theorem B_23_0 : mB 23 0 = bk_23_0 := rfl
theorem B_23_2 : mB 23 2 = bk_23_2 := rfl
theorem B_23_30 : mB 23 30 = bk_23_30 := rfl
theorem B_23_36 : mB 23 36 = bk_23_36 := rfl
theorem N_23 : mN 23 = 4 := rfl
theorem C_23 : mRc 23 = 3 := rfl
theorem B_24_0 : mB 24 0 = bk_24_0 := rfl
theorem B_24_63 : mB 24 63 = bk_24_63 := rfl
theorem B_24_88 : mB 24 88 = bk_24_88 := rfl
theorem N_24 : mN 24 = 2 := rfl
theorem C_24 : mRc 24 = 4 := rfl
theorem B_25_0 : mB 25 0 = bk_25_0 := rfl
theorem B_25_2 : mB 25 2 = bk_25_2 := rfl
theorem B_25_29 : mB 25 29 = bk_25_29 := rfl
theorem N_25 : mN 25 = 3 := rfl
theorem C_25 : mRc 25 = 4 := rfl
theorem B_26_0 : mB 26 0 = bk_26_0 := rfl
theorem B_26_4 : mB 26 4 = bk_26_4 := rfl
theorem B_26_25 : mB 26 25 = bk_26_25 := rfl
theorem B_26_31 : mB 26 31 = bk_26_31 := rfl
theorem N_26 : mN 26 = 3 := rfl
theorem C_26 : mRc 26 = 4 := rfl
theorem B_27_0 : mB 27 0 = bk_27_0 := rfl
theorem B_27_4 : mB 27 4 = bk_27_4 := rfl
theorem B_27_28 : mB 27 28 = bk_27_28 := rfl
theorem N_27 : mN 27 = 3 := rfl
theorem C_27 : mRc 27 = 4 := rfl
theorem B_28_0 : mB 28 0 = bk_28_0 := rfl
theorem B_28_2 : mB 28 2 = bk_28_2 := rfl
theorem B_28_22 : mB 28 22 = bk_28_22 := rfl
theorem B_28_28 : mB 28 28 = bk_28_28 := rfl
theorem N_28 : mN 28 = 2 := rfl
theorem C_28 : mRc 28 = 4 := rfl
theorem B_29_0 : mB 29 0 = bk_29_0 := rfl
theorem B_29_3 : mB 29 3 = bk_29_3 := rfl
theorem B_29_93 : mB 29 93 = bk_29_93 := rfl
theorem B_29_99 : mB 29 99 = bk_29_99 := rfl
theorem N_29 : mN 29 = 6 := rfl
theorem C_29 : mRc 29 = 4 := rfl
theorem B_30_0 : mB 30 0 = bk_30_0 := rfl
theorem N_30 : mN 30 = 6 := rfl
theorem C_30 : mRc 30 = 4 := rfl
theorem B_31_0 : mB 31 0 = bk_31_0 := rfl
theorem N_31 : mN 31 = 1 := rfl
theorem C_31 : mRc 31 = 5 := rfl
theorem B_32_0 : mB 32 0 = bk_32_0 := rfl
theorem B_32_11 : mB 32 11 = bk_32_11 := rfl
theorem N_32 : mN 32 = 2 := rfl
theorem C_32 : mRc 32 = 5 := rfl
theorem B_33_0 : mB 33 0 = bk_33_0 := rfl
theorem B_33_12 : mB 33 12 = bk_33_12 := rfl
theorem B_33_14 : mB 33 14 = bk_33_14 := rfl
theorem N_33 : mN 33 = 2 := rfl
theorem C_33 : mRc 33 = 5 := rfl
theorem B_34_0 : mB 34 0 = bk_34_0 := rfl
theorem B_34_10 : mB 34 10 = bk_34_10 := rfl
theorem B_34_12 : mB 34 12 = bk_34_12 := rfl
theorem B_34_32 : mB 34 32 = bk_34_32 := rfl
theorem B_34_38 : mB 34 38 = bk_34_38 := rfl
theorem N_34 : mN 34 = 4 := rfl
theorem C_34 : mRc 34 = 5 := rfl
theorem B_35_0 : mB 35 0 = bk_35_0 := rfl
theorem N_35 : mN 35 = 1 := rfl
theorem C_35 : mRc 35 = 6 := rfl
theorem B_36_0 : mB 36 0 = bk_36_0 := rfl
theorem N_36 : mN 36 = 2 := rfl
theorem C_36 : mRc 36 = 6 := rfl
theorem B_37_0 : mB 37 0 = bk_37_0 := rfl
theorem B_37_9 : mB 37 9 = bk_37_9 := rfl
theorem B_37_25 : mB 37 25 = bk_37_25 := rfl
theorem B_37_31 : mB 37 31 = bk_37_31 := rfl
theorem N_37 : mN 37 = 1 := rfl
theorem C_37 : mRc 37 = 6 := rfl
theorem B_38_0 : mB 38 0 = bk_38_0 := rfl
theorem B_38_16 : mB 38 16 = bk_38_16 := rfl
theorem B_38_17 : mB 38 17 = bk_38_17 := rfl
theorem N_38 : mN 38 = 2 := rfl
theorem C_38 : mRc 38 = 6 := rfl
theorem B_39_0 : mB 39 0 = bk_39_0 := rfl
theorem B_39_16 : mB 39 16 = bk_39_16 := rfl
theorem B_39_17 : mB 39 17 = bk_39_17 := rfl
theorem N_39 : mN 39 = 2 := rfl
theorem C_39 : mRc 39 = 6 := rfl
theorem B_40_0 : mB 40 0 = bk_40_0 := rfl
theorem B_40_19 : mB 40 19 = bk_40_19 := rfl
theorem B_40_23 : mB 40 23 = bk_40_23 := rfl
theorem B_40_24 : mB 40 24 = bk_40_24 := rfl
theorem N_40 : mN 40 = 2 := rfl
theorem C_40 : mRc 40 = 6 := rfl
theorem B_41_0 : mB 41 0 = bk_41_0 := rfl
theorem N_41 : mN 41 = 1 := rfl
theorem C_41 : mRc 41 = 6 := rfl
theorem B_42_0 : mB 42 0 = bk_42_0 := rfl
theorem N_42 : mN 42 = 1 := rfl
theorem C_42 : mRc 42 = 6 := rfl
theorem B_43_0 : mB 43 0 = bk_43_0 := rfl
theorem B_43_32 : mB 43 32 = bk_43_32 := rfl
theorem N_43 : mN 43 = 2 := rfl
theorem C_43 : mRc 43 = 6 := rfl
theorem B_44_0 : mB 44 0 = bk_44_0 := rfl
theorem N_44 : mN 44 = 1 := rfl
theorem C_44 : mRc 44 = 6 := rfl
theorem B_45_0 : mB 45 0 = bk_45_0 := rfl
theorem B_45_10 : mB 45 10 = bk_45_10 := rfl
theorem B_45_11 : mB 45 11 = bk_45_11 := rfl
theorem N_45 : mN 45 = 4 := rfl
theorem C_45 : mRc 45 = 6 := rfl
theorem B_46_0 : mB 46 0 = bk_46_0 := rfl
theorem N_46 : mN 46 = 4 := rfl
theorem C_46 : mRc 46 = 6 := rfl
theorem B_47_0 : mB 47 0 = bk_47_0 := rfl
theorem N_47 : mN 47 = 3 := rfl
theorem C_47 : mRc 47 = 6 := rfl
theorem B_48_0 : mB 48 0 = bk_48_0 := rfl
theorem N_48 : mN 48 = 2 := rfl
theorem C_48 : mRc 48 = 6 := rfl
theorem B_49_0 : mB 49 0 = bk_49_0 := rfl
theorem B_49_18 : mB 49 18 = bk_49_18 := rfl
theorem B_49_49 : mB 49 49 = bk_49_49 := rfl
theorem N_49 : mN 49 = 6 := rfl
theorem C_49 : mRc 49 = 6 := rfl
theorem B_50_0 : mB 50 0 = bk_50_0 := rfl
theorem B_50_11 : mB 50 11 = bk_50_11 := rfl
theorem B_50_52 : mB 50 52 = bk_50_52 := rfl
theorem B_50_63 : mB 50 63 = bk_50_63 := rfl
theorem N_50 : mN 50 = 3 := rfl
theorem C_50 : mRc 50 = 6 := rfl
theorem B_51_0 : mB 51 0 = bk_51_0 := rfl
theorem B_51_12 : mB 51 12 = bk_51_12 := rfl
theorem B_51_82 : mB 51 82 = bk_51_82 := rfl
theorem B_51_88 : mB 51 88 = bk_51_88 := rfl
theorem N_51 : mN 51 = 7 := rfl
theorem C_51 : mRc 51 = 6 := rfl
theorem B_52_0 : mB 52 0 = bk_52_0 := rfl
theorem B_52_9 : mB 52 9 = bk_52_9 := rfl
theorem N_52 : mN 52 = 2 := rfl
theorem C_52 : mRc 52 = 6 := rfl
theorem B_53_0 : mB 53 0 = bk_53_0 := rfl
theorem N_53 : mN 53 = 1 := rfl
theorem C_53 : mRc 53 = 6 := rfl
theorem B_54_0 : mB 54 0 = bk_54_0 := rfl
theorem N_54 : mN 54 = 1 := rfl
theorem C_54 : mRc 54 = 6 := rfl
theorem B_55_0 : mB 55 0 = bk_55_0 := rfl
theorem B_55_10 : mB 55 10 = bk_55_10 := rfl
theorem B_55_36 : mB 55 36 = bk_55_36 := rfl
theorem N_55 : mN 55 = 5 := rfl
theorem C_55 : mRc 55 = 6 := rfl
theorem B_56_0 : mB 56 0 = bk_56_0 := rfl
theorem B_56_9 : mB 56 9 = bk_56_9 := rfl
theorem B_56_29 : mB 56 29 = bk_56_29 := rfl
theorem B_56_35 : mB 56 35 = bk_56_35 := rfl
theorem N_56 : mN 56 = 4 := rfl
theorem C_56 : mRc 56 = 6 := rfl
theorem B_57_0 : mB 57 0 = bk_57_0 := rfl
theorem B_57_17 : mB 57 17 = bk_57_17 := rfl
theorem B_57_19 : mB 57 19 = bk_57_19 := rfl
theorem N_57 : mN 57 = 2 := rfl
theorem C_57 : mRc 57 = 6 := rfl
theorem B_58_0 : mB 58 0 = bk_58_0 := rfl
theorem N_58 : mN 58 = 1 := rfl
theorem C_58 : mRc 58 = 7 := rfl
theorem B_59_0 : mB 59 0 = bk_59_0 := rfl
theorem B_59_9 : mB 59 9 = bk_59_9 := rfl
theorem B_59_12 : mB 59 12 = bk_59_12 := rfl
theorem B_59_28 : mB 59 28 = bk_59_28 := rfl
theorem N_59 : mN 59 = 3 := rfl
theorem C_59 : mRc 59 = 7 := rfl
theorem B_60_0 : mB 60 0 = bk_60_0 := rfl
theorem B_60_13 : mB 60 13 = bk_60_13 := rfl
theorem B_60_16 : mB 60 16 = bk_60_16 := rfl
theorem B_60_32 : mB 60 32 = bk_60_32 := rfl
theorem N_60 : mN 60 = 3 := rfl
theorem C_60 : mRc 60 = 7 := rfl
theorem B_61_0 : mB 61 0 = bk_61_0 := rfl
theorem B_61_9 : mB 61 9 = bk_61_9 := rfl
theorem B_61_27 : mB 61 27 = bk_61_27 := rfl
theorem B_61_30 : mB 61 30 = bk_61_30 := rfl
theorem B_61_48 : mB 61 48 = bk_61_48 := rfl
theorem N_61 : mN 61 = 4 := rfl
theorem C_61 : mRc 61 = 7 := rfl
theorem B_62_0 : mB 62 0 = bk_62_0 := rfl
theorem B_62_23 : mB 62 23 = bk_62_23 := rfl
theorem B_62_25 : mB 62 25 = bk_62_25 := rfl
theorem B_62_43 : mB 62 43 = bk_62_43 := rfl
theorem N_62 : mN 62 = 4 := rfl
theorem C_62 : mRc 62 = 7 := rfl
theorem B_63_0 : mB 63 0 = bk_63_0 := rfl
theorem B_63_14 : mB 63 14 = bk_63_14 := rfl
theorem B_63_16 : mB 63 16 = bk_63_16 := rfl
theorem B_63_24 : mB 63 24 = bk_63_24 := rfl
theorem B_63_60 : mB 63 60 = bk_63_60 := rfl
theorem B_63_63 : mB 63 63 = bk_63_63 := rfl
theorem B_63_81 : mB 63 81 = bk_63_81 := rfl
theorem N_63 : mN 63 = 5 := rfl
theorem C_63 : mRc 63 = 7 := rfl
theorem B_64_0 : mB 64 0 = bk_64_0 := rfl
theorem B_64_9 : mB 64 9 = bk_64_9 := rfl
theorem B_64_29 : mB 64 29 = bk_64_29 := rfl
theorem B_64_39 : mB 64 39 = bk_64_39 := rfl
theorem N_64 : mN 64 = 3 := rfl
theorem C_64 : mRc 64 = 7 := rfl
theorem B_65_0 : mB 65 0 = bk_65_0 := rfl
theorem B_65_9 : mB 65 9 = bk_65_9 := rfl
theorem B_65_19 : mB 65 19 = bk_65_19 := rfl
theorem B_65_40 : mB 65 40 = bk_65_40 := rfl
theorem B_65_62 : mB 65 62 = bk_65_62 := rfl
theorem N_65 : mN 65 = 4 := rfl
theorem C_65 : mRc 65 = 7 := rfl
theorem B_66_0 : mB 66 0 = bk_66_0 := rfl
theorem B_66_14 : mB 66 14 = bk_66_14 := rfl
theorem N_66 : mN 66 = 2 := rfl
theorem C_66 : mRc 66 = 7 := rfl
theorem B_67_0 : mB 67 0 = bk_67_0 := rfl
theorem N_67 : mN 67 = 2 := rfl
theorem C_67 : mRc 67 = 7 := rfl
theorem B_68_0 : mB 68 0 = bk_68_0 := rfl
theorem B_68_33 : mB 68 33 = bk_68_33 := rfl
theorem B_68_76 : mB 68 76 = bk_68_76 := rfl
theorem B_68_102 : mB 68 102 = bk_68_102 := rfl
theorem B_68_122 : mB 68 122 = bk_68_122 := rfl
theorem B_68_141 : mB 68 141 = bk_68_141 := rfl
theorem B_68_160 : mB 68 160 = bk_68_160 := rfl
theorem B_68_172 : mB 68 172 = bk_68_172 := rfl
theorem N_68 : mN 68 = 1 := rfl
theorem C_68 : mRc 68 = 7 := rfl
theorem B_69_0 : mB 69 0 = bk_69_0 := rfl
theorem B_69_9 : mB 69 9 = bk_69_9 := rfl
theorem B_69_31 : mB 69 31 = bk_69_31 := rfl
theorem B_69_42 : mB 69 42 = bk_69_42 := rfl
theorem B_69_61 : mB 69 61 = bk_69_61 := rfl
theorem B_69_90 : mB 69 90 = bk_69_90 := rfl
theorem N_69 : mN 69 = 6 := rfl
theorem C_69 : mRc 69 = 7 := rfl
theorem B_70_0 : mB 70 0 = bk_70_0 := rfl
theorem B_70_17 : mB 70 17 = bk_70_17 := rfl
theorem N_70 : mN 70 = 1 := rfl
theorem C_70 : mRc 70 = 7 := rfl
theorem B_71_0 : mB 71 0 = bk_71_0 := rfl
theorem N_71 : mN 71 = 1 := rfl
theorem C_71 : mRc 71 = 7 := rfl
theorem B_72_0 : mB 72 0 = bk_72_0 := rfl
theorem B_72_10 : mB 72 10 = bk_72_10 := rfl
theorem N_72 : mN 72 = 1 := rfl
theorem C_72 : mRc 72 = 7 := rfl
theorem B_73_0 : mB 73 0 = bk_73_0 := rfl
theorem B_73_9 : mB 73 9 = bk_73_9 := rfl
theorem B_73_19 : mB 73 19 = bk_73_19 := rfl
theorem B_73_22 : mB 73 22 = bk_73_22 := rfl
theorem B_73_42 : mB 73 42 = bk_73_42 := rfl
theorem B_73_80 : mB 73 80 = bk_73_80 := rfl
theorem B_73_85 : mB 73 85 = bk_73_85 := rfl
theorem B_73_96 : mB 73 96 = bk_73_96 := rfl
theorem B_73_97 : mB 73 97 = bk_73_97 := rfl
theorem B_73_98 : mB 73 98 = bk_73_98 := rfl
theorem B_73_103 : mB 73 103 = bk_73_103 := rfl
theorem B_73_108 : mB 73 108 = bk_73_108 := rfl
theorem B_73_113 : mB 73 113 = bk_73_113 := rfl
theorem B_73_118 : mB 73 118 = bk_73_118 := rfl
theorem N_73 : mN 73 = 4 := rfl
theorem C_73 : mRc 73 = 7 := rfl
theorem B_74_0 : mB 74 0 = bk_74_0 := rfl
theorem B_74_23 : mB 74 23 = bk_74_23 := rfl
theorem B_74_25 : mB 74 25 = bk_74_25 := rfl
theorem B_74_68 : mB 74 68 = bk_74_68 := rfl
theorem B_74_76 : mB 74 76 = bk_74_76 := rfl
theorem B_74_84 : mB 74 84 = bk_74_84 := rfl
theorem B_74_100 : mB 74 100 = bk_74_100 := rfl
theorem B_74_110 : mB 74 110 = bk_74_110 := rfl
theorem B_74_111 : mB 74 111 = bk_74_111 := rfl
theorem B_74_130 : mB 74 130 = bk_74_130 := rfl
theorem N_74 : mN 74 = 5 := rfl
theorem C_74 : mRc 74 = 7 := rfl
theorem B_75_0 : mB 75 0 = bk_75_0 := rfl
theorem B_75_23 : mB 75 23 = bk_75_23 := rfl
theorem B_75_25 : mB 75 25 = bk_75_25 := rfl
theorem B_75_35 : mB 75 35 = bk_75_35 := rfl
theorem B_75_58 : mB 75 58 = bk_75_58 := rfl
theorem B_75_90 : mB 75 90 = bk_75_90 := rfl
theorem B_75_95 : mB 75 95 = bk_75_95 := rfl
theorem N_75 : mN 75 = 6 := rfl
theorem C_75 : mRc 75 = 7 := rfl
theorem B_76_0 : mB 76 0 = bk_76_0 := rfl
theorem B_76_9 : mB 76 9 = bk_76_9 := rfl
theorem B_76_25 : mB 76 25 = bk_76_25 := rfl
theorem B_76_28 : mB 76 28 = bk_76_28 := rfl
theorem B_76_51 : mB 76 51 = bk_76_51 := rfl
theorem B_76_73 : mB 76 73 = bk_76_73 := rfl
theorem B_76_86 : mB 76 86 = bk_76_86 := rfl
theorem B_76_102 : mB 76 102 = bk_76_102 := rfl
theorem B_76_109 : mB 76 109 = bk_76_109 := rfl
theorem N_76 : mN 76 = 5 := rfl
theorem C_76 : mRc 76 = 7 := rfl
theorem B_77_0 : mB 77 0 = bk_77_0 := rfl
theorem B_77_9 : mB 77 9 = bk_77_9 := rfl
theorem B_77_29 : mB 77 29 = bk_77_29 := rfl
theorem B_77_38 : mB 77 38 = bk_77_38 := rfl
theorem B_77_87 : mB 77 87 = bk_77_87 := rfl
theorem B_77_93 : mB 77 93 = bk_77_93 := rfl
theorem N_77 : mN 77 = 6 := rfl
theorem C_77 : mRc 77 = 7 := rfl
theorem B_78_0 : mB 78 0 = bk_78_0 := rfl
theorem B_78_9 : mB 78 9 = bk_78_9 := rfl
theorem B_78_35 : mB 78 35 = bk_78_35 := rfl
theorem B_78_38 : mB 78 38 = bk_78_38 := rfl
theorem B_78_60 : mB 78 60 = bk_78_60 := rfl
theorem B_78_75 : mB 78 75 = bk_78_75 := rfl
theorem B_78_129 : mB 78 129 = bk_78_129 := rfl
theorem B_78_135 : mB 78 135 = bk_78_135 := rfl
theorem N_78 : mN 78 = 9 := rfl
theorem C_78 : mRc 78 = 7 := rfl
theorem B_79_0 : mB 79 0 = bk_79_0 := rfl
theorem B_79_9 : mB 79 9 = bk_79_9 := rfl
theorem B_79_23 : mB 79 23 = bk_79_23 := rfl
theorem B_79_26 : mB 79 26 = bk_79_26 := rfl
theorem B_79_48 : mB 79 48 = bk_79_48 := rfl
theorem B_79_70 : mB 79 70 = bk_79_70 := rfl
theorem B_79_106 : mB 79 106 = bk_79_106 := rfl
theorem B_79_140 : mB 79 140 = bk_79_140 := rfl
theorem B_79_146 : mB 79 146 = bk_79_146 := rfl
theorem N_79 : mN 79 = 6 := rfl
theorem C_79 : mRc 79 = 7 := rfl
theorem B_80_0 : mB 80 0 = bk_80_0 := rfl
theorem B_80_13 : mB 80 13 = bk_80_13 := rfl
theorem B_80_16 : mB 80 16 = bk_80_16 := rfl
theorem N_80 : mN 80 = 3 := rfl
theorem C_80 : mRc 80 = 7 := rfl
theorem B_81_0 : mB 81 0 = bk_81_0 := rfl
theorem B_81_60 : mB 81 60 = bk_81_60 := rfl
theorem B_81_68 : mB 81 68 = bk_81_68 := rfl
theorem B_81_76 : mB 81 76 = bk_81_76 := rfl
theorem B_81_84 : mB 81 84 = bk_81_84 := rfl
theorem B_81_92 : mB 81 92 = bk_81_92 := rfl
theorem B_81_100 : mB 81 100 = bk_81_100 := rfl
theorem B_81_108 : mB 81 108 = bk_81_108 := rfl
theorem B_81_116 : mB 81 116 = bk_81_116 := rfl
theorem B_81_124 : mB 81 124 = bk_81_124 := rfl
theorem B_81_132 : mB 81 132 = bk_81_132 := rfl
theorem B_81_140 : mB 81 140 = bk_81_140 := rfl
theorem B_81_148 : mB 81 148 = bk_81_148 := rfl
theorem N_81 : mN 81 = 2 := rfl
theorem C_81 : mRc 81 = 7 := rfl
theorem B_82_0 : mB 82 0 = bk_82_0 := rfl
theorem B_82_14 : mB 82 14 = bk_82_14 := rfl
theorem B_82_15 : mB 82 15 = bk_82_15 := rfl
theorem N_82 : mN 82 = 1 := rfl
theorem C_82 : mRc 82 = 7 := rfl
theorem B_83_0 : mB 83 0 = bk_83_0 := rfl
theorem B_83_14 : mB 83 14 = bk_83_14 := rfl
theorem B_83_15 : mB 83 15 = bk_83_15 := rfl
theorem N_83 : mN 83 = 1 := rfl
theorem C_83 : mRc 83 = 7 := rfl
theorem B_84_0 : mB 84 0 = bk_84_0 := rfl
theorem B_84_13 : mB 84 13 = bk_84_13 := rfl
theorem B_84_14 : mB 84 14 = bk_84_14 := rfl
theorem N_84 : mN 84 = 1 := rfl
theorem C_84 : mRc 84 = 7 := rfl
theorem B_85_0 : mB 85 0 = bk_85_0 := rfl
theorem B_85_9 : mB 85 9 = bk_85_9 := rfl
theorem B_85_13 : mB 85 13 = bk_85_13 := rfl
theorem B_85_14 : mB 85 14 = bk_85_14 := rfl
theorem N_85 : mN 85 = 1 := rfl
theorem C_85 : mRc 85 = 7 := rfl
theorem B_86_0 : mB 86 0 = bk_86_0 := rfl
theorem N_86 : mN 86 = 1 := rfl
theorem C_86 : mRc 86 = 7 := rfl
theorem B_87_0 : mB 87 0 = bk_87_0 := rfl
theorem B_87_15 : mB 87 15 = bk_87_15 := rfl
theorem B_87_34 : mB 87 34 = bk_87_34 := rfl
theorem N_87 : mN 87 = 4 := rfl
theorem C_87 : mRc 87 = 7 := rfl
theorem B_88_0 : mB 88 0 = bk_88_0 := rfl
theorem N_88 : mN 88 = 1 := rfl
theorem C_88 : mRc 88 = 8 := rfl
theorem B_89_0 : mB 89 0 = bk_89_0 := rfl
theorem B_89_14 : mB 89 14 = bk_89_14 := rfl
theorem B_89_15 : mB 89 15 = bk_89_15 := rfl
theorem N_89 : mN 89 = 3 := rfl
theorem C_89 : mRc 89 = 8 := rfl
theorem B_90_0 : mB 90 0 = bk_90_0 := rfl
theorem B_90_13 : mB 90 13 = bk_90_13 := rfl
theorem B_90_14 : mB 90 14 = bk_90_14 := rfl
theorem N_90 : mN 90 = 1 := rfl
theorem C_90 : mRc 90 = 8 := rfl
theorem B_91_0 : mB 91 0 = bk_91_0 := rfl
theorem N_91 : mN 91 = 3 := rfl
theorem C_91 : mRc 91 = 8 := rfl
theorem B_92_0 : mB 92 0 = bk_92_0 := rfl
theorem N_92 : mN 92 = 4 := rfl
theorem C_92 : mRc 92 = 8 := rfl
theorem B_93_0 : mB 93 0 = bk_93_0 := rfl
theorem B_93_13 : mB 93 13 = bk_93_13 := rfl
theorem B_93_14 : mB 93 14 = bk_93_14 := rfl
theorem N_93 : mN 93 = 2 := rfl
theorem C_93 : mRc 93 = 8 := rfl
theorem B_94_0 : mB 94 0 = bk_94_0 := rfl
theorem N_94 : mN 94 = 2 := rfl
theorem C_94 : mRc 94 = 8 := rfl
theorem B_95_0 : mB 95 0 = bk_95_0 := rfl
theorem B_95_10 : mB 95 10 = bk_95_10 := rfl
theorem B_95_39 : mB 95 39 = bk_95_39 := rfl
theorem B_95_49 : mB 95 49 = bk_95_49 := rfl
theorem B_95_51 : mB 95 51 = bk_95_51 := rfl
theorem B_95_85 : mB 95 85 = bk_95_85 := rfl
theorem N_95 : mN 95 = 2 := rfl
theorem C_95 : mRc 95 = 8 := rfl
theorem B_96_0 : mB 96 0 = bk_96_0 := rfl
theorem B_96_16 : mB 96 16 = bk_96_16 := rfl
theorem B_96_53 : mB 96 53 = bk_96_53 := rfl
theorem B_96_65 : mB 96 65 = bk_96_65 := rfl
theorem N_96 : mN 96 = 5 := rfl
theorem C_96 : mRc 96 = 8 := rfl
theorem B_97_0 : mB 97 0 = bk_97_0 := rfl
theorem B_97_12 : mB 97 12 = bk_97_12 := rfl
theorem B_97_29 : mB 97 29 = bk_97_29 := rfl
theorem N_97 : mN 97 = 3 := rfl
theorem C_97 : mRc 97 = 8 := rfl
theorem B_98_0 : mB 98 0 = bk_98_0 := rfl
theorem B_98_15 : mB 98 15 = bk_98_15 := rfl
theorem B_98_32 : mB 98 32 = bk_98_32 := rfl
theorem N_98 : mN 98 = 3 := rfl
theorem C_98 : mRc 98 = 8 := rfl
theorem B_99_0 : mB 99 0 = bk_99_0 := rfl
theorem N_99 : mN 99 = 4 := rfl
theorem C_99 : mRc 99 = 8 := rfl
theorem B_100_0 : mB 100 0 = bk_100_0 := rfl
theorem N_100 : mN 100 = 5 := rfl
theorem C_100 : mRc 100 = 8 := rfl
theorem B_101_0 : mB 101 0 = bk_101_0 := rfl
theorem B_101_17 : mB 101 17 = bk_101_17 := rfl
theorem B_101_33 : mB 101 33 = bk_101_33 := rfl
theorem B_101_42 : mB 101 42 = bk_101_42 := rfl
theorem N_101 : mN 101 = 5 := rfl
theorem C_101 : mRc 101 = 8 := rfl
theorem B_102_0 : mB 102 0 = bk_102_0 := rfl
theorem B_102_12 : mB 102 12 = bk_102_12 := rfl
theorem B_102_97 : mB 102 97 = bk_102_97 := rfl
theorem B_102_103 : mB 102 103 = bk_102_103 := rfl
theorem B_102_159 : mB 102 159 = bk_102_159 := rfl
theorem B_102_168 : mB 102 168 = bk_102_168 := rfl
theorem B_102_172 : mB 102 172 = bk_102_172 := rfl
theorem B_102_217 : mB 102 217 = bk_102_217 := rfl
theorem B_102_226 : mB 102 226 = bk_102_226 := rfl
theorem B_102_250 : mB 102 250 = bk_102_250 := rfl
theorem B_102_251 : mB 102 251 = bk_102_251 := rfl
theorem B_102_284 : mB 102 284 = bk_102_284 := rfl
theorem B_102_286 : mB 102 286 = bk_102_286 := rfl
theorem N_102 : mN 102 = 7 := rfl
theorem C_102 : mRc 102 = 8 := rfl
theorem B_103_0 : mB 103 0 = bk_103_0 := rfl
theorem B_103_9 : mB 103 9 = bk_103_9 := rfl
theorem B_103_29 : mB 103 29 = bk_103_29 := rfl
theorem B_103_32 : mB 103 32 = bk_103_32 := rfl
theorem B_103_43 : mB 103 43 = bk_103_43 := rfl
theorem B_103_58 : mB 103 58 = bk_103_58 := rfl
theorem B_103_83 : mB 103 83 = bk_103_83 := rfl
theorem N_103 : mN 103 = 6 := rfl
theorem C_103 : mRc 103 = 8 := rfl
theorem B_104_0 : mB 104 0 = bk_104_0 := rfl
theorem B_104_31 : mB 104 31 = bk_104_31 := rfl
theorem B_104_33 : mB 104 33 = bk_104_33 := rfl
theorem B_104_35 : mB 104 35 = bk_104_35 := rfl
theorem B_104_55 : mB 104 55 = bk_104_55 := rfl
theorem B_104_64 : mB 104 64 = bk_104_64 := rfl
theorem B_104_81 : mB 104 81 = bk_104_81 := rfl
theorem B_104_117 : mB 104 117 = bk_104_117 := rfl
theorem B_104_120 : mB 104 120 = bk_104_120 := rfl
theorem B_104_155 : mB 104 155 = bk_104_155 := rfl
theorem N_104 : mN 104 = 6 := rfl
theorem C_104 : mRc 104 = 8 := rfl
theorem B_105_0 : mB 105 0 = bk_105_0 := rfl
theorem B_105_14 : mB 105 14 = bk_105_14 := rfl
theorem B_105_16 : mB 105 16 = bk_105_16 := rfl
theorem B_105_24 : mB 105 24 = bk_105_24 := rfl
theorem B_105_40 : mB 105 40 = bk_105_40 := rfl
theorem B_105_43 : mB 105 43 = bk_105_43 := rfl
theorem B_105_70 : mB 105 70 = bk_105_70 := rfl
theorem B_105_77 : mB 105 77 = bk_105_77 := rfl
theorem B_105_113 : mB 105 113 = bk_105_113 := rfl
theorem B_105_116 : mB 105 116 = bk_105_116 := rfl
theorem B_105_151 : mB 105 151 = bk_105_151 := rfl
theorem N_105 : mN 105 = 6 := rfl
theorem C_105 : mRc 105 = 8 := rfl
theorem B_106_0 : mB 106 0 = bk_106_0 := rfl
theorem B_106_9 : mB 106 9 = bk_106_9 := rfl
theorem B_106_20 : mB 106 20 = bk_106_20 := rfl
theorem B_106_33 : mB 106 33 = bk_106_33 := rfl
theorem N_106 : mN 106 = 2 := rfl
theorem C_106 : mRc 106 = 8 := rfl
theorem B_107_0 : mB 107 0 = bk_107_0 := rfl
theorem B_107_27 : mB 107 27 = bk_107_27 := rfl
theorem B_107_29 : mB 107 29 = bk_107_29 := rfl
theorem N_107 : mN 107 = 3 := rfl
theorem C_107 : mRc 107 = 8 := rfl
theorem B_108_0 : mB 108 0 = bk_108_0 := rfl
theorem B_108_21 : mB 108 21 = bk_108_21 := rfl
theorem B_108_69 : mB 108 69 = bk_108_69 := rfl
theorem B_108_117 : mB 108 117 = bk_108_117 := rfl
theorem B_108_123 : mB 108 123 = bk_108_123 := rfl
theorem N_108 : mN 108 = 9 := rfl
theorem C_108 : mRc 108 = 8 := rfl
theorem B_109_0 : mB 109 0 = bk_109_0 := rfl
theorem B_109_18 : mB 109 18 = bk_109_18 := rfl
theorem B_109_19 : mB 109 19 = bk_109_19 := rfl
theorem N_109 : mN 109 = 3 := rfl
theorem C_109 : mRc 109 = 8 := rfl
theorem B_110_0 : mB 110 0 = bk_110_0 := rfl
theorem B_110_12 : mB 110 12 = bk_110_12 := rfl
theorem B_110_46 : mB 110 46 = bk_110_46 := rfl
theorem B_110_63 : mB 110 63 = bk_110_63 := rfl
theorem B_110_64 : mB 110 64 = bk_110_64 := rfl
theorem B_110_84 : mB 110 84 = bk_110_84 := rfl
theorem B_110_85 : mB 110 85 = bk_110_85 := rfl
theorem B_110_100 : mB 110 100 = bk_110_100 := rfl
theorem B_110_102 : mB 110 102 = bk_110_102 := rfl
theorem B_110_104 : mB 110 104 = bk_110_104 := rfl
theorem B_110_110 : mB 110 110 = bk_110_110 := rfl
theorem B_110_118 : mB 110 118 = bk_110_118 := rfl
theorem B_110_128 : mB 110 128 = bk_110_128 := rfl
theorem B_110_130 : mB 110 130 = bk_110_130 := rfl
theorem N_110 : mN 110 = 7 := rfl
theorem C_110 : mRc 110 = 8 := rfl
theorem B_111_0 : mB 111 0 = bk_111_0 := rfl
theorem N_111 : mN 111 = 3 := rfl
theorem C_111 : mRc 111 = 8 := rfl
theorem B_112_0 : mB 112 0 = bk_112_0 := rfl
theorem B_112_9 : mB 112 9 = bk_112_9 := rfl
theorem B_112_21 : mB 112 21 = bk_112_21 := rfl
theorem B_112_38 : mB 112 38 = bk_112_38 := rfl
theorem B_112_41 : mB 112 41 = bk_112_41 := rfl
theorem B_112_59 : mB 112 59 = bk_112_59 := rfl
theorem B_112_82 : mB 112 82 = bk_112_82 := rfl
theorem B_112_123 : mB 112 123 = bk_112_123 := rfl
theorem B_112_149 : mB 112 149 = bk_112_149 := rfl
theorem N_112 : mN 112 = 5 := rfl
theorem C_112 : mRc 112 = 8 := rfl
theorem B_113_0 : mB 113 0 = bk_113_0 := rfl
theorem B_113_12 : mB 113 12 = bk_113_12 := rfl
theorem N_113 : mN 113 = 2 := rfl
theorem C_113 : mRc 113 = 8 := rfl
theorem B_114_0 : mB 114 0 = bk_114_0 := rfl
theorem N_114 : mN 114 = 2 := rfl
theorem C_114 : mRc 114 = 8 := rfl
theorem B_115_0 : mB 115 0 = bk_115_0 := rfl
theorem B_115_9 : mB 115 9 = bk_115_9 := rfl
theorem B_115_10 : mB 115 10 = bk_115_10 := rfl
theorem B_115_51 : mB 115 51 = bk_115_51 := rfl
theorem B_115_53 : mB 115 53 = bk_115_53 := rfl
theorem B_115_80 : mB 115 80 = bk_115_80 := rfl
theorem B_115_84 : mB 115 84 = bk_115_84 := rfl
theorem B_115_85 : mB 115 85 = bk_115_85 := rfl
theorem N_115 : mN 115 = 7 := rfl
theorem C_115 : mRc 115 = 8 := rfl
theorem B_116_0 : mB 116 0 = bk_116_0 := rfl
theorem B_116_76 : mB 116 76 = bk_116_76 := rfl
theorem B_116_77 : mB 116 77 = bk_116_77 := rfl
theorem N_116 : mN 116 = 7 := rfl
theorem C_116 : mRc 116 = 8 := rfl
theorem B_117_0 : mB 117 0 = bk_117_0 := rfl
theorem B_117_5 : mB 117 5 = bk_117_5 := rfl
theorem B_117_48 : mB 117 48 = bk_117_48 := rfl
theorem B_117_65 : mB 117 65 = bk_117_65 := rfl
theorem B_117_84 : mB 117 84 = bk_117_84 := rfl
theorem B_117_103 : mB 117 103 = bk_117_103 := rfl
theorem B_117_122 : mB 117 122 = bk_117_122 := rfl
theorem B_117_145 : mB 117 145 = bk_117_145 := rfl
theorem B_117_168 : mB 117 168 = bk_117_168 := rfl
theorem B_117_170 : mB 117 170 = bk_117_170 := rfl
theorem N_117 : mN 117 = 1 := rfl
theorem C_117 : mRc 117 = 8 := rfl
theorem B_118_0 : mB 118 0 = bk_118_0 := rfl
theorem B_118_25 : mB 118 25 = bk_118_25 := rfl
theorem B_118_27 : mB 118 27 = bk_118_27 := rfl
theorem N_118 : mN 118 = 1 := rfl
theorem C_118 : mRc 118 = 8 := rfl
theorem B_119_0 : mB 119 0 = bk_119_0 := rfl
theorem B_119_30 : mB 119 30 = bk_119_30 := rfl
theorem B_119_32 : mB 119 32 = bk_119_32 := rfl
theorem B_119_129 : mB 119 129 = bk_119_129 := rfl
theorem N_119 : mN 119 = 1 := rfl
theorem C_119 : mRc 119 = 8 := rfl
theorem B_120_0 : mB 120 0 = bk_120_0 := rfl
theorem B_120_24 : mB 120 24 = bk_120_24 := rfl
theorem B_120_38 : mB 120 38 = bk_120_38 := rfl
theorem B_120_40 : mB 120 40 = bk_120_40 := rfl
theorem B_120_71 : mB 120 71 = bk_120_71 := rfl
theorem B_120_72 : mB 120 72 = bk_120_72 := rfl
theorem B_120_73 : mB 120 73 = bk_120_73 := rfl
theorem B_120_82 : mB 120 82 = bk_120_82 := rfl
theorem B_120_106 : mB 120 106 = bk_120_106 := rfl
theorem B_120_129 : mB 120 129 = bk_120_129 := rfl
theorem B_120_130 : mB 120 130 = bk_120_130 := rfl
theorem B_120_131 : mB 120 131 = bk_120_131 := rfl
theorem B_120_174 : mB 120 174 = bk_120_174 := rfl
theorem B_120_200 : mB 120 200 = bk_120_200 := rfl
theorem B_120_201 : mB 120 201 = bk_120_201 := rfl
theorem N_120 : mN 120 = 1 := rfl
theorem C_120 : mRc 120 = 8 := rfl
theorem B_121_0 : mB 121 0 = bk_121_0 := rfl
theorem B_121_12 : mB 121 12 = bk_121_12 := rfl
theorem B_121_26 : mB 121 26 = bk_121_26 := rfl
theorem B_121_45 : mB 121 45 = bk_121_45 := rfl
theorem B_121_63 : mB 121 63 = bk_121_63 := rfl
theorem B_121_122 : mB 121 122 = bk_121_122 := rfl
theorem N_121 : mN 121 = 4 := rfl
theorem C_121 : mRc 121 = 8 := rfl
theorem B_122_0 : mB 122 0 = bk_122_0 := rfl
theorem B_122_15 : mB 122 15 = bk_122_15 := rfl
theorem B_122_52 : mB 122 52 = bk_122_52 := rfl
theorem B_122_57 : mB 122 57 = bk_122_57 := rfl
theorem B_122_71 : mB 122 71 = bk_122_71 := rfl
theorem B_122_84 : mB 122 84 = bk_122_84 := rfl
theorem B_122_97 : mB 122 97 = bk_122_97 := rfl
theorem B_122_106 : mB 122 106 = bk_122_106 := rfl
theorem N_122 : mN 122 = 1 := rfl
theorem C_122 : mRc 122 = 8 := rfl
theorem B_123_0 : mB 123 0 = bk_123_0 := rfl
theorem B_123_4 : mB 123 4 = bk_123_4 := rfl
theorem B_123_23 : mB 123 23 = bk_123_23 := rfl
theorem B_123_24 : mB 123 24 = bk_123_24 := rfl
theorem B_123_32 : mB 123 32 = bk_123_32 := rfl
theorem N_123 : mN 123 = 3 := rfl
theorem C_123 : mRc 123 = 8 := rfl
theorem B_124_0 : mB 124 0 = bk_124_0 := rfl
theorem B_124_10 : mB 124 10 = bk_124_10 := rfl
theorem B_124_22 : mB 124 22 = bk_124_22 := rfl
theorem B_124_56 : mB 124 56 = bk_124_56 := rfl
theorem N_124 : mN 124 = 2 := rfl
theorem C_124 : mRc 124 = 8 := rfl
theorem B_125_0 : mB 125 0 = bk_125_0 := rfl
theorem B_125_2 : mB 125 2 = bk_125_2 := rfl
theorem B_125_27 : mB 125 27 = bk_125_27 := rfl
theorem N_125 : mN 125 = 2 := rfl
theorem C_125 : mRc 125 = 8 := rfl
theorem B_126_0 : mB 126 0 = bk_126_0 := rfl
theorem B_126_10 : mB 126 10 = bk_126_10 := rfl
theorem B_126_16 : mB 126 16 = bk_126_16 := rfl
theorem B_126_41 : mB 126 41 = bk_126_41 := rfl
theorem N_126 : mN 126 = 2 := rfl
theorem C_126 : mRc 126 = 8 := rfl
theorem B_127_0 : mB 127 0 = bk_127_0 := rfl
theorem N_127 : mN 127 = 3 := rfl
theorem C_127 : mRc 127 = 8 := rfl
theorem B_128_0 : mB 128 0 = bk_128_0 := rfl
theorem B_128_4 : mB 128 4 = bk_128_4 := rfl
theorem B_128_32 : mB 128 32 = bk_128_32 := rfl
theorem B_128_33 : mB 128 33 = bk_128_33 := rfl
theorem B_128_40 : mB 128 40 = bk_128_40 := rfl
theorem N_128 : mN 128 = 4 := rfl
theorem C_128 : mRc 128 = 8 := rfl
theorem B_129_0 : mB 129 0 = bk_129_0 := rfl
theorem B_129_5 : mB 129 5 = bk_129_5 := rfl
theorem B_129_33 : mB 129 33 = bk_129_33 := rfl
theorem N_129 : mN 129 = 5 := rfl
theorem C_129 : mRc 129 = 8 := rfl
theorem B_130_0 : mB 130 0 = bk_130_0 := rfl
theorem B_130_9 : mB 130 9 = bk_130_9 := rfl
theorem B_130_22 : mB 130 22 = bk_130_22 := rfl
theorem B_130_33 : mB 130 33 = bk_130_33 := rfl
theorem B_130_72 : mB 130 72 = bk_130_72 := rfl
theorem B_130_79 : mB 130 79 = bk_130_79 := rfl
theorem B_130_86 : mB 130 86 = bk_130_86 := rfl
theorem B_130_93 : mB 130 93 = bk_130_93 := rfl
theorem B_130_101 : mB 130 101 = bk_130_101 := rfl
theorem B_130_108 : mB 130 108 = bk_130_108 := rfl
theorem B_130_114 : mB 130 114 = bk_130_114 := rfl
theorem N_130 : mN 130 = 3 := rfl
theorem C_130 : mRc 130 = 8 := rfl
theorem B_131_0 : mB 131 0 = bk_131_0 := rfl
theorem B_131_30 : mB 131 30 = bk_131_30 := rfl
theorem B_131_32 : mB 131 32 = bk_131_32 := rfl
theorem B_131_64 : mB 131 64 = bk_131_64 := rfl
theorem B_131_73 : mB 131 73 = bk_131_73 := rfl
theorem B_131_83 : mB 131 83 = bk_131_83 := rfl
theorem B_131_114 : mB 131 114 = bk_131_114 := rfl
theorem B_131_116 : mB 131 116 = bk_131_116 := rfl
theorem B_131_117 : mB 131 117 = bk_131_117 := rfl
theorem B_131_126 : mB 131 126 = bk_131_126 := rfl
theorem N_131 : mN 131 = 4 := rfl
theorem C_131 : mRc 131 = 8 := rfl
theorem B_132_0 : mB 132 0 = bk_132_0 := rfl
theorem B_132_31 : mB 132 31 = bk_132_31 := rfl
theorem B_132_33 : mB 132 33 = bk_132_33 := rfl
theorem B_132_45 : mB 132 45 = bk_132_45 := rfl
theorem B_132_57 : mB 132 57 = bk_132_57 := rfl
theorem B_132_79 : mB 132 79 = bk_132_79 := rfl
theorem B_132_88 : mB 132 88 = bk_132_88 := rfl
theorem N_132 : mN 132 = 4 := rfl
theorem C_132 : mRc 132 = 8 := rfl
theorem B_133_0 : mB 133 0 = bk_133_0 := rfl
theorem B_133_9 : mB 133 9 = bk_133_9 := rfl
theorem B_133_27 : mB 133 27 = bk_133_27 := rfl
theorem B_133_30 : mB 133 30 = bk_133_30 := rfl
theorem B_133_47 : mB 133 47 = bk_133_47 := rfl
theorem B_133_50 : mB 133 50 = bk_133_50 := rfl
theorem N_133 : mN 133 = 4 := rfl
theorem C_133 : mRc 133 = 8 := rfl
theorem B_134_0 : mB 134 0 = bk_134_0 := rfl
theorem B_134_9 : mB 134 9 = bk_134_9 := rfl
theorem B_134_20 : mB 134 20 = bk_134_20 := rfl
theorem B_134_32 : mB 134 32 = bk_134_32 := rfl
theorem B_134_66 : mB 134 66 = bk_134_66 := rfl
theorem B_134_72 : mB 134 72 = bk_134_72 := rfl
theorem N_134 : mN 134 = 6 := rfl
theorem C_134 : mRc 134 = 8 := rfl
theorem B_135_0 : mB 135 0 = bk_135_0 := rfl
theorem B_135_2 : mB 135 2 = bk_135_2 := rfl
theorem B_135_27 : mB 135 27 = bk_135_27 := rfl
theorem N_135 : mN 135 = 2 := rfl
theorem C_135 : mRc 135 = 8 := rfl
theorem B_136_0 : mB 136 0 = bk_136_0 := rfl
theorem B_136_2 : mB 136 2 = bk_136_2 := rfl
theorem B_136_27 : mB 136 27 = bk_136_27 := rfl
theorem N_136 : mN 136 = 2 := rfl
theorem C_136 : mRc 136 = 8 := rfl
theorem B_137_0 : mB 137 0 = bk_137_0 := rfl
theorem B_137_9 : mB 137 9 = bk_137_9 := rfl
theorem B_137_39 : mB 137 39 = bk_137_39 := rfl
theorem B_137_42 : mB 137 42 = bk_137_42 := rfl
theorem B_137_55 : mB 137 55 = bk_137_55 := rfl
theorem B_137_56 : mB 137 56 = bk_137_56 := rfl
theorem N_137 : mN 137 = 5 := rfl
theorem C_137 : mRc 137 = 8 := rfl
theorem B_138_0 : mB 138 0 = bk_138_0 := rfl
theorem B_138_19 : mB 138 19 = bk_138_19 := rfl
theorem B_138_37 : mB 138 37 = bk_138_37 := rfl
theorem B_138_63 : mB 138 63 = bk_138_63 := rfl
theorem N_138 : mN 138 = 9 := rfl
theorem C_138 : mRc 138 = 8 := rfl
theorem B_139_0 : mB 139 0 = bk_139_0 := rfl
theorem B_139_8 : mB 139 8 = bk_139_8 := rfl
theorem B_139_35 : mB 139 35 = bk_139_35 := rfl
theorem B_139_41 : mB 139 41 = bk_139_41 := rfl
theorem N_139 : mN 139 = 4 := rfl
theorem C_139 : mRc 139 = 8 := rfl
theorem B_140_0 : mB 140 0 = bk_140_0 := rfl
theorem B_140_18 : mB 140 18 = bk_140_18 := rfl
theorem B_140_27 : mB 140 27 = bk_140_27 := rfl
theorem B_140_54 : mB 140 54 = bk_140_54 := rfl
theorem B_140_61 : mB 140 61 = bk_140_61 := rfl
theorem B_140_92 : mB 140 92 = bk_140_92 := rfl
theorem N_140 : mN 140 = 6 := rfl
theorem C_140 : mRc 140 = 8 := rfl
theorem B_141_0 : mB 141 0 = bk_141_0 := rfl
theorem B_141_13 : mB 141 13 = bk_141_13 := rfl
theorem B_141_16 : mB 141 16 = bk_141_16 := rfl
theorem B_141_56 : mB 141 56 = bk_141_56 := rfl
theorem B_141_58 : mB 141 58 = bk_141_58 := rfl
theorem N_141 : mN 141 = 3 := rfl
theorem C_141 : mRc 141 = 8 := rfl
theorem B_142_0 : mB 142 0 = bk_142_0 := rfl
theorem B_142_4 : mB 142 4 = bk_142_4 := rfl
theorem B_142_23 : mB 142 23 = bk_142_23 := rfl
theorem B_142_29 : mB 142 29 = bk_142_29 := rfl
theorem B_142_37 : mB 142 37 = bk_142_37 := rfl
theorem N_142 : mN 142 = 3 := rfl
theorem C_142 : mRc 142 = 8 := rfl
theorem B_143_0 : mB 143 0 = bk_143_0 := rfl
theorem B_143_60 : mB 143 60 = bk_143_60 := rfl
theorem B_143_65 : mB 143 65 = bk_143_65 := rfl
theorem B_143_70 : mB 143 70 = bk_143_70 := rfl
theorem B_143_79 : mB 143 79 = bk_143_79 := rfl
theorem B_143_88 : mB 143 88 = bk_143_88 := rfl
theorem B_143_97 : mB 143 97 = bk_143_97 := rfl
theorem B_143_106 : mB 143 106 = bk_143_106 := rfl
theorem B_143_115 : mB 143 115 = bk_143_115 := rfl
theorem B_143_124 : mB 143 124 = bk_143_124 := rfl
theorem B_143_133 : mB 143 133 = bk_143_133 := rfl
theorem B_143_138 : mB 143 138 = bk_143_138 := rfl
theorem B_143_143 : mB 143 143 = bk_143_143 := rfl
theorem N_143 : mN 143 = 2 := rfl
theorem C_143 : mRc 143 = 8 := rfl
theorem B_144_0 : mB 144 0 = bk_144_0 := rfl
theorem N_144 : mN 144 = 1 := rfl
theorem C_144 : mRc 144 = 10 := rfl
theorem B_145_0 : mB 145 0 = bk_145_0 := rfl
theorem B_145_16 : mB 145 16 = bk_145_16 := rfl
theorem N_145 : mN 145 = 2 := rfl
theorem C_145 : mRc 145 = 10 := rfl
theorem B_146_0 : mB 146 0 = bk_146_0 := rfl
theorem B_146_13 : mB 146 13 = bk_146_13 := rfl
theorem B_146_14 : mB 146 14 = bk_146_14 := rfl
theorem N_146 : mN 146 = 1 := rfl
theorem C_146 : mRc 146 = 10 := rfl
theorem B_147_0 : mB 147 0 = bk_147_0 := rfl
theorem B_147_17 : mB 147 17 = bk_147_17 := rfl
theorem B_147_18 : mB 147 18 = bk_147_18 := rfl
theorem N_147 : mN 147 = 1 := rfl
theorem C_147 : mRc 147 = 10 := rfl
theorem B_148_0 : mB 148 0 = bk_148_0 := rfl
theorem N_148 : mN 148 = 2 := rfl
theorem C_148 : mRc 148 = 10 := rfl
theorem B_149_0 : mB 149 0 = bk_149_0 := rfl
theorem N_149 : mN 149 = 2 := rfl
theorem C_149 : mRc 149 = 11 := rfl
theorem B_150_0 : mB 150 0 = bk_150_0 := rfl
theorem B_150_9 : mB 150 9 = bk_150_9 := rfl
theorem B_150_16 : mB 150 16 = bk_150_16 := rfl
theorem N_150 : mN 150 = 3 := rfl
theorem C_150 : mRc 150 = 12 := rfl
theorem B_151_0 : mB 151 0 = bk_151_0 := rfl
theorem B_151_18 : mB 151 18 = bk_151_18 := rfl
theorem B_151_136 : mB 151 136 = bk_151_136 := rfl
theorem B_151_159 : mB 151 159 = bk_151_159 := rfl
theorem B_151_182 : mB 151 182 = bk_151_182 := rfl
theorem B_151_225 : mB 151 225 = bk_151_225 := rfl
theorem B_151_258 : mB 151 258 = bk_151_258 := rfl
theorem B_151_291 : mB 151 291 = bk_151_291 := rfl
theorem B_151_314 : mB 151 314 = bk_151_314 := rfl
theorem B_151_347 : mB 151 347 = bk_151_347 := rfl
theorem B_151_372 : mB 151 372 = bk_151_372 := rfl
theorem B_151_385 : mB 151 385 = bk_151_385 := rfl
theorem B_151_398 : mB 151 398 = bk_151_398 := rfl
theorem B_151_411 : mB 151 411 = bk_151_411 := rfl
theorem B_151_424 : mB 151 424 = bk_151_424 := rfl
theorem B_151_437 : mB 151 437 = bk_151_437 := rfl
theorem B_151_470 : mB 151 470 = bk_151_470 := rfl
theorem B_151_513 : mB 151 513 = bk_151_513 := rfl
theorem B_151_556 : mB 151 556 = bk_151_556 := rfl
theorem B_151_599 : mB 151 599 = bk_151_599 := rfl
theorem B_151_622 : mB 151 622 = bk_151_622 := rfl
theorem B_151_675 : mB 151 675 = bk_151_675 := rfl
theorem B_151_718 : mB 151 718 = bk_151_718 := rfl
theorem B_151_751 : mB 151 751 = bk_151_751 := rfl
theorem B_151_774 : mB 151 774 = bk_151_774 := rfl
theorem B_151_780 : mB 151 780 = bk_151_780 := rfl
theorem N_151 : mN 151 = 4 := rfl
theorem C_151 : mRc 151 = 9 := rfl
end
section
/-! RUNS OF THE SMALL MACHINE, without their length: Ev, EvM; a row an instruction -/
def mR : Nat → Nat → List mIns → List Value → List Value → mH → Option (Option Value × mH) := mRun mB mN mRc
theorem mR_succ (f y : Nat) (i : mIns) (is : List mIns) (L st : List Value) (h : mH) : mR (f + 1) y (i :: is) L st h = match mStep mRc i L st h with
      | .inl (L', st', h') => mR f y is L' st' h'
      | .inr (.inl (t, L', st')) => mR f y (mB y t) L' st' h
      | .inr (.inr (.inl r)) => some r
      | .inr (.inr (.inr none)) => none
      | .inr (.inr (.inr (some (z, as, st')))) => match mR f z (mB z 0) (as ++ List.replicate (mN z - as.length) .null) [] h with
        | none => none
        | some (v, h') => mR f y is L (v.toList ++ st') h' := rfl
theorem mR_nil (f y : Nat) (L st : List Value) (h : mH) : mR f y [] L st h = none := by cases f <;> rfl
theorem mR_mono : ∀ (f y : Nat) (is : List mIns) (L st : List Value) (h : mH) (r : Option Value × mH), mR f y is L st h = some r → mR (f + 1) y is L st h = some r := by
  intro f
  induction f with
  | zero => intro y is L st h r hr; cases hr
  | succ f ih =>
    intro y is L st h r hr
    cases is with
    | nil => rw [mR_nil] at hr; cases hr
    | cons i is =>
      rw [mR_succ] at hr ⊢
      generalize mStep mRc i L st h = w at hr ⊢
      rcases w with ⟨L', st', h'⟩ | ⟨t, L', st'⟩ | q | (_ | ⟨z, as, st'⟩)
      · exact ih _ _ _ _ _ _ hr
      · exact ih _ _ _ _ _ _ hr
      · exact hr
      · cases hr
      · dsimp only at hr ⊢
        cases hc : mR f z (mB z 0) (as ++ List.replicate (mN z - as.length) .null) [] h with
        | none => rw [hc] at hr; cases hr
        | some q =>
          rw [hc] at hr
          rw [ih _ _ _ _ _ _ hc]
          exact ih _ _ _ _ _ _ hr
theorem mR_le {f g y : Nat} {is : List mIns} {L st : List Value} {h : mH} {r : Option Value × mH} (hfg : f ≤ g) (hr : mR f y is L st h = some r) : mR g y is L st h = some r := by
  obtain ⟨d, rfl⟩ := Nat.exists_eq_add_of_le hfg
  induction d with
  | zero => exact hr
  | succ d ih => exact mR_mono _ _ _ _ _ _ _ (ih (Nat.le_add_right _ _))
def Ev (y : Nat) (is : List mIns) (L st : List Value) (h : mH) (Q : Option Value → mH → Prop) : Prop := ∃ (f : Nat) (r : Option Value × mH), mR f y is L st h = some r ∧ Q r.1 r.2
def EvM (z : Nat) (as : List Value) (h : mH) (Q : Option Value → mH → Prop) : Prop := Ev z (mB z 0) (as ++ List.replicate (mN z - as.length) .null) [] h Q
theorem Ev_mono {y : Nat} {is : List mIns} {L st : List Value} {h : mH} {Q Q' : Option Value → mH → Prop} (hQ : ∀ v k, Q v k → Q' v k) (hE : Ev y is L st h Q) : Ev y is L st h Q' := by
  obtain ⟨f, r, h1, h2⟩ := hE
  exact ⟨f, r, h1, hQ _ _ h2⟩
theorem EvM_mono {z : Nat} {as : List Value} {h : mH} {Q Q' : Option Value → mH → Prop} (hQ : ∀ v k, Q v k → Q' v k) (hE : EvM z as h Q) : EvM z as h Q' := Ev_mono hQ hE
theorem Ev_nx {y : Nat} {i : mIns} {is : List mIns} {L st L' st' : List Value} {h h' : mH} {Q : Option Value → mH → Prop} (hs : mStep mRc i L st h = .inl (L', st', h')) : Ev y (i :: is) L st h Q ↔ Ev y is L' st' h' Q := by
  constructor
  · rintro ⟨f, r, h1, h2⟩
    cases f with
    | zero => cases h1
    | succ f => rw [mR_succ, hs] at h1; exact ⟨f, r, h1, h2⟩
  · rintro ⟨f, r, h1, h2⟩
    exact ⟨f + 1, r, by rw [mR_succ, hs]; exact h1, h2⟩
theorem Ev_jp {y t : Nat} {i : mIns} {is : List mIns} {L st L' st' : List Value} {h : mH} {Q : Option Value → mH → Prop} (hs : mStep mRc i L st h = .inr (.inl (t, L', st'))) : Ev y (i :: is) L st h Q ↔ Ev y (mB y t) L' st' h Q := by
  constructor
  · rintro ⟨f, r, h1, h2⟩
    cases f with
    | zero => cases h1
    | succ f => rw [mR_succ, hs] at h1; exact ⟨f, r, h1, h2⟩
  · rintro ⟨f, r, h1, h2⟩
    exact ⟨f + 1, r, by rw [mR_succ, hs]; exact h1, h2⟩
theorem Ev_rt {y : Nat} {i : mIns} {is : List mIns} {L st : List Value} {h : mH} {v : Option Value} {h' : mH} {Q : Option Value → mH → Prop} (hs : mStep mRc i L st h = .inr (.inr (.inl (v, h')))) : Ev y (i :: is) L st h Q ↔ Q v h' := by
  constructor
  · rintro ⟨f, r, h1, h2⟩
    cases f with
    | zero => cases h1
    | succ f => rw [mR_succ, hs] at h1; cases h1; exact h2
  · intro h2
    exact ⟨1, (v, h'), by rw [mR_succ, hs], h2⟩
theorem Ev_er {y : Nat} {i : mIns} {is : List mIns} {L st : List Value} {h : mH} {Q : Option Value → mH → Prop} (hs : mStep mRc i L st h = .inr (.inr (.inr none))) : Ev y (i :: is) L st h Q ↔ False := by
  constructor
  · rintro ⟨f, r, h1, h2⟩
    cases f with
    | zero => cases h1
    | succ f => rw [mR_succ, hs] at h1; cases h1
  · exact False.elim
theorem Ev_cl {y z : Nat} {i : mIns} {is : List mIns} {as L st st' : List Value} {h : mH} {Q : Option Value → mH → Prop} (hs : mStep mRc i L st h = .inr (.inr (.inr (some (z, as, st'))))) : Ev y (i :: is) L st h Q ↔ EvM z as h (fun v h' => Ev y is L (v.toList ++ st') h' Q) := by
  constructor
  · rintro ⟨f, r, h1, h2⟩
    cases f with
    | zero => cases h1
    | succ f =>
      rw [mR_succ, hs] at h1
      dsimp only at h1
      cases hc : mR f z (mB z 0) (as ++ List.replicate (mN z - as.length) .null) [] h with
      | none => rw [hc] at h1; cases h1
      | some q => rw [hc] at h1; exact ⟨f, q, hc, f, r, h1, h2⟩
  · rintro ⟨f, q, h1, g, r, h2, h3⟩
    refine ⟨max f g + 1, r, ?_, h3⟩
    rw [mR_succ, hs]
    dsimp only
    rw [mR_le (Nat.le_max_left f g) h1]
    exact mR_le (Nat.le_max_right f g) h2
section EVROWS
variable {y a b n : Nat} {v x p q : Int32} {is : List mIns} {L st : List Value} {h : mH} {o r : Nat} {Q : Option Value → mH → Prop}
theorem e_iconst {k : Int} : Ev y ((.iconst k, a, b, v) :: is) L st h Q ↔ Ev y is L (.int v :: st) h Q := Ev_nx rfl
theorem e_bipush {k : Int} : Ev y ((.bipush k, a, b, v) :: is) L st h Q ↔ Ev y is L (.int v :: st) h Q := Ev_nx rfl
theorem e_sipush {k : Int} : Ev y ((.sipush k, a, b, v) :: is) L st h Q ↔ Ev y is L (.int v :: st) h Q := Ev_nx rfl
theorem e_iload_n {k : Fin 4} : Ev y ((.iload_n k, a, b, v) :: is) L st h Q ↔ ∃ x, L[a]? = some (.int x) ∧ Ev y is L (.int x :: st) h Q := by
  constructor
  · intro z
    by_cases c : ∃ x, L[a]? = some (.int x)
    · obtain ⟨x, c⟩ := c
      rw [Ev_nx (L' := L) (st' := .int x :: st) (h' := h) (by simp only [mStep, c])] at z
      exact ⟨x, c, z⟩
    · rw [Ev_er] at z
      · exact z.elim
      · simp only [mStep]
        split
        · rename_i x e; exact absurd ⟨x, e⟩ c
        · rfl
  · rintro ⟨x, c, z⟩
    rw [Ev_nx (L' := L) (st' := .int x :: st) (h' := h) (by simp only [mStep, c])]
    exact z
theorem e_iload {k : Nat} : Ev y ((.iload k, a, b, v) :: is) L st h Q ↔ ∃ x, L[a]? = some (.int x) ∧ Ev y is L (.int x :: st) h Q := by
  constructor
  · intro z
    by_cases c : ∃ x, L[a]? = some (.int x)
    · obtain ⟨x, c⟩ := c
      rw [Ev_nx (L' := L) (st' := .int x :: st) (h' := h) (by simp only [mStep, c])] at z
      exact ⟨x, c, z⟩
    · rw [Ev_er] at z
      · exact z.elim
      · simp only [mStep]
        split
        · rename_i x e; exact absurd ⟨x, e⟩ c
        · rfl
  · rintro ⟨x, c, z⟩
    rw [Ev_nx (L' := L) (st' := .int x :: st) (h' := h) (by simp only [mStep, c])]
    exact z
theorem e_aload_n {k : Fin 4} : Ev y ((.aload_n k, a, b, v) :: is) L st h Q ↔ ∃ o, L[a]? = some (.ref o) ∧ Ev y is L (.ref o :: st) h Q := by
  constructor
  · intro z
    by_cases c : ∃ x, L[a]? = some (.ref x)
    · obtain ⟨x, c⟩ := c
      rw [Ev_nx (L' := L) (st' := .ref x :: st) (h' := h) (by simp only [mStep, c])] at z
      exact ⟨x, c, z⟩
    · rw [Ev_er] at z
      · exact z.elim
      · simp only [mStep]
        split
        · rename_i x e; exact absurd ⟨x, e⟩ c
        · rfl
  · rintro ⟨x, c, z⟩
    rw [Ev_nx (L' := L) (st' := .ref x :: st) (h' := h) (by simp only [mStep, c])]
    exact z
theorem e_aload {k : Nat} : Ev y ((.aload k, a, b, v) :: is) L st h Q ↔ ∃ o, L[a]? = some (.ref o) ∧ Ev y is L (.ref o :: st) h Q := by
  constructor
  · intro z
    by_cases c : ∃ x, L[a]? = some (.ref x)
    · obtain ⟨x, c⟩ := c
      rw [Ev_nx (L' := L) (st' := .ref x :: st) (h' := h) (by simp only [mStep, c])] at z
      exact ⟨x, c, z⟩
    · rw [Ev_er] at z
      · exact z.elim
      · simp only [mStep]
        split
        · rename_i x e; exact absurd ⟨x, e⟩ c
        · rfl
  · rintro ⟨x, c, z⟩
    rw [Ev_nx (L' := L) (st' := .ref x :: st) (h' := h) (by simp only [mStep, c])]
    exact z
theorem e_istore_n {k : Fin 4} : Ev y ((.istore_n k, a, b, v) :: is) L (.int x :: st) h Q ↔ Ev y is (L.set a (.int x)) st h Q := Ev_nx rfl
theorem e_istore {k : Nat} : Ev y ((.istore k, a, b, v) :: is) L (.int x :: st) h Q ↔ Ev y is (L.set a (.int x)) st h Q := Ev_nx rfl
theorem e_astore_n {k : Fin 4} : Ev y ((.astore_n k, a, b, v) :: is) L (.ref o :: st) h Q ↔ Ev y is (L.set a (.ref o)) st h Q := Ev_nx rfl
theorem e_astore {k : Nat} : Ev y ((.astore k, a, b, v) :: is) L (.ref o :: st) h Q ↔ Ev y is (L.set a (.ref o)) st h Q := Ev_nx rfl
theorem e_iinc {k : Nat} {m : Int} : Ev y ((.iinc k m, a, b, v) :: is) L st h Q ↔ ∃ x, L[a]? = some (.int x) ∧ Ev y is (L.set a (.int (x + v))) st h Q := by
  constructor
  · intro z
    by_cases c : ∃ x, L[a]? = some (.int x)
    · obtain ⟨x, c⟩ := c
      rw [Ev_nx (L' := L.set a (.int (x + v))) (st' := st) (h' := h) (by simp only [mStep, c])] at z
      exact ⟨x, c, z⟩
    · rw [Ev_er] at z
      · exact z.elim
      · simp only [mStep]
        split
        · rename_i x e; exact absurd ⟨x, e⟩ c
        · rfl
  · rintro ⟨x, c, z⟩
    rw [Ev_nx (L' := L.set a (.int (x + v))) (st' := st) (h' := h) (by simp only [mStep, c])]
    exact z
theorem e_iadd : Ev y ((.iadd, a, b, v) :: is) L (.int q :: .int p :: st) h Q ↔ Ev y is L (.int (p + q) :: st) h Q := Ev_nx rfl
theorem e_isub : Ev y ((.isub, a, b, v) :: is) L (.int q :: .int p :: st) h Q ↔ Ev y is L (.int (p - q) :: st) h Q := Ev_nx rfl
theorem e_imul : Ev y ((.imul, a, b, v) :: is) L (.int q :: .int p :: st) h Q ↔ Ev y is L (.int (p * q) :: st) h Q := Ev_nx rfl
theorem e_iand : Ev y ((.iand, a, b, v) :: is) L (.int q :: .int p :: st) h Q ↔ Ev y is L (.int (p &&& q) :: st) h Q := Ev_nx rfl
theorem e_ishr : Ev y ((.ishr, a, b, v) :: is) L (.int q :: .int p :: st) h Q ↔ Ev y is L (.int (p >>> (q &&& 31)) :: st) h Q := Ev_nx rfl
theorem e_idiv : Ev y ((.idiv, a, b, v) :: is) L (.int q :: .int p :: st) h Q ↔ ¬ q = 0 ∧ Ev y is L (.int (p / q) :: st) h Q := by
  by_cases c : q = 0
  · subst c
    rw [Ev_er (by simp [mStep])]; simp
  · rw [Ev_nx (L' := L) (st' := .int (p / q) :: st) (h' := h) (by simp [mStep, c])]; simp [c]
theorem e_i2c : Ev y ((.i2c, a, b, v) :: is) L (.int p :: st) h Q ↔ Ev y is L (.int (p.toUInt32 % 65536).toInt32 :: st) h Q := Ev_nx rfl
theorem e_dup_i : Ev y ((.dup, a, b, v) :: is) L (.int p :: st) h Q ↔ Ev y is L (.int p :: .int p :: st) h Q := Ev_nx rfl
theorem e_dup_r : Ev y ((.dup, a, b, v) :: is) L (.ref o :: st) h Q ↔ Ev y is L (.ref o :: .ref o :: st) h Q := Ev_nx rfl
theorem e_dup2 : Ev y ((.dup2, a, b, v) :: is) L (.int p :: .ref o :: st) h Q ↔ Ev y is L (.int p :: .ref o :: .int p :: .ref o :: st) h Q := Ev_nx rfl
theorem e_pop : Ev y ((.pop, a, b, v) :: is) L (.int p :: st) h Q ↔ Ev y is L st h Q := Ev_nx rfl
theorem e_goto {k : Int} : Ev y ((.goto k, a, b, v) :: is) L st h Q ↔ Ev y (mB y a) L st h Q := Ev_jp rfl
theorem e_nop : Ev y ((.nop, a, b, v) :: is) L st h Q ↔ Ev y (mB y a) L st h Q := Ev_jp rfl
theorem e_if_eq {k : Int} : Ev y ((.ifCond .eq k, a, b, v) :: is) L (.int p :: st) h Q ↔ if p = 0 then Ev y (mB y a) L st h Q else Ev y is L st h Q := by
  by_cases c : p = 0
  · rw [if_pos c, Ev_jp (t := a) (L' := L) (st' := st) (by simp [mStep, mCmp, c])]
  · rw [if_neg c, Ev_nx (L' := L) (st' := st) (h' := h) (by simp [mStep, mCmp]; first | exact fun z => absurd z c | (simpa using c) | exact c)]
theorem e_if_ne {k : Int} : Ev y ((.ifCond .ne k, a, b, v) :: is) L (.int p :: st) h Q ↔ if ¬ p = 0 then Ev y (mB y a) L st h Q else Ev y is L st h Q := by
  by_cases c : ¬ p = 0
  · rw [if_pos c, Ev_jp (t := a) (L' := L) (st' := st) (by simp [mStep, mCmp, c])]
  · rw [if_neg c, Ev_nx (L' := L) (st' := st) (h' := h) (by simp [mStep, mCmp]; first | exact fun z => absurd z c | (simpa using c) | exact c)]
theorem e_if_lt {k : Int} : Ev y ((.ifCond .lt k, a, b, v) :: is) L (.int p :: st) h Q ↔ if p < 0 then Ev y (mB y a) L st h Q else Ev y is L st h Q := by
  by_cases c : p < 0
  · rw [if_pos c, Ev_jp (t := a) (L' := L) (st' := st) (by simp [mStep, mCmp, c])]
  · rw [if_neg c, Ev_nx (L' := L) (st' := st) (h' := h) (by simp [mStep, mCmp]; first | exact fun z => absurd z c | (simpa using c) | exact c)]
theorem e_if_ge {k : Int} : Ev y ((.ifCond .ge k, a, b, v) :: is) L (.int p :: st) h Q ↔ if 0 ≤ p then Ev y (mB y a) L st h Q else Ev y is L st h Q := by
  by_cases c : 0 ≤ p
  · rw [if_pos c, Ev_jp (t := a) (L' := L) (st' := st) (by simp [mStep, mCmp, c])]
  · rw [if_neg c, Ev_nx (L' := L) (st' := st) (h' := h) (by simp [mStep, mCmp]; first | exact fun z => absurd z c | (simpa using c) | exact c)]
theorem e_if_gt {k : Int} : Ev y ((.ifCond .gt k, a, b, v) :: is) L (.int p :: st) h Q ↔ if 0 < p then Ev y (mB y a) L st h Q else Ev y is L st h Q := by
  by_cases c : 0 < p
  · rw [if_pos c, Ev_jp (t := a) (L' := L) (st' := st) (by simp [mStep, mCmp, c])]
  · rw [if_neg c, Ev_nx (L' := L) (st' := st) (h' := h) (by simp [mStep, mCmp]; first | exact fun z => absurd z c | (simpa using c) | exact c)]
theorem e_if_le {k : Int} : Ev y ((.ifCond .le k, a, b, v) :: is) L (.int p :: st) h Q ↔ if p ≤ 0 then Ev y (mB y a) L st h Q else Ev y is L st h Q := by
  by_cases c : p ≤ 0
  · rw [if_pos c, Ev_jp (t := a) (L' := L) (st' := st) (by simp [mStep, mCmp, c])]
  · rw [if_neg c, Ev_nx (L' := L) (st' := st) (h' := h) (by simp [mStep, mCmp]; first | exact fun z => absurd z c | (simpa using c) | exact c)]
theorem e_icmp_eq {k : Int} : Ev y ((.if_icmp .eq k, a, b, v) :: is) L (.int q :: .int p :: st) h Q ↔ if p = q then Ev y (mB y a) L st h Q else Ev y is L st h Q := by
  by_cases c : p = q
  · rw [if_pos c, Ev_jp (t := a) (L' := L) (st' := st) (by simp [mStep, mCmp, c])]
  · rw [if_neg c, Ev_nx (L' := L) (st' := st) (h' := h) (by simp [mStep, mCmp]; first | exact fun z => absurd z c | (simpa using c) | exact c)]
theorem e_icmp_ne {k : Int} : Ev y ((.if_icmp .ne k, a, b, v) :: is) L (.int q :: .int p :: st) h Q ↔ if ¬ p = q then Ev y (mB y a) L st h Q else Ev y is L st h Q := by
  by_cases c : ¬ p = q
  · rw [if_pos c, Ev_jp (t := a) (L' := L) (st' := st) (by simp [mStep, mCmp, c])]
  · rw [if_neg c, Ev_nx (L' := L) (st' := st) (h' := h) (by simp [mStep, mCmp]; first | exact fun z => absurd z c | (simpa using c) | exact c)]
theorem e_icmp_lt {k : Int} : Ev y ((.if_icmp .lt k, a, b, v) :: is) L (.int q :: .int p :: st) h Q ↔ if p < q then Ev y (mB y a) L st h Q else Ev y is L st h Q := by
  by_cases c : p < q
  · rw [if_pos c, Ev_jp (t := a) (L' := L) (st' := st) (by simp [mStep, mCmp, c])]
  · rw [if_neg c, Ev_nx (L' := L) (st' := st) (h' := h) (by simp [mStep, mCmp]; first | exact fun z => absurd z c | (simpa using c) | exact c)]
theorem e_icmp_ge {k : Int} : Ev y ((.if_icmp .ge k, a, b, v) :: is) L (.int q :: .int p :: st) h Q ↔ if q ≤ p then Ev y (mB y a) L st h Q else Ev y is L st h Q := by
  by_cases c : q ≤ p
  · rw [if_pos c, Ev_jp (t := a) (L' := L) (st' := st) (by simp [mStep, mCmp, c])]
  · rw [if_neg c, Ev_nx (L' := L) (st' := st) (h' := h) (by simp [mStep, mCmp]; first | exact fun z => absurd z c | (simpa using c) | exact c)]
theorem e_icmp_gt {k : Int} : Ev y ((.if_icmp .gt k, a, b, v) :: is) L (.int q :: .int p :: st) h Q ↔ if q < p then Ev y (mB y a) L st h Q else Ev y is L st h Q := by
  by_cases c : q < p
  · rw [if_pos c, Ev_jp (t := a) (L' := L) (st' := st) (by simp [mStep, mCmp, c])]
  · rw [if_neg c, Ev_nx (L' := L) (st' := st) (h' := h) (by simp [mStep, mCmp]; first | exact fun z => absurd z c | (simpa using c) | exact c)]
theorem e_icmp_le {k : Int} : Ev y ((.if_icmp .le k, a, b, v) :: is) L (.int q :: .int p :: st) h Q ↔ if p ≤ q then Ev y (mB y a) L st h Q else Ev y is L st h Q := by
  by_cases c : p ≤ q
  · rw [if_pos c, Ev_jp (t := a) (L' := L) (st' := st) (by simp [mStep, mCmp, c])]
  · rw [if_neg c, Ev_nx (L' := L) (st' := st) (h' := h) (by simp [mStep, mCmp]; first | exact fun z => absurd z c | (simpa using c) | exact c)]
theorem e_tsw {d lo hi : Int} {offs : Array Int} : Ev y ((.tableswitch d lo hi offs, a, b, v) :: is) L (.int p :: st) h Q ↔ Ev y (mB y (mTgt a d lo offs p)) L st h Q := Ev_jp rfl
theorem e_ret0 : Ev y ((.ireturn, a, b, 0) :: is) L [.int p] h Q ↔ Q (some (.int p)) h := Ev_rt (by simp [mStep, mNar])
theorem e_ret1 : Ev y ((.ireturn, a, b, 1) :: is) L [.int p] h Q ↔ (p = 0 ∨ p = 1) ∧ Q (some (.int p)) h := by
  by_cases c : p = 0 ∨ p = 1
  · rw [Ev_rt (v := some (.int p)) (h' := h) (by simp [mStep, mNar, c])]; simp [c]
  · rw [Ev_er (by simp [mStep, mNar]; simpa using c)]; simp [c]
theorem e_retv (hn : mNar v p = true) : Ev y ((.ireturn, a, b, v) :: is) L [.int p] h Q ↔ Q (some (.int p)) h := Ev_rt (by simp only [mStep, hn, if_true])
theorem e_retn : Ev y ((.return_, a, b, v) :: is) L [] h Q ↔ Q none h := Ev_rt rfl
theorem e_getI {k : Nat} : Ev y ((.getfield k, a, b, 0) :: is) L (.ref o :: st) h Q ↔ h.1.2.2.1 o = (1, a) ∧ Ev y is L (.int (h.2.2 o b) :: st) h Q := by
  by_cases c : h.1.2.2.1 o = (1, a)
  · rw [Ev_nx (L' := L) (st' := .int (h.2.2 o b) :: st) (h' := h) (by simp [mStep, c])]; simp [c]
  · rw [Ev_er (by simp [mStep, c])]; simp [c]
theorem e_getZ {k : Nat} : Ev y ((.getfield k, a, b, 1) :: is) L (.ref o :: st) h Q ↔ h.1.2.2.1 o = (1, a) ∧ Ev y is L (.int (h.2.2 o b) :: st) h Q := by
  by_cases c : h.1.2.2.1 o = (1, a)
  · rw [Ev_nx (L' := L) (st' := .int (h.2.2 o b) :: st) (h' := h) (by simp [mStep, c])]; simp [c]
  · rw [Ev_er (by simp [mStep, c])]; simp [c]
theorem e_getR {k : Nat} : Ev y ((.getfield k, a, b, 2) :: is) L (.ref o :: st) h Q ↔ h.1.2.2.1 o = (1, a) ∧ ∃ r, h.2.1 o b = some r ∧ Ev y is L (.ref r :: st) h Q := by
  by_cases c : h.1.2.2.1 o = (1, a)
  · cases e : h.2.1 o b with
    | some r => rw [Ev_nx (L' := L) (st' := .ref r :: st) (h' := h) (by simp [mStep, c, e])]; simp [c]
    | none => rw [Ev_er (by simp [mStep, c, e])]; simp
  · rw [Ev_er (by simp [mStep, c])]; simp [c]
theorem e_getV {k : Nat} : Ev y ((.getfield k, a, b, 4) :: is) L (.ref o :: st) h Q ↔ mStr o = true ∧ Ev y is L (.ref (o + 100000) :: st) h Q := by
  by_cases c : mStr o = true
  · rw [Ev_nx (L' := L) (st' := .ref (o + 100000) :: st) (h' := h) (by simp [mStep, c])]; simp [c]
  · rw [Ev_er (by simp [mStep, c])]; simp [c]
theorem e_getC {k : Nat} : Ev y ((.getfield k, a, b, 5) :: is) L (.ref o :: st) h Q ↔ mStr o = true ∧ Ev y is L (.int 0 :: st) h Q := by
  by_cases c : mStr o = true
  · rw [Ev_nx (L' := L) (st' := .int 0 :: st) (h' := h) (by simp [mStep, c])]; simp [c]
  · rw [Ev_er (by simp [mStep, c])]; simp [c]
theorem e_putI {k : Nat} : Ev y ((.putfield k, a, b, 0) :: is) L (.int x :: .ref o :: st) h Q ↔ h.1.2.2.1 o = (1, a) ∧ Ev y is L st (h.1, h.2.1, mSet h.2.2 o b x) Q := by
  by_cases c : h.1.2.2.1 o = (1, a)
  · rw [Ev_nx (L' := L) (st' := st) (h' := (h.1, h.2.1, mSet h.2.2 o b x)) (by simp [mStep, c])]; simp [c]
  · rw [Ev_er (by simp [mStep, c])]; simp [c]
theorem e_putZ {k : Nat} : Ev y ((.putfield k, a, b, 1) :: is) L (.int x :: .ref o :: st) h Q ↔ h.1.2.2.1 o = (1, a) ∧ (x = 0 ∨ x = 1) ∧ Ev y is L st (h.1, h.2.1, mSet h.2.2 o b x) Q := by
  by_cases c : h.1.2.2.1 o = (1, a) ∧ (x = 0 ∨ x = 1)
  · rw [Ev_nx (L' := L) (st' := st) (h' := (h.1, h.2.1, mSet h.2.2 o b x)) (by simp only [mStep]; rw [if_pos ⟨c.1, Or.inr ⟨trivial, c.2⟩⟩])]; simp only [c.1, c.2, true_and]
  · rw [Ev_er (by simp only [mStep]; rw [if_neg (fun z => c ⟨z.1, z.2.elim (fun w => absurd w (by decide)) (fun w => w.2)⟩)])]
    constructor
    · exact False.elim
    · rintro ⟨c1, c2, -⟩; exact c ⟨c1, c2⟩
theorem e_putF {k : Nat} : Ev y ((.putfield k, a, b, 5) :: is) L (.ref r :: .ref o :: st) h Q ↔ h.1.2.2.1 o = (1, a) ∧ r < 500000 ∧ Ev y is L st (h.1, mSetR h.2.1 o b (some r), h.2.2) Q := by
  by_cases c : h.1.2.2.1 o = (1, a) ∧ r < 500000
  · rw [Ev_nx (L' := L) (st' := st) (h' := (h.1, mSetR h.2.1 o b (some r), h.2.2)) (by simp [mStep, c.1, c.2])]; simp [c.1, c.2]
  · rw [Ev_er (by simp only [mStep]; rw [if_neg (by rintro ⟨c1, -, c2⟩; exact c ⟨c1, c2⟩)])]
    constructor
    · exact False.elim
    · rintro ⟨c1, c2, -⟩; exact c ⟨c1, c2⟩
theorem e_gst0 {k : Nat} : Ev y ((.getstatic k, a, b, 0) :: is) L st h Q ↔ Ev y is L (.int 1 :: st) h Q := Ev_nx (by simp [mStep])
theorem e_gst1 {k : Nat} : Ev y ((.getstatic k, a, b, 1) :: is) L st h Q ↔ Ev y is L (.ref 3000000 :: st) h Q := Ev_nx (by simp [mStep])
theorem e_sld : Ev y ((.iaload, a, b, 1) :: is) L (.int p :: .ref o :: st) h Q ↔ (o = 2000000 ∧ mIn p h.1.2.2.2.1 = true) ∧ Ev y is L (.int (h.1.2.2.2.2 p.toNatClampNeg) :: st) h Q := by
  by_cases c : o = 2000000 ∧ mIn p h.1.2.2.2.1 = true
  · rw [Ev_nx (L' := L) (st' := .int (h.1.2.2.2.2 p.toNatClampNeg) :: st) (h' := h) (by simp [mStep, c.1, c.2])]; simp [c.1, c.2]
  · rw [Ev_er (by simp only [mStep, if_true]; rw [if_neg c])]; simp only [c, false_and]
theorem e_iald : Ev y ((.iaload, a, b, 0) :: is) L (.int p :: .ref o :: st) h Q ↔ ((h.1.2.2.1 o).1 = 2 ∧ mIn p (h.1.2.2.1 o).2 = true) ∧ Ev y is L (.int (h.2.2 o p.toNatClampNeg) :: st) h Q := by
  by_cases c : (h.1.2.2.1 o).1 = 2 ∧ mIn p (h.1.2.2.1 o).2 = true
  · rw [Ev_nx (L' := L) (st' := .int (h.2.2 o p.toNatClampNeg) :: st) (h' := h) (by simp [mStep, c.1, c.2])]; simp [c.1, c.2]
  · rw [Ev_er (by simp only [mStep]; rw [if_neg (by decide), if_neg c])]; simp only [c, false_and]
theorem e_cald : Ev y ((.caload, a, b, v) :: is) L (.int p :: .ref o :: st) h Q ↔ ((h.1.2.2.1 o).1 = 3 ∧ mIn p (h.1.2.2.1 o).2 = true) ∧ Ev y is L (.int (h.2.2 o p.toNatClampNeg) :: st) h Q := by
  by_cases c : (h.1.2.2.1 o).1 = 3 ∧ mIn p (h.1.2.2.1 o).2 = true
  · rw [Ev_nx (L' := L) (st' := .int (h.2.2 o p.toNatClampNeg) :: st) (h' := h) (by simp [mStep, c.1, c.2])]; simp [c.1, c.2]
  · rw [Ev_er (by simp only [mStep]; rw [if_neg c])]; simp only [c, false_and]
theorem e_bald : Ev y ((.baload, a, b, v) :: is) L (.int p :: .ref o :: st) h Q ↔ (mStB o = true ∧ mIn p (mLen (o - 1100000)) = true) ∧ Ev y is L (.int ((mByt (o - 1100000)).getD p.toNatClampNeg 0) :: st) h Q := by
  by_cases c : mStB o = true ∧ mIn p (mLen (o - 1100000)) = true
  · rw [Ev_nx (L' := L) (st' := .int ((mByt (o - 1100000)).getD p.toNatClampNeg 0) :: st) (h' := h) (by simp only [mStep]; rw [if_pos c])]; simp only [c, true_and, and_self]
  · rw [Ev_er (by simp only [mStep]; rw [if_neg c])]; simp only [c, false_and]
theorem e_iast : Ev y ((.iastore, a, b, v) :: is) L (.int x :: .int p :: .ref o :: st) h Q ↔ ((h.1.2.2.1 o).1 = 2 ∧ mIn p (h.1.2.2.1 o).2 = true) ∧ Ev y is L st (h.1, h.2.1, mSet h.2.2 o p.toNatClampNeg x) Q := by
  by_cases c : (h.1.2.2.1 o).1 = 2 ∧ mIn p (h.1.2.2.1 o).2 = true
  · rw [Ev_nx (L' := L) (st' := st) (h' := (h.1, h.2.1, mSet h.2.2 o p.toNatClampNeg x)) (by simp only [mStep]; rw [if_pos c])]; simp only [c, true_and, and_self]
  · rw [Ev_er (by simp only [mStep]; rw [if_neg c])]; simp only [c, false_and]
theorem e_cast : Ev y ((.castore, a, b, v) :: is) L (.int x :: .int p :: .ref o :: st) h Q ↔ ((h.1.2.2.1 o).1 = 3 ∧ mIn p (h.1.2.2.1 o).2 = true) ∧ Ev y is L st (h.1, h.2.1, mSet h.2.2 o p.toNatClampNeg (x.toUInt32 % 65536).toInt32) Q := by
  by_cases c : (h.1.2.2.1 o).1 = 3 ∧ mIn p (h.1.2.2.1 o).2 = true
  · rw [Ev_nx (L' := L) (st' := st) (h' := (h.1, h.2.1, mSet h.2.2 o p.toNatClampNeg (x.toUInt32 % 65536).toInt32)) (by simp only [mStep]; rw [if_pos c])]; simp only [c, true_and, and_self]
  · rw [Ev_er (by simp only [mStep]; rw [if_neg c])]; simp only [c, false_and]
theorem e_aald : Ev y ((.aaload, a, b, v) :: is) L (.int p :: .ref o :: st) h Q ↔ ((a = 4 ∨ a = 5) ∧ (h.1.2.2.1 o).1 = a ∧ mIn p (h.1.2.2.1 o).2 = true) ∧ ∃ r, h.2.1 o p.toNatClampNeg = some r ∧ Ev y is L (.ref r :: st) h Q := by
  by_cases c : (a = 4 ∨ a = 5) ∧ (h.1.2.2.1 o).1 = a ∧ mIn p (h.1.2.2.1 o).2 = true
  · cases e : h.2.1 o p.toNatClampNeg with
    | some r => rw [Ev_nx (L' := L) (st' := .ref r :: st) (h' := h) (by simp only [mStep]; rw [if_pos c, e])]; simp only [c, true_and, and_self, Option.some.injEq, exists_eq_left']
    | none => rw [Ev_er (by simp only [mStep]; rw [if_pos c, e])]; simp
  · rw [Ev_er (by simp only [mStep]; rw [if_neg c])]; simp only [c, false_and]
theorem e_aast : Ev y ((.aastore, a, b, v) :: is) L (.ref r :: .int p :: .ref o :: st) h Q ↔ (((a = 4 ∧ b = 6) ∨ (a = 5 ∧ b = 4)) ∧ (h.1.2.2.1 o).1 = a ∧ mIn p (h.1.2.2.1 o).2 = true ∧ h.1.2.2.1 r = (1, b)) ∧ Ev y is L st (h.1, mSetR h.2.1 o p.toNatClampNeg (some r), h.2.2) Q := by
  by_cases c : ((a = 4 ∧ b = 6) ∨ (a = 5 ∧ b = 4)) ∧ (h.1.2.2.1 o).1 = a ∧ mIn p (h.1.2.2.1 o).2 = true ∧ h.1.2.2.1 r = (1, b)
  · rw [Ev_nx (L' := L) (st' := st) (h' := (h.1, mSetR h.2.1 o p.toNatClampNeg (some r), h.2.2)) (by simp only [mStep]; rw [if_pos c])]; simp only [c, true_and, and_self]
  · rw [Ev_er (by simp only [mStep]; rw [if_neg c])]; simp only [c, false_and]
theorem e_alen : Ev y ((.arraylength, a, b, 0) :: is) L (.ref o :: st) h Q ↔ (h.1.2.2.1 o).1 = 2 ∧ Ev y is L (.int (nI (h.1.2.2.1 o).2) :: st) h Q := by
  by_cases c : (h.1.2.2.1 o).1 = 2
  · rw [Ev_nx (L' := L) (st' := .int (nI (h.1.2.2.1 o).2) :: st) (h' := h) (by simp [mStep, c])]; simp [c]
  · rw [Ev_er (by simp [mStep, c])]; simp [c]
theorem e_slen : Ev y ((.arraylength, a, b, 1) :: is) L (.ref o :: st) h Q ↔ o = 2000000 ∧ Ev y is L (.int (nI h.1.2.2.2.1) :: st) h Q := by
  by_cases c : o = 2000000
  · rw [Ev_nx (L' := L) (st' := .int (nI h.1.2.2.2.1) :: st) (h' := h) (by simp [mStep, c])]; simp [c]
  · rw [Ev_er (by simp [mStep, c])]; simp [c]
theorem e_blen : Ev y ((.arraylength, a, b, 2) :: is) L (.ref o :: st) h Q ↔ mStB o = true ∧ Ev y is L (.int (nI (mLen (o - 1100000))) :: st) h Q := by
  by_cases c : mStB o = true
  · rw [Ev_nx (L' := L) (st' := .int (nI (mLen (o - 1100000))) :: st) (h' := h) (by simp [mStep, c])]; simp [c]
  · rw [Ev_er (by simp [mStep, c])]; simp [c]
theorem e_newa {t : ArrayType} : Ev y ((.newarray t, a, b, v) :: is) L (.int x :: st) h Q ↔ ((a = 2 ∨ a = 3) ∧ 0 ≤ x ∧ x ≤ 100000 ∧ h.1.1 < 500000) ∧
    Ev y is L (.ref h.1.1 :: st) ((h.1.1 + 1, h.1.2.1 + x.toNatClampNeg, mShp h.1.2.2.1 h.1.1 (a, x.toNatClampNeg), h.1.2.2.2), h.2.1, fun b j => if b = h.1.1 then 0 else h.2.2 b j) Q := by
  by_cases c : (a = 2 ∨ a = 3) ∧ 0 ≤ x ∧ x ≤ 100000 ∧ h.1.1 < 500000
  · rw [Ev_nx (L' := L) (st' := .ref h.1.1 :: st) (h' := ((h.1.1 + 1, h.1.2.1 + x.toNatClampNeg, mShp h.1.2.2.1 h.1.1 (a, x.toNatClampNeg), h.1.2.2.2), h.2.1, fun b j => if b = h.1.1 then 0 else h.2.2 b j)) (by simp only [mStep]; rw [if_pos c])]; simp only [c, true_and, and_self]
  · rw [Ev_er (by simp only [mStep]; rw [if_neg c])]; simp only [c, false_and]
theorem e_newq {k : Nat} : Ev y ((.anewarray k, a, b, v) :: is) L (.int x :: st) h Q ↔ (((a = 4 ∧ b = 6) ∨ (a = 5 ∧ b = 4)) ∧ 0 ≤ x ∧ x ≤ 100000 ∧ h.1.1 < 500000) ∧
    Ev y is L (.ref h.1.1 :: st) ((h.1.1 + 1, h.1.2.1 + x.toNatClampNeg, mShp h.1.2.2.1 h.1.1 (a, x.toNatClampNeg), h.1.2.2.2), fun b j => if b = h.1.1 then none else h.2.1 b j, h.2.2) Q := by
  by_cases c : ((a = 4 ∧ b = 6) ∨ (a = 5 ∧ b = 4)) ∧ 0 ≤ x ∧ x ≤ 100000 ∧ h.1.1 < 500000
  · rw [Ev_nx (L' := L) (st' := .ref h.1.1 :: st) (h' := ((h.1.1 + 1, h.1.2.1 + x.toNatClampNeg, mShp h.1.2.2.1 h.1.1 (a, x.toNatClampNeg), h.1.2.2.2), fun b j => if b = h.1.1 then none else h.2.1 b j, h.2.2)) (by simp only [mStep]; rw [if_pos c])]; simp only [c, true_and, and_self]
  · rw [Ev_er (by simp only [mStep]; rw [if_neg c])]; simp only [c, false_and]
theorem e_new {k : Nat} : Ev y ((.new k, a, b, 0) :: is) L st h Q ↔ h.1.1 < 500000 ∧
    Ev y is L (.ref h.1.1 :: st) ((h.1.1 + 1, h.1.2.1 + b, mShp h.1.2.2.1 h.1.1 (1, a), h.1.2.2.2), fun b j => if b = h.1.1 then none else h.2.1 b j, fun b j => if b = h.1.1 then 0 else h.2.2 b j) Q := by
  by_cases c : h.1.1 < 500000
  · rw [Ev_nx (L' := L) (st' := .ref h.1.1 :: st) (h' := ((h.1.1 + 1, h.1.2.1 + b, mShp h.1.2.2.1 h.1.1 (1, a), h.1.2.2.2), fun b j => if b = h.1.1 then none else h.2.1 b j, fun b j => if b = h.1.1 then 0 else h.2.2 b j)) (by simp [mStep, c])]; simp only [c, true_and]
  · rw [Ev_er (by simp [mStep, c])]; simp [c]
theorem e_oinit {k : Nat} : Ev y ((.invokespecial k, a, b, 0) :: is) L (.ref o :: st) h Q ↔ (st.length ≤ 4 ∧ o < 1000000) ∧ Ev y is L st h Q := by
  by_cases c : st.length ≤ 4 ∧ o < 1000000
  · rw [Ev_nx (L' := L) (st' := st) (h' := h) (by simp only [mStep]; rw [if_pos trivial, if_pos c])]; simp only [c, true_and, and_self]
  · rw [Ev_er (by simp only [mStep]; rw [if_pos trivial, if_neg c])]; simp only [c, false_and]
theorem e_ctor {k : Nat} : Ev y ((.invokespecial k, a, b, 1) :: is) L st h Q ↔ ∃ o as, (st.take b).reverse = .ref o :: as ∧ ((b ≤ st.length ∧ st.length ≤ b + 4) ∧ o < 1000000) ∧ EvM a (.ref o :: as) h (fun v h' => Ev y is L (v.toList ++ st.drop b) h' Q) := by
  constructor
  · intro z
    by_cases c : b ≤ st.length ∧ st.length ≤ b + 4
    · by_cases hs : ∃ o as, (st.take b).reverse = .ref o :: as
      · obtain ⟨o, as, hs⟩ := hs
        by_cases d : o < 1000000
        · rw [Ev_cl (z := a) (as := .ref o :: as) (st' := st.drop b) (by simp only [mStep]; rw [if_neg (by decide), if_pos ⟨trivial, c⟩, hs]; dsimp only; rw [if_pos d])] at z
          exact ⟨o, as, hs, ⟨c, d⟩, z⟩
        · rw [Ev_er (by simp only [mStep]; rw [if_neg (by decide), if_pos ⟨trivial, c⟩, hs]; dsimp only; rw [if_neg d])] at z
          exact z.elim
      · rw [Ev_er] at z
        · exact z.elim
        · simp only [mStep]
          rw [if_neg (by decide), if_pos ⟨trivial, c⟩]
          split
          · rename_i o as e; exact absurd ⟨o, as, e⟩ hs
          · rfl
    · rw [Ev_er (by simp only [mStep]; rw [if_neg (by decide), if_neg (fun z => c z.2)])] at z
      exact z.elim
  · rintro ⟨o, as, hs, ⟨c, d⟩, z⟩
    rw [Ev_cl (z := a) (as := .ref o :: as) (st' := st.drop b) (by simp only [mStep]; rw [if_neg (by decide), if_pos ⟨trivial, c⟩, hs]; dsimp only; rw [if_pos d])]
    exact z
theorem e_virt {k : Nat} : Ev y ((.invokevirtual k, a, b, 0) :: is) L st h Q ↔ ∃ o as, (st.take b).reverse = .ref o :: as ∧ ((b ≤ st.length ∧ st.length ≤ b + 4) ∧ ((mRc a = 10 ∧ mStr o = true) ∨ (h.1.2.2.1 o = (1, mRc a) ∧ mRc a < 9))) ∧ EvM a (.ref o :: as) h (fun v h' => Ev y is L (v.toList ++ st.drop b) h' Q) := by
  constructor
  · intro z
    by_cases c : b ≤ st.length ∧ st.length ≤ b + 4
    · by_cases hs : ∃ o as, (st.take b).reverse = .ref o :: as
      · obtain ⟨o, as, hs⟩ := hs
        by_cases d : (mRc a = 10 ∧ mStr o = true) ∨ (h.1.2.2.1 o = (1, mRc a) ∧ mRc a < 9)
        · rw [Ev_cl (z := a) (as := .ref o :: as) (st' := st.drop b) (by simp only [mStep]; rw [if_pos ⟨trivial, c⟩, hs]; dsimp only; rw [if_pos d])] at z
          exact ⟨o, as, hs, ⟨c, d⟩, z⟩
        · rw [Ev_er (by simp only [mStep]; rw [if_pos ⟨trivial, c⟩, hs]; dsimp only; rw [if_neg d])] at z
          exact z.elim
      · rw [Ev_er] at z
        · exact z.elim
        · simp only [mStep]
          rw [if_pos ⟨trivial, c⟩]
          split
          · rename_i o as e; exact absurd ⟨o, as, e⟩ hs
          · rfl
    · rw [Ev_er (by simp only [mStep]; rw [if_neg (fun z => c z.2)])] at z
      exact z.elim
  · rintro ⟨o, as, hs, ⟨c, d⟩, z⟩
    rw [Ev_cl (z := a) (as := .ref o :: as) (st' := st.drop b) (by simp only [mStep]; rw [if_pos ⟨trivial, c⟩, hs]; dsimp only; rw [if_pos d])]
    exact z
theorem e_stat {k : Nat} : Ev y ((.invokestatic k, a, b, 0) :: is) L st h Q ↔ (b ≤ st.length ∧ st.length ≤ b + 4) ∧ EvM a (st.take b).reverse h (fun v h' => Ev y is L (v.toList ++ st.drop b) h' Q) := by
  by_cases c : b ≤ st.length ∧ st.length ≤ b + 4
  · rw [Ev_cl (z := a) (as := (st.take b).reverse) (st' := st.drop b) (by simp [mStep, c.1, c.2])]; simp only [c, true_and, and_self]
  · rw [Ev_er (by simp only [mStep, if_true]; rw [if_neg c])]; simp only [c, false_and]
theorem e_min {k : Nat} : Ev y ((.invokestatic k, a, b, 1) :: is) L (.int q :: .int p :: st) h Q ↔ st.length ≤ 4 ∧ Ev y is L (.int (if q < p then q else p) :: st) h Q := by
  by_cases c : st.length ≤ 4
  · rw [Ev_nx (L' := L) (st' := .int (if q < p then q else p) :: st) (h' := h) (by simp [mStep, c])]; simp only [c, true_and]
  · rw [Ev_er (by simp [mStep, c])]; simp only [c, false_and]
theorem e_copy {k : Nat} {n dp sp : Int32} : Ev y ((.invokestatic k, a, b, 2) :: is) L (.int n :: .int dp :: .ref r :: .int sp :: .ref o :: st) h Q ↔
    (0 ≤ sp ∧ 0 ≤ dp ∧ 0 ≤ n ∧ (h.1.2.2.1 o).1 = 2 ∧ (h.1.2.2.1 r).1 = 2 ∧ sp.toNatClampNeg + n.toNatClampNeg ≤ (h.1.2.2.1 o).2 ∧ dp.toNatClampNeg + n.toNatClampNeg ≤ (h.1.2.2.1 r).2 ∧ st.length ≤ 4) ∧
    Ev y is L st (h.1, h.2.1, mCpy h.2.2 o sp.toNatClampNeg r dp.toNatClampNeg n.toNatClampNeg) Q := by
  by_cases c : 0 ≤ sp ∧ 0 ≤ dp ∧ 0 ≤ n ∧ (h.1.2.2.1 o).1 = 2 ∧ (h.1.2.2.1 r).1 = 2 ∧ sp.toNatClampNeg + n.toNatClampNeg ≤ (h.1.2.2.1 o).2 ∧ dp.toNatClampNeg + n.toNatClampNeg ≤ (h.1.2.2.1 r).2 ∧ st.length ≤ 4
  · rw [Ev_nx (L' := L) (st' := st) (h' := (h.1, h.2.1, mCpy h.2.2 o sp.toNatClampNeg r dp.toNatClampNeg n.toNatClampNeg)) (by simp only [mStep]; rw [if_neg (by decide), if_neg (by decide), if_pos (by decide), if_pos c])]; simp only [c, true_and, and_self]
  · rw [Ev_er (by simp only [mStep]; rw [if_neg (by decide), if_neg (by decide), if_pos (by decide), if_neg c])]; simp only [c, false_and]
theorem e_ldc {k : Nat} : Ev y ((.ldc k, a, b, v) :: is) L st h Q ↔ Ev y is L (.ref (1000000 + a) :: st) h Q := Ev_nx rfl
end EVROWS
end
section
/-! NUMBERS: what counts is nI of a natural number -/
theorem n_add (a b : Nat) : nI a + nI b = nI (a + b) := by
  unfold nI
  exact (Int32.ofNat_add a b).symm
theorem n_mul (a b : Nat) : nI a * nI b = nI (a * b) := by
  unfold nI
  exact (Int32.ofNat_mul a b).symm
theorem n_sub {a b : Nat} (h : b ≤ a) : nI a - nI b = nI (a - b) := by
  have h1 := n_add (a - b) b
  rw [Nat.sub_add_cancel h] at h1
  rw [← h1, Int32.add_sub_cancel]
theorem n_cl {n : Nat} (h : n < 2147483648) : (nI n).toNatClampNeg = n := nI_clamp h
theorem n_in {n N : Nat} (h : n < N) (h2 : N ≤ 1000000) : mIn (nI n) N = true := by
  simp only [mIn, Bool.and_eq_true, decide_eq_true_eq]
  exact ⟨nI_pos' (by omega), by rw [n_cl (by omega)]; exact h⟩
theorem n_eq {a b : Nat} (ha : a < 2147483648) (hb : b < 2147483648) : nI a = nI b ↔ a = b := by
  constructor
  · intro h
    have := congrArg Int32.toInt h
    rw [nI_toInt ha, nI_toInt hb] at this
    omega
  · intro h; rw [h]
theorem n_lt {a b : Nat} (ha : a < 2147483648) (hb : b < 2147483648) : nI a < nI b ↔ a < b := by
  rw [Int32.lt_iff_toInt_lt, nI_toInt ha, nI_toInt hb]; omega
theorem n_le {a b : Nat} (ha : a < 2147483648) (hb : b < 2147483648) : nI a ≤ nI b ↔ a ≤ b := by
  rw [Int32.le_iff_toInt_le, nI_toInt ha, nI_toInt hb]; omega
theorem n_div {a b : Nat} (ha : a < 2147483648) (hb : b < 2147483648) : nI a / nI b = nI (a / b) := by
  apply Int32.toInt_inj.mp
  have h1 : a / b < 2147483648 := Nat.lt_of_le_of_lt (Nat.div_le_self a b) ha
  have h2 : ((a : Int).tdiv (b : Int)) = ((a / b : Nat) : Int) := by
    rw [Int.tdiv_eq_ediv_of_nonneg (by omega)]; rfl
  rw [nI_toInt h1, Int32.toInt_div, nI_toInt ha, nI_toInt hb, h2]
  generalize a / b = q at h1
  apply Int.bmod_eq_of_le
  · show -((2 ^ 32 : Nat) : Int) / 2 ≤ _
    omega
  · show _ < (((2 ^ 32 : Nat) : Int) + 1) / 2
    omega
theorem o_n (b : Nat) : (OfNat.ofNat b : Int32) = nI (OfNat.ofNat b) := rfl
theorem o_add_l {a b : Nat} : nI a + (no_index (OfNat.ofNat b) : Int32) = nI (a + OfNat.ofNat b) := n_add a b
theorem o_add_r {a b : Nat} : (no_index (OfNat.ofNat b) : Int32) + nI a = nI (OfNat.ofNat b + a) := n_add b a
theorem o_mul_l {a b : Nat} : nI a * (no_index (OfNat.ofNat b) : Int32) = nI (a * OfNat.ofNat b) := n_mul a b
theorem o_mul_r {a b : Nat} : (no_index (OfNat.ofNat b) : Int32) * nI a = nI (OfNat.ofNat b * a) := n_mul b a
theorem o_sub_l {a b : Nat} (h : OfNat.ofNat b ≤ a) : nI a - (no_index (OfNat.ofNat b) : Int32) = nI (a - OfNat.ofNat b) := n_sub h
theorem o_sub_r {a b : Nat} (h : a ≤ OfNat.ofNat b) : (no_index (OfNat.ofNat b) : Int32) - nI a = nI (OfNat.ofNat b - a) := n_sub h
theorem o_lt_l {a b : Nat} (ha : a < 2147483648) (hb : OfNat.ofNat b < 2147483648) : nI a < (no_index (OfNat.ofNat b) : Int32) ↔ a < OfNat.ofNat b := n_lt ha hb
theorem o_lt_r {a b : Nat} (ha : a < 2147483648) (hb : OfNat.ofNat b < 2147483648) : (no_index (OfNat.ofNat b) : Int32) < nI a ↔ OfNat.ofNat b < a := n_lt hb ha
theorem o_le_l {a b : Nat} (ha : a < 2147483648) (hb : OfNat.ofNat b < 2147483648) : nI a ≤ (no_index (OfNat.ofNat b) : Int32) ↔ a ≤ OfNat.ofNat b := n_le ha hb
theorem o_le_r {a b : Nat} (ha : a < 2147483648) (hb : OfNat.ofNat b < 2147483648) : (no_index (OfNat.ofNat b) : Int32) ≤ nI a ↔ OfNat.ofNat b ≤ a := n_le hb ha
theorem o_eq_l {a b : Nat} (ha : a < 2147483648) (hb : OfNat.ofNat b < 2147483648) : nI a = (no_index (OfNat.ofNat b) : Int32) ↔ a = OfNat.ofNat b := n_eq ha hb
theorem o_eq_r {a b : Nat} (ha : a < 2147483648) (hb : OfNat.ofNat b < 2147483648) : (no_index (OfNat.ofNat b) : Int32) = nI a ↔ OfNat.ofNat b = a := n_eq hb ha
theorem o_div_l {a b : Nat} (ha : a < 2147483648) (hb : OfNat.ofNat b < 2147483648) : nI a / (no_index (OfNat.ofNat b) : Int32) = nI (a / OfNat.ofNat b) := n_div ha hb
theorem o_cl {b : Nat} (h : OfNat.ofNat b < 2147483648) : (no_index (OfNat.ofNat b) : Int32).toNatClampNeg = OfNat.ofNat b := n_cl h
theorem o_in {b N : Nat} (h : OfNat.ofNat b < N) (h2 : N ≤ 1000000) : mIn (no_index (OfNat.ofNat b) : Int32) N = true := n_in h h2
theorem o_eq {a b : Nat} (ha : OfNat.ofNat a < 2147483648) (hb : OfNat.ofNat b < 2147483648) : (no_index (OfNat.ofNat a) : Int32) = (no_index (OfNat.ofNat b) : Int32) ↔ (OfNat.ofNat a : Nat) = OfNat.ofNat b := n_eq ha hb
theorem o_lt {a b : Nat} (ha : OfNat.ofNat a < 2147483648) (hb : OfNat.ofNat b < 2147483648) : (no_index (OfNat.ofNat a) : Int32) < (no_index (OfNat.ofNat b) : Int32) ↔ (OfNat.ofNat a : Nat) < OfNat.ofNat b := n_lt ha hb
theorem o_le {a b : Nat} (ha : OfNat.ofNat a < 2147483648) (hb : OfNat.ofNat b < 2147483648) : (no_index (OfNat.ofNat a) : Int32) ≤ (no_index (OfNat.ofNat b) : Int32) ↔ (OfNat.ofNat a : Nat) ≤ OfNat.ofNat b := n_le ha hb
theorem n_m1 {a : Nat} (ha : a < 2147483648) : ¬ nI a = -1 := by
  intro h
  have := congrArg Int32.toInt h
  rw [nI_toInt ha, show (-1 : Int32).toInt = -1 from by decide] at this
  omega
theorem n_m1' {a : Nat} (ha : a < 2147483648) : ¬ -1 = nI a := fun h => n_m1 ha h.symm
theorem n_ne0 {a : Nat} (ha : a < 2147483648) : ¬ nI a < 0 := nI_pos ha
/-- a spool's number, or none -/
theorem sp_cases {n : Nat} (x : Int32) (hn : n < 1000000) : (∃ k, k < n ∧ x = nI k) ∨ (x < 0 ∨ nI n ≤ x) := by
  by_cases h : 0 ≤ x
  · by_cases h2 : x < nI n
    · refine Or.inl ⟨x.toNatClampNeg, ?_, ?_⟩
      · rw [Int32.lt_iff_toInt_lt, nI_toInt (by omega)] at h2
        rw [Int32.le_iff_toInt_le, Int32.toInt_zero] at h
        show x.toInt.toNat < n
        omega
      · apply Int32.toInt_inj.mp
        rw [Int32.le_iff_toInt_le, Int32.toInt_zero] at h
        have h3 := x.toInt_lt
        rw [nI_toInt (by show x.toInt.toNat < _; omega)]
        show _ = ((x.toInt.toNat : Nat) : Int)
        omega
    · exact Or.inr (Or.inr (Int32.not_lt.mp h2))
  · exact Or.inr (Or.inl (Int32.not_le.mp h))
end
section
/-! ONE RUN has one end; loops -/
theorem EvM_iff {z : Nat} {as : List Value} {h h0 : mH} {v0 : Option Value} {Q : Option Value → mH → Prop} (hE : EvM z as h (fun v k => v = v0 ∧ k = h0)) : EvM z as h Q ↔ Q v0 h0 := by
  obtain ⟨f, r, h1, h2, h3⟩ := hE
  constructor
  · rintro ⟨g, r', g1, g2⟩
    have e1 := mR_le (Nat.le_max_left f g) h1
    have e2 := mR_le (Nat.le_max_right f g) g1
    rw [e1] at e2
    cases e2
    rw [← h2, ← h3]
    exact g2
  · intro hq
    exact ⟨f, r, h1, by rw [h2, h3]; exact hq⟩
theorem loop_dn {P : Nat → Prop} {n : Nat} (h : ∀ k, k < n → P (k + 1) → P k) : P n → P 0 := by
  induction n with
  | zero => exact fun q => q
  | succ n ih => exact fun q => ih (fun k hk => h k (by omega)) (h n (by omega) q)
theorem loop_dn' {P : Nat → Prop} {a n : Nat} (hn : a ≤ n) (h : ∀ k, a ≤ k → k < n → P (k + 1) → P k) : P n → P a := by
  intro q
  have h2 := loop_dn (P := fun k => P (a + k)) (n := n - a) (fun k hk => h (a + k) (by omega) (by omega)) (by show P (a + (n - a)); rw [show a + (n - a) = n by omega]; exact q)
  exact h2
theorem Ev_cg {y : Nat} {is : List mIns} {L L' st : List Value} {K : mK} {R : Nat → Nat → Option Nat} {I I' : Nat → Nat → Int32} {Q : Option Value → mH → Prop} (hI : I' = I) (hL : L' = L) (h : Ev y is L st (K, R, I) Q) : Ev y is L' st (K, R, I') Q := by
  rw [hI, hL]; exact h
theorem s_ne {I : Nat → Nat → Int32} {a k b j : Nat} {x : Int32} (h : ¬ (b = a ∧ j = k)) : mSet I a k x b j = I b j := if_neg h
theorem s_eq {I : Nat → Nat → Int32} {a k : Nat} {x : Int32} : mSet I a k x a k = x := if_pos ⟨rfl, rfl⟩
theorem s_eqj {I : Nat → Nat → Int32} {a k b j : Nat} {x : Int32} (h : b = a ∧ j = k) : mSet I a k x b j = x := if_pos h
/-- the first k < n with P k, else n -/
def fB (P : Nat → Bool) (n : Nat) : Nat → Nat
  | 0 => n
  | k + 1 => if fB P n k = n then (if P k then k else n) else fB P n k
theorem fB_le (P : Nat → Bool) (n : Nat) : ∀ k, k ≤ n → fB P n k ≤ n ∧ (fB P n k < n → fB P n k < k ∧ P (fB P n k) = true) ∧ (∀ j, j < k → j < fB P n k → P j = false) := by
  intro k
  induction k with
  | zero => intro _; exact ⟨Nat.le_refl _, fun h => absurd h (Nat.lt_irrefl _), fun j h => absurd h (Nat.not_lt_zero _)⟩
  | succ k ih =>
    intro hk
    obtain ⟨h1, h2, h3⟩ := ih (by omega)
    unfold fB
    by_cases e : fB P n k = n
    · rw [if_pos e]
      by_cases p : P k = true
      · rw [if_pos p]
        exact ⟨by omega, fun _ => ⟨by omega, p⟩, fun j hj hj2 => h3 j (by omega) (by omega)⟩
      · rw [if_neg p]
        refine ⟨Nat.le_refl _, fun h => absurd h (Nat.lt_irrefl _), fun j hj hj2 => ?_⟩
        rcases Nat.lt_or_ge j k with q | q
        · exact h3 j q (by omega)
        · have : j = k := by omega
          rw [this]; simpa using p
    · rw [if_neg e]
      have h4 := h2 (by omega)
      exact ⟨h1, fun _ => ⟨by omega, h4.2⟩, fun j hj hj2 => h3 j (by omega) hj2⟩
end
section
/-! THE CLASS's LEAVES: tests of arguments, lengths, the wire -/
theorem m_isSpool {x : Int32} {h : mH} {Q : Option Value → mH → Prop} : EvM 82 [.int x] h Q ↔ Q (some (.int (if x < 0 then 0 else if 6 ≤ x then 0 else 1))) h := by
  simp only [e_iconst, e_bipush, e_sipush, e_iload_n, e_iload, e_aload_n, e_aload, e_istore_n, e_istore, e_astore_n, e_astore, e_iinc, e_iadd, e_isub, e_imul, e_iand, e_ishr, e_idiv, e_i2c, e_dup_i, e_dup_r, e_dup2, e_pop, e_goto, e_nop, e_if_eq, e_if_ne, e_if_lt, e_if_ge, e_if_gt, e_if_le, e_icmp_eq, e_icmp_ne, e_icmp_lt, e_icmp_ge, e_icmp_gt, e_icmp_le, e_tsw, e_ret0, e_ret1, e_retn, e_getI, e_getZ, e_getR, e_getV, e_getC, e_putI, e_putZ, e_putF, e_gst0, e_gst1, e_sld, e_iald, e_cald, e_bald, e_iast, e_cast, e_aald, e_aast, e_alen, e_slen, e_blen, e_newa, e_newq, e_new, e_oinit, e_ctor, e_virt, e_stat, e_min, e_copy, e_ldc, List.cons_append, List.nil_append, List.append_nil, List.length_cons, List.length_nil, List.replicate_succ, List.replicate_zero, List.getElem?_cons_zero, List.getElem?_cons_succ, List.set_cons_zero, List.set_cons_succ, List.take_succ_cons, List.take_zero, List.drop_succ_cons, List.drop_zero, List.reverse_cons, List.reverse_nil, Option.toList_some, Option.toList_none, Nat.reduceSub, Nat.reduceAdd, Nat.reduceLeDiff, true_and, and_true, and_self, Option.some.injEq, exists_eq_left', Nat.zero_add, Value.int.injEq, Value.ref.injEq, List.cons.injEq, exists_and_left, and_assoc, exists_eq_left, EvM, N_82, C_82, B_82_0, bk_82_0, B_82_14, bk_82_14, B_82_15, bk_82_15, if_pos, if_neg, not_true_eq_false, not_false_eq_true, or_true, true_or, or_false, false_or, false_and, and_false, Nat.reduceEqDiff, Nat.reduceLT, Nat.reduceMul, Nat.not_lt_zero, Nat.zero_le, Nat.le_refl, ne_eq, reduceIte, reduceCtorEq]
  (repeat' split) <;> rfl
theorem m_isPull {x : Int32} {h : mH} {Q : Option Value → mH → Prop} : EvM 83 [.int x] h Q ↔ Q (some (.int (if x < 0 then 0 else if 9 < x then 0 else 1))) h := by
  simp only [e_iconst, e_bipush, e_sipush, e_iload_n, e_iload, e_aload_n, e_aload, e_istore_n, e_istore, e_astore_n, e_astore, e_iinc, e_iadd, e_isub, e_imul, e_iand, e_ishr, e_idiv, e_i2c, e_dup_i, e_dup_r, e_dup2, e_pop, e_goto, e_nop, e_if_eq, e_if_ne, e_if_lt, e_if_ge, e_if_gt, e_if_le, e_icmp_eq, e_icmp_ne, e_icmp_lt, e_icmp_ge, e_icmp_gt, e_icmp_le, e_tsw, e_ret0, e_ret1, e_retn, e_getI, e_getZ, e_getR, e_getV, e_getC, e_putI, e_putZ, e_putF, e_gst0, e_gst1, e_sld, e_iald, e_cald, e_bald, e_iast, e_cast, e_aald, e_aast, e_alen, e_slen, e_blen, e_newa, e_newq, e_new, e_oinit, e_ctor, e_virt, e_stat, e_min, e_copy, e_ldc, List.cons_append, List.nil_append, List.append_nil, List.length_cons, List.length_nil, List.replicate_succ, List.replicate_zero, List.getElem?_cons_zero, List.getElem?_cons_succ, List.set_cons_zero, List.set_cons_succ, List.take_succ_cons, List.take_zero, List.drop_succ_cons, List.drop_zero, List.reverse_cons, List.reverse_nil, Option.toList_some, Option.toList_none, Nat.reduceSub, Nat.reduceAdd, Nat.reduceLeDiff, true_and, and_true, and_self, Option.some.injEq, exists_eq_left', Nat.zero_add, Value.int.injEq, Value.ref.injEq, List.cons.injEq, exists_and_left, and_assoc, exists_eq_left, EvM, N_83, C_83, B_83_0, bk_83_0, B_83_14, bk_83_14, B_83_15, bk_83_15, if_pos, if_neg, not_true_eq_false, not_false_eq_true, or_true, true_or, or_false, false_or, false_and, and_false, Nat.reduceEqDiff, Nat.reduceLT, Nat.reduceMul, Nat.not_lt_zero, Nat.zero_le, Nat.le_refl, ne_eq, reduceIte, reduceCtorEq]
  (repeat' split) <;> rfl
theorem m_isWay {x : Int32} {h : mH} {Q : Option Value → mH → Prop} : EvM 84 [.int x] h Q ↔ Q (some (.int (if x < 0 then 0 else if 2 < x then 0 else 1))) h := by
  simp only [e_iconst, e_bipush, e_sipush, e_iload_n, e_iload, e_aload_n, e_aload, e_istore_n, e_istore, e_astore_n, e_astore, e_iinc, e_iadd, e_isub, e_imul, e_iand, e_ishr, e_idiv, e_i2c, e_dup_i, e_dup_r, e_dup2, e_pop, e_goto, e_nop, e_if_eq, e_if_ne, e_if_lt, e_if_ge, e_if_gt, e_if_le, e_icmp_eq, e_icmp_ne, e_icmp_lt, e_icmp_ge, e_icmp_gt, e_icmp_le, e_tsw, e_ret0, e_ret1, e_retn, e_getI, e_getZ, e_getR, e_getV, e_getC, e_putI, e_putZ, e_putF, e_gst0, e_gst1, e_sld, e_iald, e_cald, e_bald, e_iast, e_cast, e_aald, e_aast, e_alen, e_slen, e_blen, e_newa, e_newq, e_new, e_oinit, e_ctor, e_virt, e_stat, e_min, e_copy, e_ldc, List.cons_append, List.nil_append, List.append_nil, List.length_cons, List.length_nil, List.replicate_succ, List.replicate_zero, List.getElem?_cons_zero, List.getElem?_cons_succ, List.set_cons_zero, List.set_cons_succ, List.take_succ_cons, List.take_zero, List.drop_succ_cons, List.drop_zero, List.reverse_cons, List.reverse_nil, Option.toList_some, Option.toList_none, Nat.reduceSub, Nat.reduceAdd, Nat.reduceLeDiff, true_and, and_true, and_self, Option.some.injEq, exists_eq_left', Nat.zero_add, Value.int.injEq, Value.ref.injEq, List.cons.injEq, exists_and_left, and_assoc, exists_eq_left, EvM, N_84, C_84, B_84_0, bk_84_0, B_84_13, bk_84_13, B_84_14, bk_84_14, if_pos, if_neg, not_true_eq_false, not_false_eq_true, or_true, true_or, or_false, false_or, false_and, and_false, Nat.reduceEqDiff, Nat.reduceLT, Nat.reduceMul, Nat.not_lt_zero, Nat.zero_le, Nat.le_refl, ne_eq, reduceIte, reduceCtorEq]
  (repeat' split) <;> rfl
theorem m_isWayOfOneEnd {x : Int32} {h : mH} {Q : Option Value → mH → Prop} : EvM 85 [.int x] h Q ↔ Q (some (.int (if x = 0 then 1 else if x = 1 then 1 else 0))) h := by
  simp only [e_iconst, e_bipush, e_sipush, e_iload_n, e_iload, e_aload_n, e_aload, e_istore_n, e_istore, e_astore_n, e_astore, e_iinc, e_iadd, e_isub, e_imul, e_iand, e_ishr, e_idiv, e_i2c, e_dup_i, e_dup_r, e_dup2, e_pop, e_goto, e_nop, e_if_eq, e_if_ne, e_if_lt, e_if_ge, e_if_gt, e_if_le, e_icmp_eq, e_icmp_ne, e_icmp_lt, e_icmp_ge, e_icmp_gt, e_icmp_le, e_tsw, e_ret0, e_ret1, e_retn, e_getI, e_getZ, e_getR, e_getV, e_getC, e_putI, e_putZ, e_putF, e_gst0, e_gst1, e_sld, e_iald, e_cald, e_bald, e_iast, e_cast, e_aald, e_aast, e_alen, e_slen, e_blen, e_newa, e_newq, e_new, e_oinit, e_ctor, e_virt, e_stat, e_min, e_copy, e_ldc, List.cons_append, List.nil_append, List.append_nil, List.length_cons, List.length_nil, List.replicate_succ, List.replicate_zero, List.getElem?_cons_zero, List.getElem?_cons_succ, List.set_cons_zero, List.set_cons_succ, List.take_succ_cons, List.take_zero, List.drop_succ_cons, List.drop_zero, List.reverse_cons, List.reverse_nil, Option.toList_some, Option.toList_none, Nat.reduceSub, Nat.reduceAdd, Nat.reduceLeDiff, true_and, and_true, and_self, Option.some.injEq, exists_eq_left', Nat.zero_add, Value.int.injEq, Value.ref.injEq, List.cons.injEq, exists_and_left, and_assoc, exists_eq_left, EvM, N_85, C_85, B_85_0, bk_85_0, B_85_9, bk_85_9, B_85_13, bk_85_13, B_85_14, bk_85_14, if_pos, if_neg, not_true_eq_false, not_false_eq_true, or_true, true_or, or_false, false_or, false_and, and_false, Nat.reduceEqDiff, Nat.reduceLT, Nat.reduceMul, Nat.not_lt_zero, Nat.zero_le, Nat.le_refl, ne_eq, reduceIte, reduceCtorEq]
  (repeat' split) <;> simp_all
theorem m_nominalOf {x : Int32} {h : mH} {Q : Option Value → mH → Prop} : EvM 86 [.int x] h Q ↔ Q (some (.int (2000 + 1000 * x))) h := by
  simp only [e_iconst, e_bipush, e_sipush, e_iload_n, e_iload, e_aload_n, e_aload, e_istore_n, e_istore, e_astore_n, e_astore, e_iinc, e_iadd, e_isub, e_imul, e_iand, e_ishr, e_idiv, e_i2c, e_dup_i, e_dup_r, e_dup2, e_pop, e_goto, e_nop, e_if_eq, e_if_ne, e_if_lt, e_if_ge, e_if_gt, e_if_le, e_icmp_eq, e_icmp_ne, e_icmp_lt, e_icmp_ge, e_icmp_gt, e_icmp_le, e_tsw, e_ret0, e_ret1, e_retn, e_getI, e_getZ, e_getR, e_getV, e_getC, e_putI, e_putZ, e_putF, e_gst0, e_gst1, e_sld, e_iald, e_cald, e_bald, e_iast, e_cast, e_aald, e_aast, e_alen, e_slen, e_blen, e_newa, e_newq, e_new, e_oinit, e_ctor, e_virt, e_stat, e_min, e_copy, e_ldc, List.cons_append, List.nil_append, List.append_nil, List.length_cons, List.length_nil, List.replicate_succ, List.replicate_zero, List.getElem?_cons_zero, List.getElem?_cons_succ, List.set_cons_zero, List.set_cons_succ, List.take_succ_cons, List.take_zero, List.drop_succ_cons, List.drop_zero, List.reverse_cons, List.reverse_nil, Option.toList_some, Option.toList_none, Nat.reduceSub, Nat.reduceAdd, Nat.reduceLeDiff, true_and, and_true, and_self, Option.some.injEq, exists_eq_left', Nat.zero_add, Value.int.injEq, Value.ref.injEq, List.cons.injEq, exists_and_left, and_assoc, exists_eq_left, EvM, N_86, C_86, B_86_0, bk_86_0, if_pos, if_neg, not_true_eq_false, not_false_eq_true, or_true, true_or, or_false, false_or, false_and, and_false, Nat.reduceEqDiff, Nat.reduceLT, Nat.reduceMul, Nat.not_lt_zero, Nat.zero_le, Nat.le_refl, ne_eq, reduceIte, reduceCtorEq]
theorem m_stretchOf {r p g n : Int32} {h : mH} {Q : Option Value → mH → Prop} : EvM 87 [.int r, .int p, .int g, .int n] h Q ↔ Q (some (.int (if r = 1 then 2 * p * p + p * g else if r = 2 then 2 * p * p + p * (n - 1 - g) else 4 * p * p))) h := by
  simp only [e_iconst, e_bipush, e_sipush, e_iload_n, e_iload, e_aload_n, e_aload, e_istore_n, e_istore, e_astore_n, e_astore, e_iinc, e_iadd, e_isub, e_imul, e_iand, e_ishr, e_idiv, e_i2c, e_dup_i, e_dup_r, e_dup2, e_pop, e_goto, e_nop, e_if_eq, e_if_ne, e_if_lt, e_if_ge, e_if_gt, e_if_le, e_icmp_eq, e_icmp_ne, e_icmp_lt, e_icmp_ge, e_icmp_gt, e_icmp_le, e_tsw, e_ret0, e_ret1, e_retn, e_getI, e_getZ, e_getR, e_getV, e_getC, e_putI, e_putZ, e_putF, e_gst0, e_gst1, e_sld, e_iald, e_cald, e_bald, e_iast, e_cast, e_aald, e_aast, e_alen, e_slen, e_blen, e_newa, e_newq, e_new, e_oinit, e_ctor, e_virt, e_stat, e_min, e_copy, e_ldc, List.cons_append, List.nil_append, List.append_nil, List.length_cons, List.length_nil, List.replicate_succ, List.replicate_zero, List.getElem?_cons_zero, List.getElem?_cons_succ, List.set_cons_zero, List.set_cons_succ, List.take_succ_cons, List.take_zero, List.drop_succ_cons, List.drop_zero, List.reverse_cons, List.reverse_nil, Option.toList_some, Option.toList_none, Nat.reduceSub, Nat.reduceAdd, Nat.reduceLeDiff, true_and, and_true, and_self, Option.some.injEq, exists_eq_left', Nat.zero_add, Value.int.injEq, Value.ref.injEq, List.cons.injEq, exists_and_left, and_assoc, exists_eq_left, EvM, N_87, C_87, B_87_0, bk_87_0, B_87_15, bk_87_15, B_87_34, bk_87_34]
  (repeat' split) <;> simp_all
def zW (K : mK) (R : Nat → Nat → Option Nat) (a : Nat) : Prop := K.2.2.1 a = (1, 6) ∧ K.2.2.1 (a + 1) = (2, 32) ∧ K.2.2.1 (a + 2) = (2, 32) ∧ K.2.2.1 (a + 3) = (2, 32) ∧ R a 0 = some (a + 1) ∧ R a 1 = some (a + 2) ∧ R a 2 = some (a + 3) ∧ a < 1000
theorem m_putGap {K : mK} {R : Nat → Nat → Option Nat} {I : Nat → Nat → Int32} {a g : Nat} {n t : Int32} {Q : Option Value → mH → Prop} (h : zW K R a) (hg : g < 32) : EvM 45 [.ref a, .int (nI g), .int n, .int t] (K, R, I) Q ↔ Q none (K, R, mSet (mSet (mSet I (a + 1) g n) (a + 2) g n) (a + 3) g t) := by
  obtain ⟨h0, h1, h2, h3, r0, r1, r2, -⟩ := h
  simp (disch := omega) only [e_iconst, e_bipush, e_sipush, e_iload_n, e_iload, e_aload_n, e_aload, e_istore_n, e_istore, e_astore_n, e_astore, e_iinc, e_iadd, e_isub, e_imul, e_iand, e_ishr, e_idiv, e_i2c, e_dup_i, e_dup_r, e_dup2, e_pop, e_goto, e_nop, e_if_eq, e_if_ne, e_if_lt, e_if_ge, e_if_gt, e_if_le, e_icmp_eq, e_icmp_ne, e_icmp_lt, e_icmp_ge, e_icmp_gt, e_icmp_le, e_tsw, e_ret0, e_ret1, e_retn, e_getI, e_getZ, e_getR, e_getV, e_getC, e_putI, e_putZ, e_putF, e_gst0, e_gst1, e_sld, e_iald, e_cald, e_bald, e_iast, e_cast, e_aald, e_aast, e_alen, e_slen, e_blen, e_newa, e_newq, e_new, e_oinit, e_ctor, e_virt, e_stat, e_min, e_copy, e_ldc, List.cons_append, List.nil_append, List.append_nil, List.length_cons, List.length_nil, List.replicate_succ, List.replicate_zero, List.getElem?_cons_zero, List.getElem?_cons_succ, List.set_cons_zero, List.set_cons_succ, List.take_succ_cons, List.take_zero, List.drop_succ_cons, List.drop_zero, List.reverse_cons, List.reverse_nil, Option.toList_some, Option.toList_none, Nat.reduceSub, Nat.reduceAdd, Nat.reduceLeDiff, true_and, and_true, and_self, Option.some.injEq, exists_eq_left', Nat.zero_add, Value.int.injEq, Value.ref.injEq, List.cons.injEq, exists_and_left, and_assoc, exists_eq_left, EvM, N_45, C_45, B_45_0, bk_45_0, B_45_10, bk_45_10, B_45_11, bk_45_11, h0, h1, h2, h3, r0, r1, r2, n_add, n_mul, n_sub, n_cl, n_in, n_eq, n_lt, n_le, o_add_l, o_add_r, o_mul_l, o_mul_r, o_sub_l, o_sub_r, o_lt_l, o_lt_r, o_le_l, o_le_r, o_eq_l, o_eq_r, o_eq, o_lt, o_le, o_cl, o_in, n_m1, n_m1', n_ne0, if_pos, if_neg, not_true_eq_false, not_false_eq_true, or_true, true_or, or_false, false_or, false_and, and_false, Nat.reduceEqDiff, Nat.reduceLT, Nat.reduceMul, Nat.not_lt_zero, Nat.zero_le, Nat.le_refl, ne_eq, reduceIte, reduceCtorEq]
theorem m_putGap0 {K : mK} {R : Nat → Nat → Option Nat} {I : Nat → Nat → Int32} {a : Nat} {n t : Int32} {Q : Option Value → mH → Prop} (h : zW K R a) : EvM 45 [.ref a, .int 0, .int n, .int t] (K, R, I) Q ↔ Q none (K, R, mSet (mSet (mSet I (a + 1) 0 n) (a + 2) 0 n) (a + 3) 0 t) := m_putGap (g := 0) h (by decide)
theorem m_gaps {K : mK} {R : Nat → Nat → Option Nat} {I : Nat → Nat → Int32} {a : Nat} {Q : Option Value → mH → Prop} (h : zW K R a) : EvM 37 [.ref a] (K, R, I) Q ↔ Q (some (.int (if I a 3 = 0 then 0 else if I a 4 = 0 then I a 5 + 1 else I a 5 + 2))) (K, R, I) := by
  obtain ⟨h0, h1, h2, h3, r0, r1, r2, -⟩ := h
  simp only [e_iconst, e_bipush, e_sipush, e_iload_n, e_iload, e_aload_n, e_aload, e_istore_n, e_istore, e_astore_n, e_astore, e_iinc, e_iadd, e_isub, e_imul, e_iand, e_ishr, e_idiv, e_i2c, e_dup_i, e_dup_r, e_dup2, e_pop, e_goto, e_nop, e_if_eq, e_if_ne, e_if_lt, e_if_ge, e_if_gt, e_if_le, e_icmp_eq, e_icmp_ne, e_icmp_lt, e_icmp_ge, e_icmp_gt, e_icmp_le, e_tsw, e_ret0, e_ret1, e_retn, e_getI, e_getZ, e_getR, e_getV, e_getC, e_putI, e_putZ, e_putF, e_gst0, e_gst1, e_sld, e_iald, e_cald, e_bald, e_iast, e_cast, e_aald, e_aast, e_alen, e_slen, e_blen, e_newa, e_newq, e_new, e_oinit, e_ctor, e_virt, e_stat, e_min, e_copy, e_ldc, List.cons_append, List.nil_append, List.append_nil, List.length_cons, List.length_nil, List.replicate_succ, List.replicate_zero, List.getElem?_cons_zero, List.getElem?_cons_succ, List.set_cons_zero, List.set_cons_succ, List.take_succ_cons, List.take_zero, List.drop_succ_cons, List.drop_zero, List.reverse_cons, List.reverse_nil, Option.toList_some, Option.toList_none, Nat.reduceSub, Nat.reduceAdd, Nat.reduceLeDiff, true_and, and_true, and_self, Option.some.injEq, exists_eq_left', Nat.zero_add, Value.int.injEq, Value.ref.injEq, List.cons.injEq, exists_and_left, and_assoc, exists_eq_left, EvM, N_37, C_37, B_37_0, bk_37_0, B_37_9, bk_37_9, B_37_25, bk_37_25, B_37_31, bk_37_31, h0]
  (repeat' split) <;> simp_all

def ngp (p cl c : Nat) : Nat := if p = 0 then 0 else c + 1 + cl
/-- a wire's flags: there, closed, its letters -/
def wF (I : Nat → Nat → Int32) (a p cl c : Nat) : Prop := I a 3 = nI p ∧ I a 4 = nI cl ∧ I a 5 = nI c ∧ p ≤ 1 ∧ cl ≤ 1 ∧ c ≤ 30
theorem m_gapsN {K : mK} {R : Nat → Nat → Option Nat} {I : Nat → Nat → Int32} {a p cl c : Nat} {Q : Option Value → mH → Prop} (h : zW K R a) (hf : wF I a p cl c) : EvM 37 [.ref a] (K, R, I) Q ↔ Q (some (.int (nI (ngp p cl c)))) (K, R, I) := by
  obtain ⟨f1, f2, f3, f4, f5, f6⟩ := hf
  rw [m_gaps h, f1, f2, f3]
  unfold ngp
  simp (disch := omega) only [n_add, n_mul, n_sub, n_cl, n_in, n_eq, n_lt, n_le, o_add_l, o_add_r, o_mul_l, o_mul_r, o_sub_l, o_sub_r, o_lt_l, o_lt_r, o_le_l, o_le_r, o_eq_l, o_eq_r, o_eq, o_lt, o_le, o_cl, o_in, n_m1, n_m1', n_ne0, if_pos, if_neg, not_true_eq_false, not_false_eq_true, or_true, true_or, or_false, false_or, false_and, and_false, Nat.reduceEqDiff, Nat.reduceLT, Nat.reduceMul, Nat.not_lt_zero, Nat.zero_le, Nat.le_refl, ne_eq, reduceIte, reduceCtorEq]
  rcases (show p = 0 ∨ p = 1 by omega) with rfl | rfl <;> rcases (show cl = 0 ∨ cl = 1 by omega) with rfl | rfl <;> (first | exact Iff.rfl | simp)
theorem m_hasGap {K : mK} {R : Nat → Nat → Option Nat} {I : Nat → Nat → Int32} {a p cl c : Nat} {g : Int32} {Q : Option Value → mH → Prop} (h : zW K R a) (hf : wF I a p cl c) : EvM 38 [.ref a, .int g] (K, R, I) Q ↔ Q (some (.int (if g < 0 then 0 else if nI (ngp p cl c) ≤ g then 0 else 1))) (K, R, I) := by
  obtain ⟨h0, h1, h2, h3, r0, r1, r2, h4⟩ := id h
  unfold EvM
  simp (disch := omega) only [e_iconst, e_bipush, e_sipush, e_iload_n, e_iload, e_aload_n, e_aload, e_istore_n, e_istore, e_astore_n, e_astore, e_iinc, e_iadd, e_isub, e_imul, e_iand, e_ishr, e_idiv, e_i2c, e_dup_i, e_dup_r, e_dup2, e_pop, e_goto, e_nop, e_if_eq, e_if_ne, e_if_lt, e_if_ge, e_if_gt, e_if_le, e_icmp_eq, e_icmp_ne, e_icmp_lt, e_icmp_ge, e_icmp_gt, e_icmp_le, e_tsw, e_ret0, e_ret1, e_retn, e_getI, e_getZ, e_getR, e_getV, e_getC, e_putI, e_putZ, e_putF, e_gst0, e_gst1, e_sld, e_iald, e_cald, e_bald, e_iast, e_cast, e_aald, e_aast, e_alen, e_slen, e_blen, e_newa, e_newq, e_new, e_oinit, e_ctor, e_virt, e_stat, e_min, e_copy, e_ldc, List.cons_append, List.nil_append, List.append_nil, List.length_cons, List.length_nil, List.replicate_succ, List.replicate_zero, List.getElem?_cons_zero, List.getElem?_cons_succ, List.set_cons_zero, List.set_cons_succ, List.take_succ_cons, List.take_zero, List.drop_succ_cons, List.drop_zero, List.reverse_cons, List.reverse_nil, Option.toList_some, Option.toList_none, Nat.reduceSub, Nat.reduceAdd, Nat.reduceLeDiff, true_and, and_true, and_self, Option.some.injEq, exists_eq_left', Nat.zero_add, Value.int.injEq, Value.ref.injEq, List.cons.injEq, exists_and_left, and_assoc, exists_eq_left, N_38, C_38, B_38_0, bk_38_0, B_38_16, bk_38_16, B_38_17, bk_38_17, h0, C_37, m_gapsN h hf, if_pos, if_neg, not_true_eq_false, not_false_eq_true, or_true, true_or, or_false, false_or, false_and, and_false, Nat.reduceEqDiff, Nat.reduceLT, Nat.reduceMul, Nat.not_lt_zero, Nat.zero_le, Nat.le_refl, ne_eq, reduceIte, reduceCtorEq, o_eq]
  (repeat' split) <;> simp_all
theorem m_hasLetter {K : mK} {R : Nat → Nat → Option Nat} {I : Nat → Nat → Int32} {a : Nat} {g : Int32} {Q : Option Value → mH → Prop} (h : zW K R a) : EvM 39 [.ref a, .int g] (K, R, I) Q ↔ Q (some (.int (if g < 0 then 0 else if I a 5 ≤ g then 0 else 1))) (K, R, I) := by
  obtain ⟨h0, h1, h2, h3, r0, r1, r2, h4⟩ := id h
  unfold EvM
  simp (disch := omega) only [e_iconst, e_bipush, e_sipush, e_iload_n, e_iload, e_aload_n, e_aload, e_istore_n, e_istore, e_astore_n, e_astore, e_iinc, e_iadd, e_isub, e_imul, e_iand, e_ishr, e_idiv, e_i2c, e_dup_i, e_dup_r, e_dup2, e_pop, e_goto, e_nop, e_if_eq, e_if_ne, e_if_lt, e_if_ge, e_if_gt, e_if_le, e_icmp_eq, e_icmp_ne, e_icmp_lt, e_icmp_ge, e_icmp_gt, e_icmp_le, e_tsw, e_ret0, e_ret1, e_retn, e_getI, e_getZ, e_getR, e_getV, e_getC, e_putI, e_putZ, e_putF, e_gst0, e_gst1, e_sld, e_iald, e_cald, e_bald, e_iast, e_cast, e_aald, e_aast, e_alen, e_slen, e_blen, e_newa, e_newq, e_new, e_oinit, e_ctor, e_virt, e_stat, e_min, e_copy, e_ldc, List.cons_append, List.nil_append, List.append_nil, List.length_cons, List.length_nil, List.replicate_succ, List.replicate_zero, List.getElem?_cons_zero, List.getElem?_cons_succ, List.set_cons_zero, List.set_cons_succ, List.take_succ_cons, List.take_zero, List.drop_succ_cons, List.drop_zero, List.reverse_cons, List.reverse_nil, Option.toList_some, Option.toList_none, Nat.reduceSub, Nat.reduceAdd, Nat.reduceLeDiff, true_and, and_true, and_self, Option.some.injEq, exists_eq_left', Nat.zero_add, Value.int.injEq, Value.ref.injEq, List.cons.injEq, exists_and_left, and_assoc, exists_eq_left, N_39, C_39, B_39_0, bk_39_0, B_39_16, bk_39_16, B_39_17, bk_39_17, h0, if_pos, if_neg, not_true_eq_false, not_false_eq_true, or_true, true_or, or_false, false_or, false_and, and_false, Nat.reduceEqDiff, Nat.reduceLT, Nat.reduceMul, Nat.not_lt_zero, Nat.zero_le, Nat.le_refl, ne_eq, reduceIte, reduceCtorEq, o_eq]
  (repeat' split) <;> simp_all
theorem m_canBeReadBy {K : mK} {R : Nat → Nat → Option Nat} {I : Nat → Nat → Int32} {a p cl c : Nat} {w : Int32} {Q : Option Value → mH → Prop} (h : zW K R a) (hf : wF I a p cl c) : EvM 40 [.ref a, .int w] (K, R, I) Q ↔ Q (some (.int (if p = 0 then 0 else if w = 2 then nI cl else 1))) (K, R, I) := by
  obtain ⟨h0, h1, h2, h3, r0, r1, r2, h4⟩ := id h
  obtain ⟨f1, f2, f3, f4, f5, f6⟩ := hf
  unfold EvM
  simp (disch := omega) only [e_iconst, e_bipush, e_sipush, e_iload_n, e_iload, e_aload_n, e_aload, e_istore_n, e_istore, e_astore_n, e_astore, e_iinc, e_iadd, e_isub, e_imul, e_iand, e_ishr, e_idiv, e_i2c, e_dup_i, e_dup_r, e_dup2, e_pop, e_goto, e_nop, e_if_eq, e_if_ne, e_if_lt, e_if_ge, e_if_gt, e_if_le, e_icmp_eq, e_icmp_ne, e_icmp_lt, e_icmp_ge, e_icmp_gt, e_icmp_le, e_tsw, e_ret0, e_ret1, e_retn, e_getI, e_getZ, e_getR, e_getV, e_getC, e_putI, e_putZ, e_putF, e_gst0, e_gst1, e_sld, e_iald, e_cald, e_bald, e_iast, e_cast, e_aald, e_aast, e_alen, e_slen, e_blen, e_newa, e_newq, e_new, e_oinit, e_ctor, e_virt, e_stat, e_min, e_copy, e_ldc, List.cons_append, List.nil_append, List.append_nil, List.length_cons, List.length_nil, List.replicate_succ, List.replicate_zero, List.getElem?_cons_zero, List.getElem?_cons_succ, List.set_cons_zero, List.set_cons_succ, List.take_succ_cons, List.take_zero, List.drop_succ_cons, List.drop_zero, List.reverse_cons, List.reverse_nil, Option.toList_some, Option.toList_none, Nat.reduceSub, Nat.reduceAdd, Nat.reduceLeDiff, true_and, and_true, and_self, Option.some.injEq, exists_eq_left', Nat.zero_add, Value.int.injEq, Value.ref.injEq, List.cons.injEq, exists_and_left, and_assoc, exists_eq_left, N_40, C_40, B_40_0, bk_40_0, B_40_19, bk_40_19, B_40_23, bk_40_23, B_40_24, bk_40_24, h0, f1, f2, f3, n_add, n_mul, n_sub, n_cl, n_in, n_eq, n_lt, n_le, o_add_l, o_add_r, o_mul_l, o_mul_r, o_sub_l, o_sub_r, o_lt_l, o_lt_r, o_le_l, o_le_r, o_eq_l, o_eq_r, o_eq, o_lt, o_le, o_cl, o_in, n_m1, n_m1', n_ne0, if_pos, if_neg, not_true_eq_false, not_false_eq_true, or_true, true_or, or_false, false_or, false_and, and_false, Nat.reduceEqDiff, Nat.reduceLT, Nat.reduceMul, Nat.not_lt_zero, Nat.zero_le, Nat.le_refl, ne_eq, reduceIte, reduceCtorEq]
  rcases (show p = 0 ∨ p = 1 by omega) with rfl | rfl <;> rcases (show cl = 0 ∨ cl = 1 by omega) with rfl | rfl <;> (repeat' split) <;> simp_all [nI]
theorem m_empty {K : mK} {R : Nat → Nat → Option Nat} {I : Nat → Nat → Int32} {a : Nat} {Q : Option Value → mH → Prop} (h : zW K R a) : EvM 41 [.ref a] (K, R, I) Q ↔ Q none (K, R, mSet (mSet (mSet (mSet I a 3 0) a 4 0) a 5 0) a 6 0) := by
  obtain ⟨h0, h1, h2, h3, r0, r1, r2, h4⟩ := id h
  unfold EvM
  simp (disch := omega) only [e_iconst, e_bipush, e_sipush, e_iload_n, e_iload, e_aload_n, e_aload, e_istore_n, e_istore, e_astore_n, e_astore, e_iinc, e_iadd, e_isub, e_imul, e_iand, e_ishr, e_idiv, e_i2c, e_dup_i, e_dup_r, e_dup2, e_pop, e_goto, e_nop, e_if_eq, e_if_ne, e_if_lt, e_if_ge, e_if_gt, e_if_le, e_icmp_eq, e_icmp_ne, e_icmp_lt, e_icmp_ge, e_icmp_gt, e_icmp_le, e_tsw, e_ret0, e_ret1, e_retn, e_getI, e_getZ, e_getR, e_getV, e_getC, e_putI, e_putZ, e_putF, e_gst0, e_gst1, e_sld, e_iald, e_cald, e_bald, e_iast, e_cast, e_aald, e_aast, e_alen, e_slen, e_blen, e_newa, e_newq, e_new, e_oinit, e_ctor, e_virt, e_stat, e_min, e_copy, e_ldc, List.cons_append, List.nil_append, List.append_nil, List.length_cons, List.length_nil, List.replicate_succ, List.replicate_zero, List.getElem?_cons_zero, List.getElem?_cons_succ, List.set_cons_zero, List.set_cons_succ, List.take_succ_cons, List.take_zero, List.drop_succ_cons, List.drop_zero, List.reverse_cons, List.reverse_nil, Option.toList_some, Option.toList_none, Nat.reduceSub, Nat.reduceAdd, Nat.reduceLeDiff, true_and, and_true, and_self, Option.some.injEq, exists_eq_left', Nat.zero_add, Value.int.injEq, Value.ref.injEq, List.cons.injEq, exists_and_left, and_assoc, exists_eq_left, N_41, C_41, B_41_0, bk_41_0, h0, if_pos, if_neg, not_true_eq_false, not_false_eq_true, or_true, true_or, or_false, false_or, false_and, and_false, Nat.reduceEqDiff, Nat.reduceLT, Nat.reduceMul, Nat.not_lt_zero, Nat.zero_le, Nat.le_refl, ne_eq, reduceIte, reduceCtorEq]
theorem m_begin {K : mK} {R : Nat → Nat → Option Nat} {I : Nat → Nat → Int32} {a : Nat} {Q : Option Value → mH → Prop} (h : zW K R a) : EvM 42 [.ref a] (K, R, I) Q ↔ Q none (K, R, mSet (mSet (mSet (mSet (mSet (mSet (mSet (mSet I a 3 0) a 4 0) a 5 0) a 6 0) a 3 1) (a + 1) 0 5000) (a + 2) 0 5000) (a + 3) 0 (-1)) := by
  obtain ⟨h0, h1, h2, h3, r0, r1, r2, h4⟩ := id h
  unfold EvM
  simp (disch := omega) only [e_iconst, e_bipush, e_sipush, e_iload_n, e_iload, e_aload_n, e_aload, e_istore_n, e_istore, e_astore_n, e_astore, e_iinc, e_iadd, e_isub, e_imul, e_iand, e_ishr, e_idiv, e_i2c, e_dup_i, e_dup_r, e_dup2, e_pop, e_goto, e_nop, e_if_eq, e_if_ne, e_if_lt, e_if_ge, e_if_gt, e_if_le, e_icmp_eq, e_icmp_ne, e_icmp_lt, e_icmp_ge, e_icmp_gt, e_icmp_le, e_tsw, e_ret0, e_ret1, e_retn, e_getI, e_getZ, e_getR, e_getV, e_getC, e_putI, e_putZ, e_putF, e_gst0, e_gst1, e_sld, e_iald, e_cald, e_bald, e_iast, e_cast, e_aald, e_aast, e_alen, e_slen, e_blen, e_newa, e_newq, e_new, e_oinit, e_ctor, e_virt, e_stat, e_min, e_copy, e_ldc, List.cons_append, List.nil_append, List.append_nil, List.length_cons, List.length_nil, List.replicate_succ, List.replicate_zero, List.getElem?_cons_zero, List.getElem?_cons_succ, List.set_cons_zero, List.set_cons_succ, List.take_succ_cons, List.take_zero, List.drop_succ_cons, List.drop_zero, List.reverse_cons, List.reverse_nil, Option.toList_some, Option.toList_none, Nat.reduceSub, Nat.reduceAdd, Nat.reduceLeDiff, true_and, and_true, and_self, Option.some.injEq, exists_eq_left', Nat.zero_add, Value.int.injEq, Value.ref.injEq, List.cons.injEq, exists_and_left, and_assoc, exists_eq_left, N_42, C_42, B_42_0, bk_42_0, h0, if_pos, if_neg, not_true_eq_false, not_false_eq_true, or_true, true_or, or_false, false_or, false_and, and_false, Nat.reduceEqDiff, Nat.reduceLT, Nat.reduceMul, Nat.not_lt_zero, Nat.zero_le, Nat.le_refl, ne_eq, reduceIte, reduceCtorEq, C_41, C_45, m_empty h, m_putGap0 h]
theorem m_write {K : mK} {R : Nat → Nat → Option Nat} {I : Nat → Nat → Int32} {a c : Nat} {x : Int32} {Q : Option Value → mH → Prop} (h : zW K R a) (hc : I a 5 = nI c) (hc2 : c < 30) : EvM 43 [.ref a, .int x] (K, R, I) Q ↔ Q none (K, R, mSet (mSet (mSet (mSet I a 5 (nI (c + 1))) (a + 1) (c + 1) (2000 + 1000 * x)) (a + 2) (c + 1) (2000 + 1000 * x)) (a + 3) (c + 1) x) := by
  obtain ⟨h0, h1, h2, h3, r0, r1, r2, h4⟩ := id h
  unfold EvM
  simp (disch := omega) only [e_iconst, e_bipush, e_sipush, e_iload_n, e_iload, e_aload_n, e_aload, e_istore_n, e_istore, e_astore_n, e_astore, e_iinc, e_iadd, e_isub, e_imul, e_iand, e_ishr, e_idiv, e_i2c, e_dup_i, e_dup_r, e_dup2, e_pop, e_goto, e_nop, e_if_eq, e_if_ne, e_if_lt, e_if_ge, e_if_gt, e_if_le, e_icmp_eq, e_icmp_ne, e_icmp_lt, e_icmp_ge, e_icmp_gt, e_icmp_le, e_tsw, e_ret0, e_ret1, e_retn, e_getI, e_getZ, e_getR, e_getV, e_getC, e_putI, e_putZ, e_putF, e_gst0, e_gst1, e_sld, e_iald, e_cald, e_bald, e_iast, e_cast, e_aald, e_aast, e_alen, e_slen, e_blen, e_newa, e_newq, e_new, e_oinit, e_ctor, e_virt, e_stat, e_min, e_copy, e_ldc, List.cons_append, List.nil_append, List.append_nil, List.length_cons, List.length_nil, List.replicate_succ, List.replicate_zero, List.getElem?_cons_zero, List.getElem?_cons_succ, List.set_cons_zero, List.set_cons_succ, List.take_succ_cons, List.take_zero, List.drop_succ_cons, List.drop_zero, List.reverse_cons, List.reverse_nil, Option.toList_some, Option.toList_none, Nat.reduceSub, Nat.reduceAdd, Nat.reduceLeDiff, true_and, and_true, and_self, Option.some.injEq, exists_eq_left', Nat.zero_add, Value.int.injEq, Value.ref.injEq, List.cons.injEq, exists_and_left, and_assoc, exists_eq_left, N_43, C_43, B_43_0, bk_43_0, B_43_32, bk_43_32, h0, hc, s_eq, n_add, n_mul, n_sub, n_cl, n_in, n_eq, n_lt, n_le, o_add_l, o_add_r, o_mul_l, o_mul_r, o_sub_l, o_sub_r, o_lt_l, o_lt_r, o_le_l, o_le_r, o_eq_l, o_eq_r, o_eq, o_lt, o_le, o_cl, o_in, n_m1, n_m1', n_ne0, if_pos, if_neg, not_true_eq_false, not_false_eq_true, or_true, true_or, or_false, false_or, false_and, and_false, Nat.reduceEqDiff, Nat.reduceLT, Nat.reduceMul, Nat.not_lt_zero, Nat.zero_le, Nat.le_refl, ne_eq, reduceIte, reduceCtorEq, C_45, m_nominalOf, m_putGap h]
theorem m_putEnd {K : mK} {R : Nat → Nat → Option Nat} {I : Nat → Nat → Int32} {a c : Nat} {Q : Option Value → mH → Prop} (h : zW K R a) (hc : I a 5 = nI c) (hc2 : c ≤ 30) : EvM 44 [.ref a] (K, R, I) Q ↔ Q none (K, R, mSet (mSet (mSet (mSet I a 4 1) (a + 1) (c + 1) 5000) (a + 2) (c + 1) 5000) (a + 3) (c + 1) (-1)) := by
  obtain ⟨h0, h1, h2, h3, r0, r1, r2, h4⟩ := id h
  unfold EvM
  simp (disch := omega) only [e_iconst, e_bipush, e_sipush, e_iload_n, e_iload, e_aload_n, e_aload, e_istore_n, e_istore, e_astore_n, e_astore, e_iinc, e_iadd, e_isub, e_imul, e_iand, e_ishr, e_idiv, e_i2c, e_dup_i, e_dup_r, e_dup2, e_pop, e_goto, e_nop, e_if_eq, e_if_ne, e_if_lt, e_if_ge, e_if_gt, e_if_le, e_icmp_eq, e_icmp_ne, e_icmp_lt, e_icmp_ge, e_icmp_gt, e_icmp_le, e_tsw, e_ret0, e_ret1, e_retn, e_getI, e_getZ, e_getR, e_getV, e_getC, e_putI, e_putZ, e_putF, e_gst0, e_gst1, e_sld, e_iald, e_cald, e_bald, e_iast, e_cast, e_aald, e_aast, e_alen, e_slen, e_blen, e_newa, e_newq, e_new, e_oinit, e_ctor, e_virt, e_stat, e_min, e_copy, e_ldc, List.cons_append, List.nil_append, List.append_nil, List.length_cons, List.length_nil, List.replicate_succ, List.replicate_zero, List.getElem?_cons_zero, List.getElem?_cons_succ, List.set_cons_zero, List.set_cons_succ, List.take_succ_cons, List.take_zero, List.drop_succ_cons, List.drop_zero, List.reverse_cons, List.reverse_nil, Option.toList_some, Option.toList_none, Nat.reduceSub, Nat.reduceAdd, Nat.reduceLeDiff, true_and, and_true, and_self, Option.some.injEq, exists_eq_left', Nat.zero_add, Value.int.injEq, Value.ref.injEq, List.cons.injEq, exists_and_left, and_assoc, exists_eq_left, N_44, C_44, B_44_0, bk_44_0, h0, hc, s_ne, n_add, n_mul, n_sub, n_cl, n_in, n_eq, n_lt, n_le, o_add_l, o_add_r, o_mul_l, o_mul_r, o_sub_l, o_sub_r, o_lt_l, o_lt_r, o_le_l, o_le_r, o_eq_l, o_eq_r, o_eq, o_lt, o_le, o_cl, o_in, n_m1, n_m1', n_ne0, if_pos, if_neg, not_true_eq_false, not_false_eq_true, or_true, true_or, or_false, false_or, false_and, and_false, Nat.reduceEqDiff, Nat.reduceLT, Nat.reduceMul, Nat.not_lt_zero, Nat.zero_le, Nat.le_refl, ne_eq, reduceIte, reduceCtorEq, C_45, m_putGap h]
theorem m_copyGap {K : mK} {R : Nat → Nat → Option Nat} {I : Nat → Nat → Int32} {a b g q : Nat} {Q : Option Value → mH → Prop} (h : zW K R a) (h' : zW K R b) (hg : g < 32) (hq : q < 32) (hab : a + 4 ≤ b ∨ b + 4 ≤ a) : EvM 46 [.ref a, .ref b, .int (nI g), .int (nI q)] (K, R, I) Q ↔ Q none (K, R, mSet (mSet (mSet I (a + 1) q (I (b + 1) g)) (a + 2) q (I (b + 2) g)) (a + 3) q (I (b + 3) g)) := by
  obtain ⟨h0, h1, h2, h3, r0, r1, r2, h4⟩ := id h
  obtain ⟨h0', h1', h2', h3', r0', r1', r2', h4'⟩ := id h'
  unfold EvM
  simp (disch := omega) only [e_iconst, e_bipush, e_sipush, e_iload_n, e_iload, e_aload_n, e_aload, e_istore_n, e_istore, e_astore_n, e_astore, e_iinc, e_iadd, e_isub, e_imul, e_iand, e_ishr, e_idiv, e_i2c, e_dup_i, e_dup_r, e_dup2, e_pop, e_goto, e_nop, e_if_eq, e_if_ne, e_if_lt, e_if_ge, e_if_gt, e_if_le, e_icmp_eq, e_icmp_ne, e_icmp_lt, e_icmp_ge, e_icmp_gt, e_icmp_le, e_tsw, e_ret0, e_ret1, e_retn, e_getI, e_getZ, e_getR, e_getV, e_getC, e_putI, e_putZ, e_putF, e_gst0, e_gst1, e_sld, e_iald, e_cald, e_bald, e_iast, e_cast, e_aald, e_aast, e_alen, e_slen, e_blen, e_newa, e_newq, e_new, e_oinit, e_ctor, e_virt, e_stat, e_min, e_copy, e_ldc, List.cons_append, List.nil_append, List.append_nil, List.length_cons, List.length_nil, List.replicate_succ, List.replicate_zero, List.getElem?_cons_zero, List.getElem?_cons_succ, List.set_cons_zero, List.set_cons_succ, List.take_succ_cons, List.take_zero, List.drop_succ_cons, List.drop_zero, List.reverse_cons, List.reverse_nil, Option.toList_some, Option.toList_none, Nat.reduceSub, Nat.reduceAdd, Nat.reduceLeDiff, true_and, and_true, and_self, Option.some.injEq, exists_eq_left', Nat.zero_add, Value.int.injEq, Value.ref.injEq, List.cons.injEq, exists_and_left, and_assoc, exists_eq_left, N_46, C_46, B_46_0, bk_46_0, h0, h1, h2, h3, r0, r1, r2, h0', h1', h2', h3', r0', r1', r2', s_ne, n_add, n_mul, n_sub, n_cl, n_in, n_eq, n_lt, n_le, o_add_l, o_add_r, o_mul_l, o_mul_r, o_sub_l, o_sub_r, o_lt_l, o_lt_r, o_le_l, o_le_r, o_eq_l, o_eq_r, o_eq, o_lt, o_le, o_cl, o_in, n_m1, n_m1', n_ne0, if_pos, if_neg, not_true_eq_false, not_false_eq_true, or_true, true_or, or_false, false_or, false_and, and_false, Nat.reduceEqDiff, Nat.reduceLT, Nat.reduceMul, Nat.not_lt_zero, Nat.zero_le, Nat.le_refl, ne_eq, reduceIte, reduceCtorEq]
theorem mCpy_o' {I : Nat → Nat → Int32} {p sp q dp n : Nat} {b : Nat} (h : b ≠ q) : mCpy I p sp q dp n b = I b := by
  funext j
  simp [mCpy, h]
/-- what copying a wire leaves -/
def wCp (I : Nat → Nat → Int32) (a b : Nat) : Nat → Nat → Int32 := fun x j => if x = a ∧ 3 ≤ j ∧ j ≤ 6 then I b j else if x = a + 1 ∧ j < 32 then I (b + 1) j else if x = a + 2 ∧ j < 32 then I (b + 2) j else if x = a + 3 ∧ j < 32 then I (b + 3) j else I x j
theorem m_wcopy {K : mK} {R : Nat → Nat → Option Nat} {I : Nat → Nat → Int32} {a b p cl : Nat} {Q : Option Value → mH → Prop} (h : zW K R a) (h' : zW K R b) (hab : a + 4 ≤ b ∨ b + 4 ≤ a) (hp : I b 3 = nI p) (hp1 : p ≤ 1) (hcl : I b 4 = nI cl) (hcl1 : cl ≤ 1) : EvM 36 [.ref a, .ref b] (K, R, I) Q ↔ Q none (K, R, wCp I a b) := by
  obtain ⟨h0, h1, h2, h3, r0, r1, r2, h4⟩ := id h
  obtain ⟨h0', h1', h2', h3', r0', r1', r2', h4'⟩ := id h'
  refine EvM_iff ?_
  unfold EvM
  have c1 : ∀ {J : Nat → Nat → Int32} {o q sp dp n x j : Nat}, x ≠ q → mCpy J o sp q dp n x j = J x j := fun e => by rw [mCpy_o' e]
  simp (disch := omega) only [e_iconst, e_bipush, e_sipush, e_iload_n, e_iload, e_aload_n, e_aload, e_istore_n, e_istore, e_astore_n, e_astore, e_iinc, e_iadd, e_isub, e_imul, e_iand, e_ishr, e_idiv, e_i2c, e_dup_i, e_dup_r, e_dup2, e_pop, e_goto, e_nop, e_if_eq, e_if_ne, e_if_lt, e_if_ge, e_if_gt, e_if_le, e_icmp_eq, e_icmp_ne, e_icmp_lt, e_icmp_ge, e_icmp_gt, e_icmp_le, e_tsw, e_ret0, e_ret1, e_retn, e_getI, e_getZ, e_getR, e_getV, e_getC, e_putI, e_putZ, e_putF, e_gst0, e_gst1, e_sld, e_iald, e_cald, e_bald, e_iast, e_cast, e_aald, e_aast, e_alen, e_slen, e_blen, e_newa, e_newq, e_new, e_oinit, e_ctor, e_virt, e_stat, e_min, e_copy, e_ldc, List.cons_append, List.nil_append, List.append_nil, List.length_cons, List.length_nil, List.replicate_succ, List.replicate_zero, List.getElem?_cons_zero, List.getElem?_cons_succ, List.set_cons_zero, List.set_cons_succ, List.take_succ_cons, List.take_zero, List.drop_succ_cons, List.drop_zero, List.reverse_cons, List.reverse_nil, Option.toList_some, Option.toList_none, Nat.reduceSub, Nat.reduceAdd, Nat.reduceLeDiff, true_and, and_true, and_self, Option.some.injEq, exists_eq_left', Nat.zero_add, Value.int.injEq, Value.ref.injEq, List.cons.injEq, exists_and_left, and_assoc, exists_eq_left, N_36, C_36, B_36_0, bk_36_0, h0, h1, h2, h3, r0, r1, r2, h0', h1', h2', h3', r0', r1', r2', s_ne, c1, hp, hcl, n_add, n_mul, n_sub, n_cl, n_in, n_eq, n_lt, n_le, o_add_l, o_add_r, o_mul_l, o_mul_r, o_sub_l, o_sub_r, o_lt_l, o_lt_r, o_le_l, o_le_r, o_eq_l, o_eq_r, o_eq, o_lt, o_le, o_cl, o_in, n_m1, n_m1', n_ne0, if_pos, if_neg, not_true_eq_false, not_false_eq_true, or_true, true_or, or_false, false_or, false_and, and_false, Nat.reduceEqDiff, Nat.reduceLT, Nat.reduceMul, Nat.not_lt_zero, Nat.zero_le, Nat.le_refl, ne_eq, reduceIte, reduceCtorEq]
  refine ⟨by omega, by omega, ?_⟩
  congr 2
  rw [← hp, ← hcl]
  (funext x_ j_; simp only [mSet, mCpy, mSetR, wCp]; (repeat' split); all_goals first | rfl | (exfalso; omega) | (congr 1; omega) | (congr 1 <;> omega) | (simp_all; done))
/-- the stretch by the rule -/
def vStr (ru pu k n : Int32) : Int32 := if ru = 1 then 2 * pu * pu + pu * k else if ru = 2 then 2 * pu * pu + pu * (n - 1 - k) else 4 * pu * pu
theorem m_stretchOf' {r p g n : Int32} {h : mH} {Q : Option Value → mH → Prop} : EvM 87 [.int r, .int p, .int g, .int n] h Q ↔ Q (some (.int (vStr r p g n))) h := m_stretchOf
def wLn (I : Nat → Nat → Int32) (a : Nat) (ru pu : Int32) (n k : Nat) : Int32 := I (a + 1) k + I (a + 1) k * vStr ru pu (nI k) (nI n) / 10000
def wBd (I : Nat → Nat → Int32) (a : Nat) (ru li pu : Int32) (n : Nat) (k : Nat) : Bool := !decide (wLn I a ru pu n k * 100 ≤ I (a + 2) k * li)
/-- the cells after the first m gaps are stretched -/
def wSt (I : Nat → Nat → Int32) (a : Nat) (ru pu : Int32) (n m : Nat) : Nat → Nat → Int32 := fun x j => if x = a + 1 ∧ j < m then wLn I a ru pu n j else I x j
theorem wSt_ge {I : Nat → Nat → Int32} {a n m j : Nat} {ru pu : Int32} (h : m ≤ j) : wSt I a ru pu n m (a + 1) j = I (a + 1) j := if_neg (by omega)
theorem wSt_o {I : Nat → Nat → Int32} {a n m x j : Nat} {ru pu : Int32} (h : x ≠ a + 1) : wSt I a ru pu n m x j = I x j := if_neg (by omega)
theorem m_stretch {K : mK} {R : Nat → Nat → Option Nat} {I : Nat → Nat → Int32} {a p cl c : Nat} {ru li pu : Int32} {Q : Option Value → mH → Prop} (h : zW K R a) (hf : wF I a p cl c) : EvM 51 [.ref a, .int ru, .int li, .int pu] (K, R, I) Q ↔ Q (some (.int (if fB (wBd I a ru li pu (ngp p cl c)) (ngp p cl c) (ngp p cl c) = ngp p cl c then -1 else nI (fB (wBd I a ru li pu (ngp p cl c)) (ngp p cl c) (ngp p cl c))))) (K, R, wSt I a ru pu (ngp p cl c) (ngp p cl c)) := by
  obtain ⟨h0, h1, h2, h3, r0, r1, r2, h4⟩ := id h
  have hn : ngp p cl c ≤ 32 := by obtain ⟨f1, f2, f3, f4, f5, f6⟩ := hf; unfold ngp; split <;> omega
  refine EvM_iff ?_
  unfold EvM
  simp (disch := omega) only [e_iconst, e_bipush, e_sipush, e_iload_n, e_iload, e_aload_n, e_aload, e_istore_n, e_istore, e_astore_n, e_astore, e_iinc, e_iadd, e_isub, e_imul, e_iand, e_ishr, e_idiv, e_i2c, e_dup_i, e_dup_r, e_dup2, e_pop, e_goto, e_nop, e_if_eq, e_if_ne, e_if_lt, e_if_ge, e_if_gt, e_if_le, e_icmp_eq, e_icmp_ne, e_icmp_lt, e_icmp_ge, e_icmp_gt, e_icmp_le, e_tsw, e_ret0, e_ret1, e_retn, e_getI, e_getZ, e_getR, e_getV, e_getC, e_putI, e_putZ, e_putF, e_gst0, e_gst1, e_sld, e_iald, e_cald, e_bald, e_iast, e_cast, e_aald, e_aast, e_alen, e_slen, e_blen, e_newa, e_newq, e_new, e_oinit, e_ctor, e_virt, e_stat, e_min, e_copy, e_ldc, List.cons_append, List.nil_append, List.append_nil, List.length_cons, List.length_nil, List.replicate_succ, List.replicate_zero, List.getElem?_cons_zero, List.getElem?_cons_succ, List.set_cons_zero, List.set_cons_succ, List.take_succ_cons, List.take_zero, List.drop_succ_cons, List.drop_zero, List.reverse_cons, List.reverse_nil, Option.toList_some, Option.toList_none, Nat.reduceSub, Nat.reduceAdd, Nat.reduceLeDiff, true_and, and_true, and_self, Option.some.injEq, exists_eq_left', Nat.zero_add, Value.int.injEq, Value.ref.injEq, List.cons.injEq, exists_and_left, and_assoc, exists_eq_left, N_51, B_51_0, bk_51_0, h0, C_37, m_gapsN h hf, n_add, n_mul, n_sub, n_cl, n_in, n_eq, n_lt, n_le, o_add_l, o_add_r, o_mul_l, o_mul_r, o_sub_l, o_sub_r, o_lt_l, o_lt_r, o_le_l, o_le_r, o_eq_l, o_eq_r, o_eq, o_lt, o_le, o_cl, o_in, n_m1, n_m1', n_ne0, if_pos, if_neg, not_true_eq_false, not_false_eq_true, or_true, true_or, or_false, false_or, false_and, and_false, Nat.reduceEqDiff, Nat.reduceLT, Nat.reduceMul, Nat.not_lt_zero, Nat.zero_le, Nat.le_refl, ne_eq, reduceIte, reduceCtorEq]
  generalize ngp p cl c = n at hn ⊢
  have key := loop_dn (n := n) (P := fun k => Ev 51 (mB 51 12) [.ref a, .int ru, .int li, .int pu, .int (nI n), .int (if fB (wBd I a ru li pu n) n k = n then -1 else nI (fB (wBd I a ru li pu n) n k)), .int (nI k)] [] (K, R, wSt I a ru pu n k) (fun v k => v = some (.int (if fB (wBd I a ru li pu n) n n = n then -1 else nI (fB (wBd I a ru li pu n) n n))) ∧ k = (K, R, wSt I a ru pu n n))) ?_ ?_
  · refine Ev_cg ?_ ?_ key
    · funext x j; simp [wSt]
    · simp [fB]; rfl
  · intro k hk hnext
    have hb := (fB_le (wBd I a ru li pu n) n k (by omega)).1
    have hI : wSt I a ru pu n (k + 1) = mSet (wSt I a ru pu n k) (a + 1) k (I (a + 1) k + I (a + 1) k * vStr ru pu (nI k) (nI n) / 10000) := by
      funext x j
      simp only [mSet, wSt]
      by_cases c1 : x = a + 1 ∧ j = k
      · obtain ⟨rfl, rfl⟩ := c1
        rw [if_pos ⟨rfl, by omega⟩, if_pos ⟨rfl, rfl⟩]; rfl
      · rw [if_neg c1]
        by_cases c2 : x = a + 1 ∧ j < k
        · rw [if_pos c2, if_pos ⟨c2.1, by omega⟩]
        · rw [if_neg c2, if_neg (by omega)]
    rw [hI] at hnext
    obtain ⟨bb, hbb⟩ : ∃ bb : Int32, (if fB (wBd I a ru li pu n) n k = n then -1 else nI (fB (wBd I a ru li pu n) n k)) = bb := ⟨_, rfl⟩
    rw [hbb, B_51_12]
    simp (disch := omega) only [e_iconst, e_bipush, e_sipush, e_iload_n, e_iload, e_aload_n, e_aload, e_istore_n, e_istore, e_astore_n, e_astore, e_iinc, e_iadd, e_isub, e_imul, e_iand, e_ishr, e_idiv, e_i2c, e_dup_i, e_dup_r, e_dup2, e_pop, e_goto, e_nop, e_if_eq, e_if_ne, e_if_lt, e_if_ge, e_if_gt, e_if_le, e_icmp_eq, e_icmp_ne, e_icmp_lt, e_icmp_ge, e_icmp_gt, e_icmp_le, e_tsw, e_ret0, e_ret1, e_retn, e_getI, e_getZ, e_getR, e_getV, e_getC, e_putI, e_putZ, e_putF, e_gst0, e_gst1, e_sld, e_iald, e_cald, e_bald, e_iast, e_cast, e_aald, e_aast, e_alen, e_slen, e_blen, e_newa, e_newq, e_new, e_oinit, e_ctor, e_virt, e_stat, e_min, e_copy, e_ldc, List.cons_append, List.nil_append, List.append_nil, List.length_cons, List.length_nil, List.replicate_succ, List.replicate_zero, List.getElem?_cons_zero, List.getElem?_cons_succ, List.set_cons_zero, List.set_cons_succ, List.take_succ_cons, List.take_zero, List.drop_succ_cons, List.drop_zero, List.reverse_cons, List.reverse_nil, Option.toList_some, Option.toList_none, Nat.reduceSub, Nat.reduceAdd, Nat.reduceLeDiff, true_and, and_true, and_self, Option.some.injEq, exists_eq_left', Nat.zero_add, Value.int.injEq, Value.ref.injEq, List.cons.injEq, exists_and_left, and_assoc, exists_eq_left, bk_51_12, h0, h1, h2, h3, r0, r1, r2, n_le, n_in, n_cl, if_neg, m_stretchOf', s_eq, s_ne, wSt_ge, wSt_o, o_eq, if_pos, if_neg, not_true_eq_false, not_false_eq_true, or_true, true_or, or_false, false_or, false_and, and_false, Nat.reduceEqDiff, Nat.reduceLT, Nat.reduceMul, Nat.not_lt_zero, Nat.zero_le, Nat.le_refl, ne_eq, reduceIte, reduceCtorEq, B_51_82, bk_51_82, o_add_l]
    by_cases e : fB (wBd I a ru li pu n) n k = n
    · rw [if_pos e] at hbb
      subst hbb
      rw [if_neg (by simp)]
      by_cases e2 : wLn I a ru pu n k * 100 ≤ I (a + 2) k * li
      · rw [if_pos (show (I (a + 1) k + I (a + 1) k * vStr ru pu (nI k) (nI n) / 10000) * 100 ≤ _ from e2)]
        refine Ev_cg rfl ?_ hnext
        simp [fB, e, wBd, e2]
      · rw [if_neg (show ¬ (I (a + 1) k + I (a + 1) k * vStr ru pu (nI k) (nI n) / 10000) * 100 ≤ _ from e2)]
        refine Ev_cg rfl ?_ hnext
        have e3 : ¬ k = n := by omega
        simp [fB, e, wBd, e2, e3]
    · rw [if_neg e] at hbb
      subst hbb
      rw [if_pos (n_m1 (by omega))]
      refine Ev_cg rfl ?_ hnext
      simp [fB, e]
  · rw [B_51_12]
    simp (disch := omega) only [e_iconst, e_bipush, e_sipush, e_iload_n, e_iload, e_aload_n, e_aload, e_istore_n, e_istore, e_astore_n, e_astore, e_iinc, e_iadd, e_isub, e_imul, e_iand, e_ishr, e_idiv, e_i2c, e_dup_i, e_dup_r, e_dup2, e_pop, e_goto, e_nop, e_if_eq, e_if_ne, e_if_lt, e_if_ge, e_if_gt, e_if_le, e_icmp_eq, e_icmp_ne, e_icmp_lt, e_icmp_ge, e_icmp_gt, e_icmp_le, e_tsw, e_ret0, e_ret1, e_retn, e_getI, e_getZ, e_getR, e_getV, e_getC, e_putI, e_putZ, e_putF, e_gst0, e_gst1, e_sld, e_iald, e_cald, e_bald, e_iast, e_cast, e_aald, e_aast, e_alen, e_slen, e_blen, e_newa, e_newq, e_new, e_oinit, e_ctor, e_virt, e_stat, e_min, e_copy, e_ldc, List.cons_append, List.nil_append, List.append_nil, List.length_cons, List.length_nil, List.replicate_succ, List.replicate_zero, List.getElem?_cons_zero, List.getElem?_cons_succ, List.set_cons_zero, List.set_cons_succ, List.take_succ_cons, List.take_zero, List.drop_succ_cons, List.drop_zero, List.reverse_cons, List.reverse_nil, Option.toList_some, Option.toList_none, Nat.reduceSub, Nat.reduceAdd, Nat.reduceLeDiff, true_and, and_true, and_self, Option.some.injEq, exists_eq_left', Nat.zero_add, Value.int.injEq, Value.ref.injEq, List.cons.injEq, exists_and_left, and_assoc, exists_eq_left, bk_51_12, B_51_88, bk_51_88, h0, h1, h2, h3, r0, r1, r2, n_add, n_mul, n_sub, n_cl, n_in, n_eq, n_lt, n_le, o_add_l, o_add_r, o_mul_l, o_mul_r, o_sub_l, o_sub_r, o_lt_l, o_lt_r, o_le_l, o_le_r, o_eq_l, o_eq_r, o_eq, o_lt, o_le, o_cl, o_in, n_m1, n_m1', n_ne0, if_pos, if_neg, not_true_eq_false, not_false_eq_true, or_true, true_or, or_false, false_or, false_and, and_false, Nat.reduceEqDiff, Nat.reduceLT, Nat.reduceMul, Nat.not_lt_zero, Nat.zero_le, Nat.le_refl, ne_eq, reduceIte, reduceCtorEq]
end
section
/-! THE WIRE, further: tails, joining, breaking, sums, the nearest gap -/
/-- the cells after k gaps of b from l + 1 on went behind ca letters of a -/
def wAp (I : Nat → Nat → Int32) (a b ca l k : Nat) : Nat → Nat → Int32 := fun x j =>
  if (x = a + 1 ∨ x = a + 2 ∨ x = a + 3) ∧ ca + 1 ≤ j ∧ j < ca + 1 + k then I (b + (x - a)) (l + 1 + (j - (ca + 1))) else I x j
theorem wAp_o {I : Nat → Nat → Int32} {a b ca l k x j : Nat} (h : x < a + 1 ∨ a + 3 < x) : wAp I a b ca l k x j = I x j := if_neg (by omega)
theorem wAp_s {I : Nat → Nat → Int32} {a b ca l k : Nat} (hab : a + 4 ≤ b ∨ b + 4 ≤ a) : wAp I a b ca l (k + 1) = mSet (mSet (mSet (wAp I a b ca l k) (a + 1) (ca + 1 + k) (wAp I a b ca l k (b + 1) (l + 1 + k))) (a + 2) (ca + 1 + k) (wAp I a b ca l k (b + 2) (l + 1 + k))) (a + 3) (ca + 1 + k) (wAp I a b ca l k (b + 3) (l + 1 + k)) := by
  rw [wAp_o (x := b + 1) (by omega), wAp_o (x := b + 2) (by omega), wAp_o (x := b + 3) (by omega)]
  funext x j
  simp only [mSet]
  by_cases c1 : (x = a + 1 ∨ x = a + 2 ∨ x = a + 3) ∧ j = ca + 1 + k
  · obtain ⟨c1, rfl⟩ := c1
    rw [wAp, if_pos ⟨c1, by omega, by omega⟩, show l + 1 + (ca + 1 + k - (ca + 1)) = l + 1 + k by omega]
    rcases c1 with rfl | rfl | rfl
    · rw [if_neg (by omega), if_neg (by omega), if_pos ⟨rfl, rfl⟩, show b + (a + 1 - a) = b + 1 by omega]
    · rw [if_neg (by omega), if_pos ⟨rfl, rfl⟩, show b + (a + 2 - a) = b + 2 by omega]
    · rw [if_pos ⟨rfl, rfl⟩, show b + (a + 3 - a) = b + 3 by omega]
  · rw [if_neg (by omega), if_neg (by omega), if_neg (by omega), wAp, wAp]
    by_cases c2 : (x = a + 1 ∨ x = a + 2 ∨ x = a + 3) ∧ ca + 1 ≤ j ∧ j < ca + 1 + k
    · rw [if_pos c2, if_pos (by omega)]
    · rw [if_neg c2, if_neg (by omega)]
theorem m_appendBehind {K : mK} {R : Nat → Nat → Option Nat} {I : Nat → Nat → Int32} {a b ca cl c l : Nat} {Q : Option Value → mH → Prop} (h : zW K R a) (h' : zW K R b) (hab : a + 4 ≤ b ∨ b + 4 ≤ a) (hca : I a 5 = nI ca) (hf : wF I b 1 cl c) (hl : l ≤ c) (hr : ca + (c - l) ≤ 30) :
    EvM 49 [.ref a, .ref b, .int (nI l)] (K, R, I) Q ↔ Q none (K, R, mSet (mSet (wAp I a b ca l (c + cl - l)) a 5 (nI (ca + (c - l)))) a 4 (nI cl)) := by
  obtain ⟨h0, h1, h2, h3, r0, r1, r2, h4⟩ := id h
  obtain ⟨h0', h1', h2', h3', r0', r1', r2', h4'⟩ := id h'
  obtain ⟨f1, f2, f3, f4, f5, f6⟩ := id hf
  refine EvM_iff ?_
  unfold EvM
  have hg : ngp 1 cl c = c + 1 + cl := rfl
  simp (disch := omega) only [e_iconst, e_bipush, e_sipush, e_iload_n, e_iload, e_aload_n, e_aload, e_istore_n, e_istore, e_astore_n, e_astore, e_iinc, e_iadd, e_isub, e_imul, e_iand, e_ishr, e_idiv, e_i2c, e_dup_i, e_dup_r, e_dup2, e_pop, e_goto, e_nop, e_if_eq, e_if_ne, e_if_lt, e_if_ge, e_if_gt, e_if_le, e_icmp_eq, e_icmp_ne, e_icmp_lt, e_icmp_ge, e_icmp_gt, e_icmp_le, e_tsw, e_ret0, e_ret1, e_retn, e_getI, e_getZ, e_getR, e_getV, e_getC, e_putI, e_putZ, e_putF, e_gst0, e_gst1, e_sld, e_iald, e_cald, e_bald, e_iast, e_cast, e_aald, e_aast, e_alen, e_slen, e_blen, e_newa, e_newq, e_new, e_oinit, e_ctor, e_virt, e_stat, e_min, e_copy, e_ldc, List.cons_append, List.nil_append, List.append_nil, List.length_cons, List.length_nil, List.replicate_succ, List.replicate_zero, List.getElem?_cons_zero, List.getElem?_cons_succ, List.set_cons_zero, List.set_cons_succ, List.take_succ_cons, List.take_zero, List.drop_succ_cons, List.drop_zero, List.reverse_cons, List.reverse_nil, Option.toList_some, Option.toList_none, Nat.reduceSub, Nat.reduceAdd, Nat.reduceLeDiff, true_and, and_true, and_self, Option.some.injEq, exists_eq_left', Nat.zero_add, Value.int.injEq, Value.ref.injEq, List.cons.injEq, exists_and_left, and_assoc, exists_eq_left, N_49, B_49_0, bk_49_0, h0, h0', C_37, m_gapsN h' hf, hg, hca, o_add_l, if_pos, if_neg, not_true_eq_false, not_false_eq_true, or_true, true_or, or_false, false_or, false_and, and_false, Nat.reduceEqDiff, Nat.reduceLT, Nat.reduceMul, Nat.not_lt_zero, Nat.zero_le, Nat.le_refl, ne_eq, reduceIte, reduceCtorEq]
  have key := loop_dn (n := c + cl - l) (P := fun k => Ev 49 (mB 49 18) [.ref a, .ref b, .int (nI l), .int (nI (c + 1 + cl)), .int (nI (ca + 1 + k)), .int (nI (l + 1 + k))] [] (K, R, wAp I a b ca l k) (fun v k => v = none ∧ k = (K, R, mSet (mSet (wAp I a b ca l (c + cl - l)) a 5 (nI (ca + (c - l)))) a 4 (nI cl)))) ?_ ?_
  · refine Ev_cg ?_ rfl key
    funext x j; rw [wAp, if_neg (by omega)]
  · intro k hk hnext
    rw [B_49_18]
    simp (disch := omega) only [e_iconst, e_bipush, e_sipush, e_iload_n, e_iload, e_aload_n, e_aload, e_istore_n, e_istore, e_astore_n, e_astore, e_iinc, e_iadd, e_isub, e_imul, e_iand, e_ishr, e_idiv, e_i2c, e_dup_i, e_dup_r, e_dup2, e_pop, e_goto, e_nop, e_if_eq, e_if_ne, e_if_lt, e_if_ge, e_if_gt, e_if_le, e_icmp_eq, e_icmp_ne, e_icmp_lt, e_icmp_ge, e_icmp_gt, e_icmp_le, e_tsw, e_ret0, e_ret1, e_retn, e_getI, e_getZ, e_getR, e_getV, e_getC, e_putI, e_putZ, e_putF, e_gst0, e_gst1, e_sld, e_iald, e_cald, e_bald, e_iast, e_cast, e_aald, e_aast, e_alen, e_slen, e_blen, e_newa, e_newq, e_new, e_oinit, e_ctor, e_virt, e_stat, e_min, e_copy, e_ldc, List.cons_append, List.nil_append, List.append_nil, List.length_cons, List.length_nil, List.replicate_succ, List.replicate_zero, List.getElem?_cons_zero, List.getElem?_cons_succ, List.set_cons_zero, List.set_cons_succ, List.take_succ_cons, List.take_zero, List.drop_succ_cons, List.drop_zero, List.reverse_cons, List.reverse_nil, Option.toList_some, Option.toList_none, Nat.reduceSub, Nat.reduceAdd, Nat.reduceLeDiff, true_and, and_true, and_self, Option.some.injEq, exists_eq_left', Nat.zero_add, Value.int.injEq, Value.ref.injEq, List.cons.injEq, exists_and_left, and_assoc, exists_eq_left, bk_49_18, h0, h0', C_46, m_copyGap h h' (show l + 1 + k < 32 by omega) (show ca + 1 + k < 32 by omega) hab, n_le, o_le_r, if_neg, o_add_l, if_pos, if_neg, not_true_eq_false, not_false_eq_true, or_true, true_or, or_false, false_or, false_and, and_false, Nat.reduceEqDiff, Nat.reduceLT, Nat.reduceMul, Nat.not_lt_zero, Nat.zero_le, Nat.le_refl, ne_eq, reduceIte, reduceCtorEq]
    rw [wAp_s hab] at hnext
    exact hnext
  · rw [B_49_18]
    simp (disch := omega) only [e_iconst, e_bipush, e_sipush, e_iload_n, e_iload, e_aload_n, e_aload, e_istore_n, e_istore, e_astore_n, e_astore, e_iinc, e_iadd, e_isub, e_imul, e_iand, e_ishr, e_idiv, e_i2c, e_dup_i, e_dup_r, e_dup2, e_pop, e_goto, e_nop, e_if_eq, e_if_ne, e_if_lt, e_if_ge, e_if_gt, e_if_le, e_icmp_eq, e_icmp_ne, e_icmp_lt, e_icmp_ge, e_icmp_gt, e_icmp_le, e_tsw, e_ret0, e_ret1, e_retn, e_getI, e_getZ, e_getR, e_getV, e_getC, e_putI, e_putZ, e_putF, e_gst0, e_gst1, e_sld, e_iald, e_cald, e_bald, e_iast, e_cast, e_aald, e_aast, e_alen, e_slen, e_blen, e_newa, e_newq, e_new, e_oinit, e_ctor, e_virt, e_stat, e_min, e_copy, e_ldc, List.cons_append, List.nil_append, List.append_nil, List.length_cons, List.length_nil, List.replicate_succ, List.replicate_zero, List.getElem?_cons_zero, List.getElem?_cons_succ, List.set_cons_zero, List.set_cons_succ, List.take_succ_cons, List.take_zero, List.drop_succ_cons, List.drop_zero, List.reverse_cons, List.reverse_nil, Option.toList_some, Option.toList_none, Nat.reduceSub, Nat.reduceAdd, Nat.reduceLeDiff, true_and, and_true, and_self, Option.some.injEq, exists_eq_left', Nat.zero_add, Value.int.injEq, Value.ref.injEq, List.cons.injEq, exists_and_left, and_assoc, exists_eq_left, bk_49_18, B_49_49, bk_49_49, h0, h0', n_le, if_pos, f3, f2, hca, wAp_o, n_sub, n_add, s_ne, if_pos, if_neg, not_true_eq_false, not_false_eq_true, or_true, true_or, or_false, false_or, false_and, and_false, Nat.reduceEqDiff, Nat.reduceLT, Nat.reduceMul, Nat.not_lt_zero, Nat.zero_le, Nat.le_refl, ne_eq, reduceIte, reduceCtorEq]
    rcases (show cl = 0 ∨ cl = 1 by omega) with rfl | rfl
    · exact Or.inl rfl
    · exact Or.inr rfl
theorem m_breakAt {K : mK} {R : Nat → Nat → Option Nat} {I : Nat → Nat → Int32} {a c g : Nat} {Q : Option Value → mH → Prop} (h : zW K R a) (hc : I a 5 = nI c) (hc2 : c ≤ 30) (hg : g < 32) :
    EvM 52 [.ref a, .int (nI g)] (K, R, I) Q ↔ Q none (K, R, if g = 0 then mSet (mSet (mSet (mSet I a 3 0) a 4 0) a 5 0) a 6 0 else mSet (mSet I a 5 (nI (if c < g - 1 then c else g - 1))) a 4 0) := by
  obtain ⟨h0, h1, h2, h3, r0, r1, r2, h4⟩ := id h
  refine EvM_iff ?_
  unfold EvM
  by_cases e : g = 0
  · subst e
    simp (disch := omega) only [e_iconst, e_bipush, e_sipush, e_iload_n, e_iload, e_aload_n, e_aload, e_istore_n, e_istore, e_astore_n, e_astore, e_iinc, e_iadd, e_isub, e_imul, e_iand, e_ishr, e_idiv, e_i2c, e_dup_i, e_dup_r, e_dup2, e_pop, e_goto, e_nop, e_if_eq, e_if_ne, e_if_lt, e_if_ge, e_if_gt, e_if_le, e_icmp_eq, e_icmp_ne, e_icmp_lt, e_icmp_ge, e_icmp_gt, e_icmp_le, e_tsw, e_ret0, e_ret1, e_retn, e_getI, e_getZ, e_getR, e_getV, e_getC, e_putI, e_putZ, e_putF, e_gst0, e_gst1, e_sld, e_iald, e_cald, e_bald, e_iast, e_cast, e_aald, e_aast, e_alen, e_slen, e_blen, e_newa, e_newq, e_new, e_oinit, e_ctor, e_virt, e_stat, e_min, e_copy, e_ldc, List.cons_append, List.nil_append, List.append_nil, List.length_cons, List.length_nil, List.replicate_succ, List.replicate_zero, List.getElem?_cons_zero, List.getElem?_cons_succ, List.set_cons_zero, List.set_cons_succ, List.take_succ_cons, List.take_zero, List.drop_succ_cons, List.drop_zero, List.reverse_cons, List.reverse_nil, Option.toList_some, Option.toList_none, Nat.reduceSub, Nat.reduceAdd, Nat.reduceLeDiff, true_and, and_true, and_self, Option.some.injEq, exists_eq_left', Nat.zero_add, Value.int.injEq, Value.ref.injEq, List.cons.injEq, exists_and_left, and_assoc, exists_eq_left, N_52, C_52, B_52_0, bk_52_0, B_52_9, bk_52_9, h0, C_41, m_empty h, o_lt_r, Nat.lt_irrefl, if_pos, if_neg, not_true_eq_false, not_false_eq_true, or_true, true_or, or_false, false_or, false_and, and_false, Nat.reduceEqDiff, Nat.reduceLT, Nat.reduceMul, Nat.not_lt_zero, Nat.zero_le, Nat.le_refl, ne_eq, reduceIte, reduceCtorEq]
  · simp (disch := omega) only [e_iconst, e_bipush, e_sipush, e_iload_n, e_iload, e_aload_n, e_aload, e_istore_n, e_istore, e_astore_n, e_astore, e_iinc, e_iadd, e_isub, e_imul, e_iand, e_ishr, e_idiv, e_i2c, e_dup_i, e_dup_r, e_dup2, e_pop, e_goto, e_nop, e_if_eq, e_if_ne, e_if_lt, e_if_ge, e_if_gt, e_if_le, e_icmp_eq, e_icmp_ne, e_icmp_lt, e_icmp_ge, e_icmp_gt, e_icmp_le, e_tsw, e_ret0, e_ret1, e_retn, e_getI, e_getZ, e_getR, e_getV, e_getC, e_putI, e_putZ, e_putF, e_gst0, e_gst1, e_sld, e_iald, e_cald, e_bald, e_iast, e_cast, e_aald, e_aast, e_alen, e_slen, e_blen, e_newa, e_newq, e_new, e_oinit, e_ctor, e_virt, e_stat, e_min, e_copy, e_ldc, List.cons_append, List.nil_append, List.append_nil, List.length_cons, List.length_nil, List.replicate_succ, List.replicate_zero, List.getElem?_cons_zero, List.getElem?_cons_succ, List.set_cons_zero, List.set_cons_succ, List.take_succ_cons, List.take_zero, List.drop_succ_cons, List.drop_zero, List.reverse_cons, List.reverse_nil, Option.toList_some, Option.toList_none, Nat.reduceSub, Nat.reduceAdd, Nat.reduceLeDiff, true_and, and_true, and_self, Option.some.injEq, exists_eq_left', Nat.zero_add, Value.int.injEq, Value.ref.injEq, List.cons.injEq, exists_and_left, and_assoc, exists_eq_left, N_52, C_52, B_52_0, bk_52_0, B_52_9, bk_52_9, h0, hc, o_lt_r, o_sub_l, n_lt, n_sub, if_pos, if_pos, if_neg, not_true_eq_false, not_false_eq_true, or_true, true_or, or_false, false_or, false_and, and_false, Nat.reduceEqDiff, Nat.reduceLT, Nat.reduceMul, Nat.not_lt_zero, Nat.zero_le, Nat.le_refl, ne_eq, reduceIte, reduceCtorEq, e]
    by_cases e2 : g - 1 < c
    · rw [if_pos e2, if_neg (by omega)]
    · by_cases e3 : c < g - 1
      · rw [if_neg e2, if_pos e3]
      · rw [if_neg e2, if_neg e3, show c = g - 1 by omega]
theorem m_takeTail {K : mK} {R : Nat → Nat → Option Nat} {I : Nat → Nat → Int32} {a b cl c l : Nat} {Q : Option Value → mH → Prop} (h : zW K R a) (h' : zW K R b) (hab : a + 4 ≤ b ∨ b + 4 ≤ a) (hf : wF I b 1 cl c) (hl : l ≤ c) :
    EvM 47 [.ref a, .ref b, .int (nI l)] (K, R, I) Q ↔ Q none (K, R, mSet (mSet (mSet (mSet (wAp (mSet (mSet (mSet (mSet (mSet (mSet (mSet (mSet I a 3 0) a 4 0) a 5 0) a 6 0) a 3 1) (a + 1) 0 5000) (a + 2) 0 5000) (a + 3) 0 (-1)) a b 0 l (c + cl - l)) a 5 (nI (0 + (c - l)))) a 4 (nI cl)) b 5 (nI l)) b 4 0) := by
  obtain ⟨h0, h1, h2, h3, r0, r1, r2, h4⟩ := id h
  obtain ⟨h0', h1', h2', h3', r0', r1', r2', h4'⟩ := id h'
  obtain ⟨f1, f2, f3, f4, f5, f6⟩ := id hf
  have hf2 : wF (mSet (mSet (mSet (mSet (mSet (mSet (mSet (mSet I a 3 0) a 4 0) a 5 0) a 6 0) a 3 1) (a + 1) 0 5000) (a + 2) 0 5000) (a + 3) 0 (-1)) b 1 cl c := by
    refine ⟨?_, ?_, ?_, f4, f5, f6⟩ <;> simp (disch := omega) only [s_ne, f1, f2, f3]
  have hca : mSet (mSet (mSet (mSet (mSet (mSet (mSet (mSet I a 3 0) a 4 0) a 5 0) a 6 0) a 3 1) (a + 1) 0 5000) (a + 2) 0 5000) (a + 3) 0 (-1) a 5 = nI 0 := by
    simp (disch := omega) only [s_ne, s_eq]; rfl
  unfold EvM
  simp (disch := omega) only [e_iconst, e_bipush, e_sipush, e_iload_n, e_iload, e_aload_n, e_aload, e_istore_n, e_istore, e_astore_n, e_astore, e_iinc, e_iadd, e_isub, e_imul, e_iand, e_ishr, e_idiv, e_i2c, e_dup_i, e_dup_r, e_dup2, e_pop, e_goto, e_nop, e_if_eq, e_if_ne, e_if_lt, e_if_ge, e_if_gt, e_if_le, e_icmp_eq, e_icmp_ne, e_icmp_lt, e_icmp_ge, e_icmp_gt, e_icmp_le, e_tsw, e_ret0, e_ret1, e_retn, e_getI, e_getZ, e_getR, e_getV, e_getC, e_putI, e_putZ, e_putF, e_gst0, e_gst1, e_sld, e_iald, e_cald, e_bald, e_iast, e_cast, e_aald, e_aast, e_alen, e_slen, e_blen, e_newa, e_newq, e_new, e_oinit, e_ctor, e_virt, e_stat, e_min, e_copy, e_ldc, List.cons_append, List.nil_append, List.append_nil, List.length_cons, List.length_nil, List.replicate_succ, List.replicate_zero, List.getElem?_cons_zero, List.getElem?_cons_succ, List.set_cons_zero, List.set_cons_succ, List.take_succ_cons, List.take_zero, List.drop_succ_cons, List.drop_zero, List.reverse_cons, List.reverse_nil, Option.toList_some, Option.toList_none, Nat.reduceSub, Nat.reduceAdd, Nat.reduceLeDiff, true_and, and_true, and_self, Option.some.injEq, exists_eq_left', Nat.zero_add, Value.int.injEq, Value.ref.injEq, List.cons.injEq, exists_and_left, and_assoc, exists_eq_left, N_47, C_47, B_47_0, bk_47_0, h0, h0', C_42, C_49, m_begin h, m_appendBehind h h' hab hca hf2 hl (by omega), if_pos, if_neg, not_true_eq_false, not_false_eq_true, or_true, true_or, or_false, false_or, false_and, and_false, Nat.reduceEqDiff, Nat.reduceLT, Nat.reduceMul, Nat.not_lt_zero, Nat.zero_le, Nat.le_refl, ne_eq, reduceIte, reduceCtorEq]
theorem m_join {K : mK} {R : Nat → Nat → Option Nat} {I : Nat → Nat → Int32} {a b ca cl c : Nat} {Q : Option Value → mH → Prop} (h : zW K R a) (h' : zW K R b) (hab : a + 4 ≤ b ∨ b + 4 ≤ a) (hca : I a 5 = nI ca) (hf : wF I b 1 cl c) (hr : ca + c ≤ 30) :
    EvM 48 [.ref a, .ref b] (K, R, I) Q ↔ Q none (K, R, mSet (mSet (mSet (mSet (mSet (mSet (wAp I a b ca 0 (c + cl - 0)) a 5 (nI (ca + (c - 0)))) a 4 (nI cl)) b 3 0) b 4 0) b 5 0) b 6 0) := by
  obtain ⟨h0, h1, h2, h3, r0, r1, r2, h4⟩ := id h
  obtain ⟨h0', h1', h2', h3', r0', r1', r2', h4'⟩ := id h'
  have e0 : EvM 49 [.ref a, .ref b, .int 0] (K, R, I) (fun v k => v = none ∧ k = (K, R, mSet (mSet (wAp I a b ca 0 (c + cl - 0)) a 5 (nI (ca + (c - 0)))) a 4 (nI cl))) := (m_appendBehind (l := 0) h h' hab hca hf (Nat.zero_le _) (by omega)).mpr ⟨rfl, rfl⟩
  unfold EvM
  simp (disch := omega) only [e_iconst, e_bipush, e_sipush, e_iload_n, e_iload, e_aload_n, e_aload, e_istore_n, e_istore, e_astore_n, e_astore, e_iinc, e_iadd, e_isub, e_imul, e_iand, e_ishr, e_idiv, e_i2c, e_dup_i, e_dup_r, e_dup2, e_pop, e_goto, e_nop, e_if_eq, e_if_ne, e_if_lt, e_if_ge, e_if_gt, e_if_le, e_icmp_eq, e_icmp_ne, e_icmp_lt, e_icmp_ge, e_icmp_gt, e_icmp_le, e_tsw, e_ret0, e_ret1, e_retn, e_getI, e_getZ, e_getR, e_getV, e_getC, e_putI, e_putZ, e_putF, e_gst0, e_gst1, e_sld, e_iald, e_cald, e_bald, e_iast, e_cast, e_aald, e_aast, e_alen, e_slen, e_blen, e_newa, e_newq, e_new, e_oinit, e_ctor, e_virt, e_stat, e_min, e_copy, e_ldc, List.cons_append, List.nil_append, List.append_nil, List.length_cons, List.length_nil, List.replicate_succ, List.replicate_zero, List.getElem?_cons_zero, List.getElem?_cons_succ, List.set_cons_zero, List.set_cons_succ, List.take_succ_cons, List.take_zero, List.drop_succ_cons, List.drop_zero, List.reverse_cons, List.reverse_nil, Option.toList_some, Option.toList_none, Nat.reduceSub, Nat.reduceAdd, Nat.reduceLeDiff, true_and, and_true, and_self, Option.some.injEq, exists_eq_left', Nat.zero_add, Value.int.injEq, Value.ref.injEq, List.cons.injEq, exists_and_left, and_assoc, exists_eq_left, N_48, C_48, B_48_0, bk_48_0, h0, h0', C_41, C_49, EvM_iff e0, m_empty h', if_pos, if_neg, not_true_eq_false, not_false_eq_true, or_true, true_or, or_false, false_or, false_and, and_false, Nat.reduceEqDiff, Nat.reduceLT, Nat.reduceMul, Nat.not_lt_zero, Nat.zero_le, Nat.le_refl, ne_eq, reduceIte, reduceCtorEq]
end
section
/-! THE WIRE, at last: sums, strain, the nearest gap, punching anew -/
def sm (f : Nat → Int32) : Nat → Int32
  | 0 => 0
  | k + 1 => sm f k + f k
theorem ngp_le {p cl c : Nat} (h : cl ≤ 1) (h2 : c ≤ 30) : ngp p cl c ≤ 32 := by unfold ngp; split <;> omega
theorem m_sum {K : mK} {R : Nat → Nat → Option Nat} {I : Nat → Nat → Int32} {a p cl c r : Nat} {Q : Option Value → mH → Prop} (h : zW K R a) (hf : wF I a p cl c) (hr : K.2.2.1 r = (2, 32)) :
    EvM 55 [.ref a, .ref r] (K, R, I) Q ↔ Q (some (.int (sm (I r) (ngp p cl c)))) (K, R, I) := by
  obtain ⟨h0, h1, h2, h3, r0, r1, r2, h4⟩ := id h
  have hn := ngp_le (p := p) hf.2.2.2.2.1 hf.2.2.2.2.2
  refine EvM_iff ?_
  unfold EvM
  simp (disch := omega) only [e_iconst, e_bipush, e_sipush, e_iload_n, e_iload, e_aload_n, e_aload, e_istore_n, e_istore, e_astore_n, e_astore, e_iinc, e_iadd, e_isub, e_imul, e_iand, e_ishr, e_idiv, e_i2c, e_dup_i, e_dup_r, e_dup2, e_pop, e_goto, e_nop, e_if_eq, e_if_ne, e_if_lt, e_if_ge, e_if_gt, e_if_le, e_icmp_eq, e_icmp_ne, e_icmp_lt, e_icmp_ge, e_icmp_gt, e_icmp_le, e_tsw, e_ret0, e_ret1, e_retn, e_getI, e_getZ, e_getR, e_getV, e_getC, e_putI, e_putZ, e_putF, e_gst0, e_gst1, e_sld, e_iald, e_cald, e_bald, e_iast, e_cast, e_aald, e_aast, e_alen, e_slen, e_blen, e_newa, e_newq, e_new, e_oinit, e_ctor, e_virt, e_stat, e_min, e_copy, e_ldc, List.cons_append, List.nil_append, List.append_nil, List.length_cons, List.length_nil, List.replicate_succ, List.replicate_zero, List.getElem?_cons_zero, List.getElem?_cons_succ, List.set_cons_zero, List.set_cons_succ, List.take_succ_cons, List.take_zero, List.drop_succ_cons, List.drop_zero, List.reverse_cons, List.reverse_nil, Option.toList_some, Option.toList_none, Nat.reduceSub, Nat.reduceAdd, Nat.reduceLeDiff, true_and, and_true, and_self, Option.some.injEq, exists_eq_left', Nat.zero_add, Value.int.injEq, Value.ref.injEq, List.cons.injEq, exists_and_left, and_assoc, exists_eq_left, N_55, B_55_0, bk_55_0, h0, C_37, m_gapsN h hf, if_pos, if_neg, not_true_eq_false, not_false_eq_true, or_true, true_or, or_false, false_or, false_and, and_false, Nat.reduceEqDiff, Nat.reduceLT, Nat.reduceMul, Nat.not_lt_zero, Nat.zero_le, Nat.le_refl, ne_eq, reduceIte, reduceCtorEq]
  generalize ngp p cl c = n at hn ⊢
  have key := loop_dn (n := n) (P := fun k => Ev 55 (mB 55 10) [.ref a, .ref r, .int (sm (I r) k), .int (nI n), .int (nI k)] [] (K, R, I) (fun v k => v = some (.int (sm (I r) n)) ∧ k = (K, R, I))) ?_ ?_
  · exact key
  · intro k hk hnext
    rw [B_55_10]
    simp (disch := omega) only [e_iconst, e_bipush, e_sipush, e_iload_n, e_iload, e_aload_n, e_aload, e_istore_n, e_istore, e_astore_n, e_astore, e_iinc, e_iadd, e_isub, e_imul, e_iand, e_ishr, e_idiv, e_i2c, e_dup_i, e_dup_r, e_dup2, e_pop, e_goto, e_nop, e_if_eq, e_if_ne, e_if_lt, e_if_ge, e_if_gt, e_if_le, e_icmp_eq, e_icmp_ne, e_icmp_lt, e_icmp_ge, e_icmp_gt, e_icmp_le, e_tsw, e_ret0, e_ret1, e_retn, e_getI, e_getZ, e_getR, e_getV, e_getC, e_putI, e_putZ, e_putF, e_gst0, e_gst1, e_sld, e_iald, e_cald, e_bald, e_iast, e_cast, e_aald, e_aast, e_alen, e_slen, e_blen, e_newa, e_newq, e_new, e_oinit, e_ctor, e_virt, e_stat, e_min, e_copy, e_ldc, List.cons_append, List.nil_append, List.append_nil, List.length_cons, List.length_nil, List.replicate_succ, List.replicate_zero, List.getElem?_cons_zero, List.getElem?_cons_succ, List.set_cons_zero, List.set_cons_succ, List.take_succ_cons, List.take_zero, List.drop_succ_cons, List.drop_zero, List.reverse_cons, List.reverse_nil, Option.toList_some, Option.toList_none, Nat.reduceSub, Nat.reduceAdd, Nat.reduceLeDiff, true_and, and_true, and_self, Option.some.injEq, exists_eq_left', Nat.zero_add, Value.int.injEq, Value.ref.injEq, List.cons.injEq, exists_and_left, and_assoc, exists_eq_left, bk_55_10, hr, n_le, n_in, n_cl, if_neg, o_add_l, if_pos, if_neg, not_true_eq_false, not_false_eq_true, or_true, true_or, or_false, false_or, false_and, and_false, Nat.reduceEqDiff, Nat.reduceLT, Nat.reduceMul, Nat.not_lt_zero, Nat.zero_le, Nat.le_refl, ne_eq, reduceIte, reduceCtorEq]
    exact hnext
  · rw [B_55_10]
    simp (disch := omega) only [e_iconst, e_bipush, e_sipush, e_iload_n, e_iload, e_aload_n, e_aload, e_istore_n, e_istore, e_astore_n, e_astore, e_iinc, e_iadd, e_isub, e_imul, e_iand, e_ishr, e_idiv, e_i2c, e_dup_i, e_dup_r, e_dup2, e_pop, e_goto, e_nop, e_if_eq, e_if_ne, e_if_lt, e_if_ge, e_if_gt, e_if_le, e_icmp_eq, e_icmp_ne, e_icmp_lt, e_icmp_ge, e_icmp_gt, e_icmp_le, e_tsw, e_ret0, e_ret1, e_retn, e_getI, e_getZ, e_getR, e_getV, e_getC, e_putI, e_putZ, e_putF, e_gst0, e_gst1, e_sld, e_iald, e_cald, e_bald, e_iast, e_cast, e_aald, e_aast, e_alen, e_slen, e_blen, e_newa, e_newq, e_new, e_oinit, e_ctor, e_virt, e_stat, e_min, e_copy, e_ldc, List.cons_append, List.nil_append, List.append_nil, List.length_cons, List.length_nil, List.replicate_succ, List.replicate_zero, List.getElem?_cons_zero, List.getElem?_cons_succ, List.set_cons_zero, List.set_cons_succ, List.take_succ_cons, List.take_zero, List.drop_succ_cons, List.drop_zero, List.reverse_cons, List.reverse_nil, Option.toList_some, Option.toList_none, Nat.reduceSub, Nat.reduceAdd, Nat.reduceLeDiff, true_and, and_true, and_self, Option.some.injEq, exists_eq_left', Nat.zero_add, Value.int.injEq, Value.ref.injEq, List.cons.injEq, exists_and_left, and_assoc, exists_eq_left, bk_55_10, B_55_36, bk_55_36, n_le, if_pos, if_pos, if_neg, not_true_eq_false, not_false_eq_true, or_true, true_or, or_false, false_or, false_and, and_false, Nat.reduceEqDiff, Nat.reduceLT, Nat.reduceMul, Nat.not_lt_zero, Nat.zero_le, Nat.le_refl, ne_eq, reduceIte, reduceCtorEq]
theorem m_sumOfLengths {K : mK} {R : Nat → Nat → Option Nat} {I : Nat → Nat → Int32} {a p cl c : Nat} {Q : Option Value → mH → Prop} (h : zW K R a) (hf : wF I a p cl c) : EvM 53 [.ref a] (K, R, I) Q ↔ Q (some (.int (sm (I (a + 1)) (ngp p cl c)))) (K, R, I) := by
  obtain ⟨h0, h1, h2, h3, r0, r1, r2, h4⟩ := id h
  unfold EvM
  simp (disch := omega) only [e_iconst, e_bipush, e_sipush, e_iload_n, e_iload, e_aload_n, e_aload, e_istore_n, e_istore, e_astore_n, e_astore, e_iinc, e_iadd, e_isub, e_imul, e_iand, e_ishr, e_idiv, e_i2c, e_dup_i, e_dup_r, e_dup2, e_pop, e_goto, e_nop, e_if_eq, e_if_ne, e_if_lt, e_if_ge, e_if_gt, e_if_le, e_icmp_eq, e_icmp_ne, e_icmp_lt, e_icmp_ge, e_icmp_gt, e_icmp_le, e_tsw, e_ret0, e_ret1, e_retn, e_getI, e_getZ, e_getR, e_getV, e_getC, e_putI, e_putZ, e_putF, e_gst0, e_gst1, e_sld, e_iald, e_cald, e_bald, e_iast, e_cast, e_aald, e_aast, e_alen, e_slen, e_blen, e_newa, e_newq, e_new, e_oinit, e_ctor, e_virt, e_stat, e_min, e_copy, e_ldc, List.cons_append, List.nil_append, List.append_nil, List.length_cons, List.length_nil, List.replicate_succ, List.replicate_zero, List.getElem?_cons_zero, List.getElem?_cons_succ, List.set_cons_zero, List.set_cons_succ, List.take_succ_cons, List.take_zero, List.drop_succ_cons, List.drop_zero, List.reverse_cons, List.reverse_nil, Option.toList_some, Option.toList_none, Nat.reduceSub, Nat.reduceAdd, Nat.reduceLeDiff, true_and, and_true, and_self, Option.some.injEq, exists_eq_left', Nat.zero_add, Value.int.injEq, Value.ref.injEq, List.cons.injEq, exists_and_left, and_assoc, exists_eq_left, N_53, C_53, B_53_0, bk_53_0, h0, r0, C_55, m_sum h hf h1, if_pos, if_neg, not_true_eq_false, not_false_eq_true, or_true, true_or, or_false, false_or, false_and, and_false, Nat.reduceEqDiff, Nat.reduceLT, Nat.reduceMul, Nat.not_lt_zero, Nat.zero_le, Nat.le_refl, ne_eq, reduceIte, reduceCtorEq]
theorem m_sumOfNominals {K : mK} {R : Nat → Nat → Option Nat} {I : Nat → Nat → Int32} {a p cl c : Nat} {Q : Option Value → mH → Prop} (h : zW K R a) (hf : wF I a p cl c) : EvM 54 [.ref a] (K, R, I) Q ↔ Q (some (.int (sm (I (a + 2)) (ngp p cl c)))) (K, R, I) := by
  obtain ⟨h0, h1, h2, h3, r0, r1, r2, h4⟩ := id h
  unfold EvM
  simp (disch := omega) only [e_iconst, e_bipush, e_sipush, e_iload_n, e_iload, e_aload_n, e_aload, e_istore_n, e_istore, e_astore_n, e_astore, e_iinc, e_iadd, e_isub, e_imul, e_iand, e_ishr, e_idiv, e_i2c, e_dup_i, e_dup_r, e_dup2, e_pop, e_goto, e_nop, e_if_eq, e_if_ne, e_if_lt, e_if_ge, e_if_gt, e_if_le, e_icmp_eq, e_icmp_ne, e_icmp_lt, e_icmp_ge, e_icmp_gt, e_icmp_le, e_tsw, e_ret0, e_ret1, e_retn, e_getI, e_getZ, e_getR, e_getV, e_getC, e_putI, e_putZ, e_putF, e_gst0, e_gst1, e_sld, e_iald, e_cald, e_bald, e_iast, e_cast, e_aald, e_aast, e_alen, e_slen, e_blen, e_newa, e_newq, e_new, e_oinit, e_ctor, e_virt, e_stat, e_min, e_copy, e_ldc, List.cons_append, List.nil_append, List.append_nil, List.length_cons, List.length_nil, List.replicate_succ, List.replicate_zero, List.getElem?_cons_zero, List.getElem?_cons_succ, List.set_cons_zero, List.set_cons_succ, List.take_succ_cons, List.take_zero, List.drop_succ_cons, List.drop_zero, List.reverse_cons, List.reverse_nil, Option.toList_some, Option.toList_none, Nat.reduceSub, Nat.reduceAdd, Nat.reduceLeDiff, true_and, and_true, and_self, Option.some.injEq, exists_eq_left', Nat.zero_add, Value.int.injEq, Value.ref.injEq, List.cons.injEq, exists_and_left, and_assoc, exists_eq_left, N_54, C_54, B_54_0, bk_54_0, h0, r1, C_55, m_sum h hf h2, if_pos, if_neg, not_true_eq_false, not_false_eq_true, or_true, true_or, or_false, false_or, false_and, and_false, Nat.reduceEqDiff, Nat.reduceLT, Nat.reduceMul, Nat.not_lt_zero, Nat.zero_le, Nat.le_refl, ne_eq, reduceIte, reduceCtorEq]
def wQu (I : Nat → Nat → Int32) (a g : Nat) : Int32 := I (a + 1) g * 1000 / I (a + 2) g
theorem m_strain {K : mK} {R : Nat → Nat → Option Nat} {I : Nat → Nat → Int32} {a p cl c g y : Nat} {Q : Option Value → mH → Prop} (h : zW K R a) (hf : wF I a p cl c) (hg : g < ngp p cl c) (hy : I (a + 2) g = nI y) (hy1 : 0 < y) (hy2 : y < 100000) :
    EvM 57 [.ref a, .int (nI g)] (K, R, I) Q ↔ Q (some (.int (wQu I a g))) (K, R, I) := by
  obtain ⟨h0, h1, h2, h3, r0, r1, r2, h4⟩ := id h
  have hn := ngp_le (p := p) hf.2.2.2.2.1 hf.2.2.2.2.2
  unfold EvM
  simp (disch := omega) only [e_iconst, e_bipush, e_sipush, e_iload_n, e_iload, e_aload_n, e_aload, e_istore_n, e_istore, e_astore_n, e_astore, e_iinc, e_iadd, e_isub, e_imul, e_iand, e_ishr, e_idiv, e_i2c, e_dup_i, e_dup_r, e_dup2, e_pop, e_goto, e_nop, e_if_eq, e_if_ne, e_if_lt, e_if_ge, e_if_gt, e_if_le, e_icmp_eq, e_icmp_ne, e_icmp_lt, e_icmp_ge, e_icmp_gt, e_icmp_le, e_tsw, e_ret0, e_ret1, e_retn, e_getI, e_getZ, e_getR, e_getV, e_getC, e_putI, e_putZ, e_putF, e_gst0, e_gst1, e_sld, e_iald, e_cald, e_bald, e_iast, e_cast, e_aald, e_aast, e_alen, e_slen, e_blen, e_newa, e_newq, e_new, e_oinit, e_ctor, e_virt, e_stat, e_min, e_copy, e_ldc, List.cons_append, List.nil_append, List.append_nil, List.length_cons, List.length_nil, List.replicate_succ, List.replicate_zero, List.getElem?_cons_zero, List.getElem?_cons_succ, List.set_cons_zero, List.set_cons_succ, List.take_succ_cons, List.take_zero, List.drop_succ_cons, List.drop_zero, List.reverse_cons, List.reverse_nil, Option.toList_some, Option.toList_none, Nat.reduceSub, Nat.reduceAdd, Nat.reduceLeDiff, true_and, and_true, and_self, Option.some.injEq, exists_eq_left', Nat.zero_add, Value.int.injEq, Value.ref.injEq, List.cons.injEq, exists_and_left, and_assoc, exists_eq_left, N_57, C_57, B_57_0, bk_57_0, B_57_17, bk_57_17, B_57_19, bk_57_19, h0, h1, h2, r0, r1, C_38, m_hasGap h hf, n_ne0, n_le, n_in, n_cl, if_neg, if_pos, o_eq, hy, o_lt_r, o_eq_l, if_pos, if_neg, not_true_eq_false, not_false_eq_true, or_true, true_or, or_false, false_or, false_and, and_false, Nat.reduceEqDiff, Nat.reduceLT, Nat.reduceMul, Nat.not_lt_zero, Nat.zero_le, Nat.le_refl, ne_eq, reduceIte, reduceCtorEq]
  rw [wQu, hy]
  exact ⟨fun z => z.2, fun z => ⟨by omega, z⟩⟩
/-- the place of the greatest of the first k, the first of several -/
def nrs (f : Nat → Int32) : Nat → Nat
  | 0 => 0
  | k + 1 => if f (nrs f k) < f k then k else nrs f k
theorem nrs_lt (f : Nat → Int32) : ∀ k, 0 < k → nrs f k < k := by
  intro k
  induction k with
  | zero => intro h; omega
  | succ k ih =>
    intro _
    unfold nrs
    split
    · omega
    · rcases Nat.eq_zero_or_pos k with rfl | q
      · exact Nat.zero_lt_one
      · have := ih q; omega
theorem nrs_1 (f : Nat → Int32) : nrs f 1 = 0 := by
  unfold nrs; split <;> rfl
theorem m_nearest {K : mK} {R : Nat → Nat → Option Nat} {I : Nat → Nat → Int32} {a cl c : Nat} {Q : Option Value → mH → Prop} (h : zW K R a) (hf : wF I a 1 cl c) (hy : ∀ g, g < c + 1 + cl → ∃ y, I (a + 2) g = nI y ∧ 0 < y ∧ y < 100000) :
    EvM 56 [.ref a] (K, R, I) Q ↔ Q (some (.int (nI (nrs (wQu I a) (c + 1 + cl))))) (K, R, I) := by
  obtain ⟨h0, h1, h2, h3, r0, r1, r2, h4⟩ := id h
  have hn := ngp_le (p := 1) hf.2.2.2.2.1 hf.2.2.2.2.2
  have hg : ngp 1 cl c = c + 1 + cl := rfl
  refine EvM_iff ?_
  unfold EvM
  simp (disch := omega) only [e_iconst, e_bipush, e_sipush, e_iload_n, e_iload, e_aload_n, e_aload, e_istore_n, e_istore, e_astore_n, e_astore, e_iinc, e_iadd, e_isub, e_imul, e_iand, e_ishr, e_idiv, e_i2c, e_dup_i, e_dup_r, e_dup2, e_pop, e_goto, e_nop, e_if_eq, e_if_ne, e_if_lt, e_if_ge, e_if_gt, e_if_le, e_icmp_eq, e_icmp_ne, e_icmp_lt, e_icmp_ge, e_icmp_gt, e_icmp_le, e_tsw, e_ret0, e_ret1, e_retn, e_getI, e_getZ, e_getR, e_getV, e_getC, e_putI, e_putZ, e_putF, e_gst0, e_gst1, e_sld, e_iald, e_cald, e_bald, e_iast, e_cast, e_aald, e_aast, e_alen, e_slen, e_blen, e_newa, e_newq, e_new, e_oinit, e_ctor, e_virt, e_stat, e_min, e_copy, e_ldc, List.cons_append, List.nil_append, List.append_nil, List.length_cons, List.length_nil, List.replicate_succ, List.replicate_zero, List.getElem?_cons_zero, List.getElem?_cons_succ, List.set_cons_zero, List.set_cons_succ, List.take_succ_cons, List.take_zero, List.drop_succ_cons, List.drop_zero, List.reverse_cons, List.reverse_nil, Option.toList_some, Option.toList_none, Nat.reduceSub, Nat.reduceAdd, Nat.reduceLeDiff, true_and, and_true, and_self, Option.some.injEq, exists_eq_left', Nat.zero_add, Value.int.injEq, Value.ref.injEq, List.cons.injEq, exists_and_left, and_assoc, exists_eq_left, N_56, B_56_0, bk_56_0, h0, C_37, m_gapsN h hf, hg, if_pos, if_neg, not_true_eq_false, not_false_eq_true, or_true, true_or, or_false, false_or, false_and, and_false, Nat.reduceEqDiff, Nat.reduceLT, Nat.reduceMul, Nat.not_lt_zero, Nat.zero_le, Nat.le_refl, ne_eq, reduceIte, reduceCtorEq]
  have st : ∀ g, g < c + 1 + cl → ∀ {Q : Option Value → mH → Prop}, EvM 57 [.ref a, .int (nI g)] (K, R, I) Q ↔ Q (some (.int (wQu I a g))) (K, R, I) := by
    intro g hg2 Q
    obtain ⟨y, y1, y2, y3⟩ := hy g hg2
    exact m_strain h hf hg2 y1 y2 y3
  have key := loop_dn' (a := 1) (n := c + 1 + cl) (by omega) (P := fun k => Ev 56 (mB 56 9) [.ref a, .int (nI (nrs (wQu I a) k)), .int (nI (c + 1 + cl)), .int (nI k)] [] (K, R, I) (fun v k => v = some (.int (nI (nrs (wQu I a) (c + 1 + cl)))) ∧ k = (K, R, I))) ?_ ?_
  · refine Ev_cg rfl ?_ key
    rw [nrs_1]; rfl
  · intro k hk1 hk hnext
    have hl := nrs_lt (wQu I a) k hk1
    rw [B_56_9]
    simp (disch := omega) only [e_iconst, e_bipush, e_sipush, e_iload_n, e_iload, e_aload_n, e_aload, e_istore_n, e_istore, e_astore_n, e_astore, e_iinc, e_iadd, e_isub, e_imul, e_iand, e_ishr, e_idiv, e_i2c, e_dup_i, e_dup_r, e_dup2, e_pop, e_goto, e_nop, e_if_eq, e_if_ne, e_if_lt, e_if_ge, e_if_gt, e_if_le, e_icmp_eq, e_icmp_ne, e_icmp_lt, e_icmp_ge, e_icmp_gt, e_icmp_le, e_tsw, e_ret0, e_ret1, e_retn, e_getI, e_getZ, e_getR, e_getV, e_getC, e_putI, e_putZ, e_putF, e_gst0, e_gst1, e_sld, e_iald, e_cald, e_bald, e_iast, e_cast, e_aald, e_aast, e_alen, e_slen, e_blen, e_newa, e_newq, e_new, e_oinit, e_ctor, e_virt, e_stat, e_min, e_copy, e_ldc, List.cons_append, List.nil_append, List.append_nil, List.length_cons, List.length_nil, List.replicate_succ, List.replicate_zero, List.getElem?_cons_zero, List.getElem?_cons_succ, List.set_cons_zero, List.set_cons_succ, List.take_succ_cons, List.take_zero, List.drop_succ_cons, List.drop_zero, List.reverse_cons, List.reverse_nil, Option.toList_some, Option.toList_none, Nat.reduceSub, Nat.reduceAdd, Nat.reduceLeDiff, true_and, and_true, and_self, Option.some.injEq, exists_eq_left', Nat.zero_add, Value.int.injEq, Value.ref.injEq, List.cons.injEq, exists_and_left, and_assoc, exists_eq_left, bk_56_9, h0, B_56_29, bk_56_29, C_57, st k hk, st (nrs (wQu I a) k) (by omega), n_le, if_neg, o_add_l, if_pos, if_neg, not_true_eq_false, not_false_eq_true, or_true, true_or, or_false, false_or, false_and, and_false, Nat.reduceEqDiff, Nat.reduceLT, Nat.reduceMul, Nat.not_lt_zero, Nat.zero_le, Nat.le_refl, ne_eq, reduceIte, reduceCtorEq]
    by_cases e : wQu I a (nrs (wQu I a) k) < wQu I a k
    · rw [if_neg (Int32.not_le.mpr e)]
      refine Ev_cg rfl ?_ hnext
      rw [nrs, if_pos e]
    · rw [if_pos (Int32.not_lt.mp e)]
      refine Ev_cg rfl ?_ hnext
      rw [nrs, if_neg e]
  · rw [B_56_9]
    simp (disch := omega) only [e_iconst, e_bipush, e_sipush, e_iload_n, e_iload, e_aload_n, e_aload, e_istore_n, e_istore, e_astore_n, e_astore, e_iinc, e_iadd, e_isub, e_imul, e_iand, e_ishr, e_idiv, e_i2c, e_dup_i, e_dup_r, e_dup2, e_pop, e_goto, e_nop, e_if_eq, e_if_ne, e_if_lt, e_if_ge, e_if_gt, e_if_le, e_icmp_eq, e_icmp_ne, e_icmp_lt, e_icmp_ge, e_icmp_gt, e_icmp_le, e_tsw, e_ret0, e_ret1, e_retn, e_getI, e_getZ, e_getR, e_getV, e_getC, e_putI, e_putZ, e_putF, e_gst0, e_gst1, e_sld, e_iald, e_cald, e_bald, e_iast, e_cast, e_aald, e_aast, e_alen, e_slen, e_blen, e_newa, e_newq, e_new, e_oinit, e_ctor, e_virt, e_stat, e_min, e_copy, e_ldc, List.cons_append, List.nil_append, List.append_nil, List.length_cons, List.length_nil, List.replicate_succ, List.replicate_zero, List.getElem?_cons_zero, List.getElem?_cons_succ, List.set_cons_zero, List.set_cons_succ, List.take_succ_cons, List.take_zero, List.drop_succ_cons, List.drop_zero, List.reverse_cons, List.reverse_nil, Option.toList_some, Option.toList_none, Nat.reduceSub, Nat.reduceAdd, Nat.reduceLeDiff, true_and, and_true, and_self, Option.some.injEq, exists_eq_left', Nat.zero_add, Value.int.injEq, Value.ref.injEq, List.cons.injEq, exists_and_left, and_assoc, exists_eq_left, bk_56_9, B_56_35, bk_56_35, n_le, if_pos, if_pos, if_neg, not_true_eq_false, not_false_eq_true, or_true, true_or, or_false, false_or, false_and, and_false, Nat.reduceEqDiff, Nat.reduceLT, Nat.reduceMul, Nat.not_lt_zero, Nat.zero_le, Nat.le_refl, ne_eq, reduceIte, reduceCtorEq]
/-- the cells after k letters are punched as row r says -/
def wPu (J : Nat → Nat → Int32) (a r k : Nat) : Nat → Nat → Int32 := fun x j => if (x = a + 1 ∨ x = a + 2) ∧ 1 ≤ j ∧ j < k + 1 then 2000 + 1000 * J r (j - 1) else J x j
theorem wPu_o {J : Nat → Nat → Int32} {a r k x j : Nat} (h : ¬ (x = a + 1 ∨ x = a + 2)) : wPu J a r k x j = J x j := if_neg (by omega)
theorem wPu_s {J : Nat → Nat → Int32} {a r k : Nat} : mSet (mSet (mSet (wPu J a r k) (a + 1) (k + 1) (2000 + 1000 * J r k)) (a + 2) (k + 1) (2000 + 1000 * J r k)) (a + 3) (k + 1) (J (a + 3) (k + 1)) = wPu J a r (k + 1) := by
  funext x j
  simp only [mSet, wPu]
  by_cases c1 : x = a + 3 ∧ j = k + 1
  · obtain ⟨rfl, rfl⟩ := c1
    rw [if_pos ⟨rfl, rfl⟩, if_neg (by omega)]
  · rw [if_neg c1]
    by_cases c2 : (x = a + 1 ∨ x = a + 2) ∧ j = k + 1
    · obtain ⟨c2, rfl⟩ := c2
      rw [if_pos (show (x = a + 1 ∨ x = a + 2) ∧ 1 ≤ k + 1 ∧ k + 1 < k + 1 + 1 by omega), show k + 1 - 1 = k by omega]
      rcases c2 with rfl | rfl
      · rw [if_neg (by omega), if_pos ⟨rfl, rfl⟩]
      · rw [if_pos ⟨rfl, rfl⟩]
    · rw [if_neg (by omega), if_neg (by omega)]
      by_cases c3 : (x = a + 1 ∨ x = a + 2) ∧ 1 ≤ j ∧ j < k + 1
      · rw [if_pos c3, if_pos (by omega)]
      · rw [if_neg c3, if_neg (by omega)]
theorem m_punchAll {K : mK} {R : Nat → Nat → Option Nat} {I : Nat → Nat → Int32} {a cl c r : Nat} {Q : Option Value → mH → Prop} (h : zW K R a) (hf : wF I a 1 cl c) (hr : K.2.2.1 r = (2, 30)) (hra : r < a ∨ a + 3 < r) :
    EvM 50 [.ref a, .ref r] (K, R, I) Q ↔ Q none (K, R, mSet (if cl = 1 then mSet (mSet (mSet (mSet (wPu (mSet (mSet (mSet I (a + 1) 0 5000) (a + 2) 0 5000) (a + 3) 0 (-1)) a r c) a 4 1) (a + 1) (c + 1) 5000) (a + 2) (c + 1) 5000) (a + 3) (c + 1) (-1) else wPu (mSet (mSet (mSet I (a + 1) 0 5000) (a + 2) 0 5000) (a + 3) 0 (-1)) a r c) a 6 0) := by
  obtain ⟨h0, h1, h2, h3, r0, r1, r2, h4⟩ := id h
  obtain ⟨f1, f2, f3, f4, f5, f6⟩ := id hf
  refine EvM_iff ?_
  unfold EvM
  simp (disch := omega) only [e_iconst, e_bipush, e_sipush, e_iload_n, e_iload, e_aload_n, e_aload, e_istore_n, e_istore, e_astore_n, e_astore, e_iinc, e_iadd, e_isub, e_imul, e_iand, e_ishr, e_idiv, e_i2c, e_dup_i, e_dup_r, e_dup2, e_pop, e_goto, e_nop, e_if_eq, e_if_ne, e_if_lt, e_if_ge, e_if_gt, e_if_le, e_icmp_eq, e_icmp_ne, e_icmp_lt, e_icmp_ge, e_icmp_gt, e_icmp_le, e_tsw, e_ret0, e_ret1, e_retn, e_getI, e_getZ, e_getR, e_getV, e_getC, e_putI, e_putZ, e_putF, e_gst0, e_gst1, e_sld, e_iald, e_cald, e_bald, e_iast, e_cast, e_aald, e_aast, e_alen, e_slen, e_blen, e_newa, e_newq, e_new, e_oinit, e_ctor, e_virt, e_stat, e_min, e_copy, e_ldc, List.cons_append, List.nil_append, List.append_nil, List.length_cons, List.length_nil, List.replicate_succ, List.replicate_zero, List.getElem?_cons_zero, List.getElem?_cons_succ, List.set_cons_zero, List.set_cons_succ, List.take_succ_cons, List.take_zero, List.drop_succ_cons, List.drop_zero, List.reverse_cons, List.reverse_nil, Option.toList_some, Option.toList_none, Nat.reduceSub, Nat.reduceAdd, Nat.reduceLeDiff, true_and, and_true, and_self, Option.some.injEq, exists_eq_left', Nat.zero_add, Value.int.injEq, Value.ref.injEq, List.cons.injEq, exists_and_left, and_assoc, exists_eq_left, N_50, B_50_0, bk_50_0, h0, C_45, m_putGap0 h, if_pos, if_neg, not_true_eq_false, not_false_eq_true, or_true, true_or, or_false, false_or, false_and, and_false, Nat.reduceEqDiff, Nat.reduceLT, Nat.reduceMul, Nat.not_lt_zero, Nat.zero_le, Nat.le_refl, ne_eq, reduceIte, reduceCtorEq]
  have e1 : mSet (mSet (mSet I (a + 1) 0 5000) (a + 2) 0 5000) (a + 3) 0 (-1) a 5 = nI c := by simp (disch := omega) only [s_ne, f3]
  have e2 : mSet (mSet (mSet I (a + 1) 0 5000) (a + 2) 0 5000) (a + 3) 0 (-1) a 4 = nI cl := by simp (disch := omega) only [s_ne, f2]
  generalize mSet (mSet (mSet I (a + 1) 0 5000) (a + 2) 0 5000) (a + 3) 0 (-1) = J at e1 e2 ⊢
  have key := loop_dn (n := c) (P := fun k => Ev 50 (mB 50 11) [.ref a, .ref r, .int (nI k)] [] (K, R, wPu J a r k) (fun v k => v = none ∧ k = (K, R, mSet (if cl = 1 then mSet (mSet (mSet (mSet (wPu J a r c) a 4 1) (a + 1) (c + 1) 5000) (a + 2) (c + 1) 5000) (a + 3) (c + 1) (-1) else wPu J a r c) a 6 0))) ?_ ?_
  · refine Ev_cg ?_ rfl key
    funext x j; rw [wPu, if_neg (by omega)]
  · intro k hk hnext
    rw [B_50_11]
    simp (disch := omega) only [e_iconst, e_bipush, e_sipush, e_iload_n, e_iload, e_aload_n, e_aload, e_istore_n, e_istore, e_astore_n, e_astore, e_iinc, e_iadd, e_isub, e_imul, e_iand, e_ishr, e_idiv, e_i2c, e_dup_i, e_dup_r, e_dup2, e_pop, e_goto, e_nop, e_if_eq, e_if_ne, e_if_lt, e_if_ge, e_if_gt, e_if_le, e_icmp_eq, e_icmp_ne, e_icmp_lt, e_icmp_ge, e_icmp_gt, e_icmp_le, e_tsw, e_ret0, e_ret1, e_retn, e_getI, e_getZ, e_getR, e_getV, e_getC, e_putI, e_putZ, e_putF, e_gst0, e_gst1, e_sld, e_iald, e_cald, e_bald, e_iast, e_cast, e_aald, e_aast, e_alen, e_slen, e_blen, e_newa, e_newq, e_new, e_oinit, e_ctor, e_virt, e_stat, e_min, e_copy, e_ldc, List.cons_append, List.nil_append, List.append_nil, List.length_cons, List.length_nil, List.replicate_succ, List.replicate_zero, List.getElem?_cons_zero, List.getElem?_cons_succ, List.set_cons_zero, List.set_cons_succ, List.take_succ_cons, List.take_zero, List.drop_succ_cons, List.drop_zero, List.reverse_cons, List.reverse_nil, Option.toList_some, Option.toList_none, Nat.reduceSub, Nat.reduceAdd, Nat.reduceLeDiff, true_and, and_true, and_self, Option.some.injEq, exists_eq_left', Nat.zero_add, Value.int.injEq, Value.ref.injEq, List.cons.injEq, exists_and_left, and_assoc, exists_eq_left, bk_50_11, h0, h3, r2, hr, wPu_o, e1, C_45, m_nominalOf, m_putGap h (show k + 1 < 32 by omega), n_le, n_in, n_cl, if_neg, o_add_l, wPu_s, if_pos, if_neg, not_true_eq_false, not_false_eq_true, or_true, true_or, or_false, false_or, false_and, and_false, Nat.reduceEqDiff, Nat.reduceLT, Nat.reduceMul, Nat.not_lt_zero, Nat.zero_le, Nat.le_refl, ne_eq, reduceIte, reduceCtorEq]
    exact hnext
  · rw [B_50_11]
    rcases (show cl = 0 ∨ cl = 1 by omega) with q | q
    · simp (disch := omega) only [e_iconst, e_bipush, e_sipush, e_iload_n, e_iload, e_aload_n, e_aload, e_istore_n, e_istore, e_astore_n, e_astore, e_iinc, e_iadd, e_isub, e_imul, e_iand, e_ishr, e_idiv, e_i2c, e_dup_i, e_dup_r, e_dup2, e_pop, e_goto, e_nop, e_if_eq, e_if_ne, e_if_lt, e_if_ge, e_if_gt, e_if_le, e_icmp_eq, e_icmp_ne, e_icmp_lt, e_icmp_ge, e_icmp_gt, e_icmp_le, e_tsw, e_ret0, e_ret1, e_retn, e_getI, e_getZ, e_getR, e_getV, e_getC, e_putI, e_putZ, e_putF, e_gst0, e_gst1, e_sld, e_iald, e_cald, e_bald, e_iast, e_cast, e_aald, e_aast, e_alen, e_slen, e_blen, e_newa, e_newq, e_new, e_oinit, e_ctor, e_virt, e_stat, e_min, e_copy, e_ldc, List.cons_append, List.nil_append, List.append_nil, List.length_cons, List.length_nil, List.replicate_succ, List.replicate_zero, List.getElem?_cons_zero, List.getElem?_cons_succ, List.set_cons_zero, List.set_cons_succ, List.take_succ_cons, List.take_zero, List.drop_succ_cons, List.drop_zero, List.reverse_cons, List.reverse_nil, Option.toList_some, Option.toList_none, Nat.reduceSub, Nat.reduceAdd, Nat.reduceLeDiff, true_and, and_true, and_self, Option.some.injEq, exists_eq_left', Nat.zero_add, Value.int.injEq, Value.ref.injEq, List.cons.injEq, exists_and_left, and_assoc, exists_eq_left, bk_50_11, B_50_52, bk_50_52, B_50_63, bk_50_63, h0, wPu_o, e1, e2, q, n_le, if_pos, if_neg, o_eq_l, if_pos, if_neg, not_true_eq_false, not_false_eq_true, or_true, true_or, or_false, false_or, false_and, and_false, Nat.reduceEqDiff, Nat.reduceLT, Nat.reduceMul, Nat.not_lt_zero, Nat.zero_le, Nat.le_refl, ne_eq, reduceIte, reduceCtorEq]
    · have e3 : wPu J a r c a 5 = nI c := by rw [wPu_o (by omega)]; exact e1
      simp (disch := omega) only [e_iconst, e_bipush, e_sipush, e_iload_n, e_iload, e_aload_n, e_aload, e_istore_n, e_istore, e_astore_n, e_astore, e_iinc, e_iadd, e_isub, e_imul, e_iand, e_ishr, e_idiv, e_i2c, e_dup_i, e_dup_r, e_dup2, e_pop, e_goto, e_nop, e_if_eq, e_if_ne, e_if_lt, e_if_ge, e_if_gt, e_if_le, e_icmp_eq, e_icmp_ne, e_icmp_lt, e_icmp_ge, e_icmp_gt, e_icmp_le, e_tsw, e_ret0, e_ret1, e_retn, e_getI, e_getZ, e_getR, e_getV, e_getC, e_putI, e_putZ, e_putF, e_gst0, e_gst1, e_sld, e_iald, e_cald, e_bald, e_iast, e_cast, e_aald, e_aast, e_alen, e_slen, e_blen, e_newa, e_newq, e_new, e_oinit, e_ctor, e_virt, e_stat, e_min, e_copy, e_ldc, List.cons_append, List.nil_append, List.append_nil, List.length_cons, List.length_nil, List.replicate_succ, List.replicate_zero, List.getElem?_cons_zero, List.getElem?_cons_succ, List.set_cons_zero, List.set_cons_succ, List.take_succ_cons, List.take_zero, List.drop_succ_cons, List.drop_zero, List.reverse_cons, List.reverse_nil, Option.toList_some, Option.toList_none, Nat.reduceSub, Nat.reduceAdd, Nat.reduceLeDiff, true_and, and_true, and_self, Option.some.injEq, exists_eq_left', Nat.zero_add, Value.int.injEq, Value.ref.injEq, List.cons.injEq, exists_and_left, and_assoc, exists_eq_left, bk_50_11, B_50_52, bk_50_52, B_50_63, bk_50_63, h0, wPu_o, e1, e2, q, n_le, if_pos, if_neg, o_eq_l, C_44, m_putEnd h e3 f6, if_pos, if_neg, not_true_eq_false, not_false_eq_true, or_true, true_or, or_false, false_or, false_and, and_false, Nat.reduceEqDiff, Nat.reduceLT, Nat.reduceMul, Nat.not_lt_zero, Nat.zero_le, Nat.le_refl, ne_eq, reduceIte, reduceCtorEq]
end
section
/-! THE READER -/
def zR (K : mK) (R : Nat → Nat → Option Nat) (a : Nat) : Prop := K.2.2.1 a = (1, 3) ∧ K.2.2.1 (a + 1) = (2, 30) ∧ R a 0 = some (a + 1) ∧ a < 1000
/-- the number that is read, -1 for none -/
def nmb (len m : Int32) : Int32 := if (10 * len + m) / (2 * m) - 2 < 0 then -1 else if 7 < (10 * len + m) / (2 * m) - 2 then -1 else (10 * len + m) / (2 * m) - 2
theorem nmb_c (len m : Int32) : nmb len m = -1 ∨ ∃ q, q < 8 ∧ nmb len m = nI q := by
  unfold nmb
  generalize (10 * len + m) / (2 * m) - 2 = z
  rcases sp_cases z (n := 8) (by omega) with ⟨k, hk, rfl⟩ | h
  · rw [if_neg (nI_pos (by omega)), if_neg (by rw [show (7 : Int32) = nI 7 from rfl, n_lt (by omega) (by omega)]; omega)]
    exact Or.inr ⟨k, hk, rfl⟩
  · rcases h with h | h
    · rw [if_pos h]; exact Or.inl rfl
    · by_cases h2 : z < 0
      · rw [if_pos h2]; exact Or.inl rfl
      · rw [if_neg h2, if_pos]
        · exact Or.inl rfl
        · rw [Int32.lt_iff_toInt_lt]
          rw [Int32.le_iff_toInt_le] at h
          have e1 : (nI 8).toInt = 8 := by decide
          have e2 : (7 : Int32).toInt = 7 := by decide
          omega
theorem m_numberOf {len : Int32} {x : Nat} {h : mH} {Q : Option Value → mH → Prop} (hx : 0 < x) (hx2 : x < 1000000) : EvM 20 [.int len, .int (nI x)] h Q ↔ Q (some (.int (nmb len (nI x)))) h := by
  unfold EvM
  simp (disch := omega) only [e_iconst, e_bipush, e_sipush, e_iload_n, e_iload, e_aload_n, e_aload, e_istore_n, e_istore, e_astore_n, e_astore, e_iinc, e_iadd, e_isub, e_imul, e_iand, e_ishr, e_idiv, e_i2c, e_dup_i, e_dup_r, e_dup2, e_pop, e_goto, e_nop, e_if_eq, e_if_ne, e_if_lt, e_if_ge, e_if_gt, e_if_le, e_icmp_eq, e_icmp_ne, e_icmp_lt, e_icmp_ge, e_icmp_gt, e_icmp_le, e_tsw, e_ret0, e_ret1, e_retn, e_getI, e_getZ, e_getR, e_getV, e_getC, e_putI, e_putZ, e_putF, e_gst0, e_gst1, e_sld, e_iald, e_cald, e_bald, e_iast, e_cast, e_aald, e_aast, e_alen, e_slen, e_blen, e_newa, e_newq, e_new, e_oinit, e_ctor, e_virt, e_stat, e_min, e_copy, e_ldc, List.cons_append, List.nil_append, List.append_nil, List.length_cons, List.length_nil, List.replicate_succ, List.replicate_zero, List.getElem?_cons_zero, List.getElem?_cons_succ, List.set_cons_zero, List.set_cons_succ, List.take_succ_cons, List.take_zero, List.drop_succ_cons, List.drop_zero, List.reverse_cons, List.reverse_nil, Option.toList_some, Option.toList_none, Nat.reduceSub, Nat.reduceAdd, Nat.reduceLeDiff, true_and, and_true, and_self, Option.some.injEq, exists_eq_left', Nat.zero_add, Value.int.injEq, Value.ref.injEq, List.cons.injEq, exists_and_left, and_assoc, exists_eq_left, N_20, C_20, B_20_0, bk_20_0, B_20_6, bk_20_6, B_20_33, bk_20_33, B_20_34, bk_20_34, o_lt_r, if_pos, o_mul_r, o_eq_l, if_neg, if_pos, if_neg, not_true_eq_false, not_false_eq_true, or_true, true_or, or_false, false_or, false_and, and_false, Nat.reduceEqDiff, Nat.reduceLT, Nat.reduceMul, Nat.not_lt_zero, Nat.zero_le, Nat.le_refl, ne_eq, reduceIte, reduceCtorEq]
  have e : nmb len (nI x) = if (10 * len + nI x) / nI (2 * x) - 2 < 0 then -1 else if 7 < (10 * len + nI x) / nI (2 * x) - 2 then -1 else (10 * len + nI x) / nI (2 * x) - 2 := by
    rw [nmb, show (2 : Int32) * nI x = nI (2 * x) from n_mul 2 x]
  rw [e]
  generalize (10 * len + nI x) / nI (2 * x) - 2 = z
  have hne : ¬ 2 * x = 0 := by omega
  by_cases c1 : z < 0
  · simp [c1, hne]
  · by_cases c2 : 7 < z
    · simp [c1, c2, hne]
    · simp [c1, c2, hne]
def mBt (I : Nat → Nat → Int32) (w c i : Nat) : Int32 := I (w + 1) 0 + (I (w + 1) (c + 1) - I (w + 1) 0) * nI (i + 1) / nI (c + 1)
theorem m_between {K : mK} {R : Nat → Nat → Option Nat} {I : Nat → Nat → Int32} {w c i : Nat} {Q : Option Value → mH → Prop} (h : zW K R w) (hf : wF I w 1 1 c) (hi : i < 30) : EvM 19 [.ref w, .int (nI i)] (K, R, I) Q ↔ Q (some (.int (mBt I w c i))) (K, R, I) := by
  obtain ⟨h0, h1, h2, h3, r0, r1, r2, h4⟩ := id h
  obtain ⟨f1, f2, f3, f4, f5, f6⟩ := id hf
  unfold EvM
  simp (disch := omega) only [e_iconst, e_bipush, e_sipush, e_iload_n, e_iload, e_aload_n, e_aload, e_istore_n, e_istore, e_astore_n, e_astore, e_iinc, e_iadd, e_isub, e_imul, e_iand, e_ishr, e_idiv, e_i2c, e_dup_i, e_dup_r, e_dup2, e_pop, e_goto, e_nop, e_if_eq, e_if_ne, e_if_lt, e_if_ge, e_if_gt, e_if_le, e_icmp_eq, e_icmp_ne, e_icmp_lt, e_icmp_ge, e_icmp_gt, e_icmp_le, e_tsw, e_ret0, e_ret1, e_retn, e_getI, e_getZ, e_getR, e_getV, e_getC, e_putI, e_putZ, e_putF, e_gst0, e_gst1, e_sld, e_iald, e_cald, e_bald, e_iast, e_cast, e_aald, e_aast, e_alen, e_slen, e_blen, e_newa, e_newq, e_new, e_oinit, e_ctor, e_virt, e_stat, e_min, e_copy, e_ldc, List.cons_append, List.nil_append, List.append_nil, List.length_cons, List.length_nil, List.replicate_succ, List.replicate_zero, List.getElem?_cons_zero, List.getElem?_cons_succ, List.set_cons_zero, List.set_cons_succ, List.take_succ_cons, List.take_zero, List.drop_succ_cons, List.drop_zero, List.reverse_cons, List.reverse_nil, Option.toList_some, Option.toList_none, Nat.reduceSub, Nat.reduceAdd, Nat.reduceLeDiff, true_and, and_true, and_self, Option.some.injEq, exists_eq_left', Nat.zero_add, Value.int.injEq, Value.ref.injEq, List.cons.injEq, exists_and_left, and_assoc, exists_eq_left, N_19, C_19, B_19_0, bk_19_0, B_19_16, bk_19_16, h0, h1, r0, f2, f3, o_in, o_cl, n_in, n_cl, o_add_l, o_eq_l, if_neg, if_pos, if_pos, if_neg, not_true_eq_false, not_false_eq_true, or_true, true_or, or_false, false_or, false_and, and_false, Nat.reduceEqDiff, Nat.reduceLT, Nat.reduceMul, Nat.not_lt_zero, Nat.zero_le, Nat.le_refl, ne_eq, reduceIte, reduceCtorEq]
  rw [mBt]
def rJg (I : Nat → Nat → Int32) (a : Nat) (i nb tr : Int32) : Nat → Nat → Int32 := if nb = tr then I else if I a 3 = -1 then mSet (if nb = -1 then mSet I a 2 (I a 2 + 1) else mSet I a 1 (I a 1 + 1)) a 3 i else (if nb = -1 then mSet I a 2 (I a 2 + 1) else mSet I a 1 (I a 1 + 1))
theorem m_judge {K : mK} {R : Nat → Nat → Option Nat} {I : Nat → Nat → Int32} {a : Nat} {i nb tr : Int32} {Q : Option Value → mH → Prop} (h : zR K R a) : EvM 21 [.ref a, .int i, .int nb, .int tr] (K, R, I) Q ↔ Q none (K, R, rJg I a i nb tr) := by
  obtain ⟨h0, h1, r0, h2⟩ := id h
  unfold EvM
  unfold rJg
  simp (disch := omega) only [e_iconst, e_bipush, e_sipush, e_iload_n, e_iload, e_aload_n, e_aload, e_istore_n, e_istore, e_astore_n, e_astore, e_iinc, e_iadd, e_isub, e_imul, e_iand, e_ishr, e_idiv, e_i2c, e_dup_i, e_dup_r, e_dup2, e_pop, e_goto, e_nop, e_if_eq, e_if_ne, e_if_lt, e_if_ge, e_if_gt, e_if_le, e_icmp_eq, e_icmp_ne, e_icmp_lt, e_icmp_ge, e_icmp_gt, e_icmp_le, e_tsw, e_ret0, e_ret1, e_retn, e_getI, e_getZ, e_getR, e_getV, e_getC, e_putI, e_putZ, e_putF, e_gst0, e_gst1, e_sld, e_iald, e_cald, e_bald, e_iast, e_cast, e_aald, e_aast, e_alen, e_slen, e_blen, e_newa, e_newq, e_new, e_oinit, e_ctor, e_virt, e_stat, e_min, e_copy, e_ldc, List.cons_append, List.nil_append, List.append_nil, List.length_cons, List.length_nil, List.replicate_succ, List.replicate_zero, List.getElem?_cons_zero, List.getElem?_cons_succ, List.set_cons_zero, List.set_cons_succ, List.take_succ_cons, List.take_zero, List.drop_succ_cons, List.drop_zero, List.reverse_cons, List.reverse_nil, Option.toList_some, Option.toList_none, Nat.reduceSub, Nat.reduceAdd, Nat.reduceLeDiff, true_and, and_true, and_self, Option.some.injEq, exists_eq_left', Nat.zero_add, Value.int.injEq, Value.ref.injEq, List.cons.injEq, exists_and_left, and_assoc, exists_eq_left, N_21, C_21, B_21_0, bk_21_0, B_21_6, bk_21_6, B_21_24, bk_21_24, B_21_34, bk_21_34, B_21_47, bk_21_47, h0, s_ne, if_pos, if_neg, not_true_eq_false, not_false_eq_true, or_true, true_or, or_false, false_or, false_and, and_false, Nat.reduceEqDiff, Nat.reduceLT, Nat.reduceMul, Nat.not_lt_zero, Nat.zero_le, Nat.le_refl, ne_eq, reduceIte, reduceCtorEq]
  by_cases c1 : nb = tr
  · simp [c1]
  · by_cases c2 : nb = -1
    · subst c2
      by_cases c3 : I a 3 = -1 <;> simp [c3, c1]
    · by_cases c3 : I a 3 = -1 <;> simp [c1, c2, c3]
/-- the measure behind i letters; the measure of the letter i; what is read there -/
def rdM (I : Nat → Nat → Int32) (w c : Nat) (way : Int32) : Nat → Int32
  | 0 => I (w + 1) 0
  | i + 1 =>
    if way = 2 then mBt I w c i
    else if way = 1 then (if nmb (I (w + 1) (i + 1)) (rdM I w c way i) = -1 then rdM I w c way i else (3 * rdM I w c way i + 5 * I (w + 1) (i + 1) / (nmb (I (w + 1) (i + 1)) (rdM I w c way i) + 2)) / 4)
    else rdM I w c way i
def rdA (I : Nat → Nat → Int32) (w c : Nat) (way : Int32) (i : Nat) : Int32 := if way = 2 then mBt I w c i else rdM I w c way i
def rdN (I : Nat → Nat → Int32) (w c : Nat) (way : Int32) (i : Nat) : Int32 := nmb (I (w + 1) (i + 1)) (rdA I w c way i)
def cnt (P : Nat → Bool) : Nat → Nat
  | 0 => 0
  | k + 1 => cnt P k + (if P k then 1 else 0)
theorem cnt_le (P : Nat → Bool) : ∀ k, cnt P k ≤ k := by
  intro k
  induction k with
  | zero => exact Nat.le_refl _
  | succ k ih => unfold cnt; split <;> omega
def pMi (nb tr : Nat → Int32) (i : Nat) : Bool := !(nb i == tr i) && !(nb i == -1)
def pUn (nb tr : Nat → Int32) (i : Nat) : Bool := !(nb i == tr i) && (nb i == -1)
def pWr (nb tr : Nat → Int32) (i : Nat) : Bool := !(nb i == tr i)
/-- the reader's cells when i letters are read -/
def rSt (I : Nat → Nat → Int32) (r : Nat) (nb tr : Nat → Int32) (c i : Nat) : Nat → Nat → Int32 := fun x j =>
  if x = r + 1 ∧ j < i then nb j else if x = r ∧ j = 1 then nI (cnt (pMi nb tr) i) else if x = r ∧ j = 2 then nI (cnt (pUn nb tr) i)
  else if x = r ∧ j = 3 then (if fB (pWr nb tr) c i = c then -1 else nI (fB (pWr nb tr) c i)) else I x j
theorem rSt_o {I : Nat → Nat → Int32} {r c i x j : Nat} {nb tr : Nat → Int32} (h : x ≠ r ∧ x ≠ r + 1) : rSt I r nb tr c i x j = I x j := by
  rw [rSt, if_neg (by omega), if_neg (by omega), if_neg (by omega), if_neg (by omega)]
theorem rSt_s {I : Nat → Nat → Int32} {r c i : Nat} {nb tr : Nat → Int32} (hi : i < c) (hc : c ≤ 30) :
    rSt I r nb tr c (i + 1) = rJg (mSet (rSt I r nb tr c i) (r + 1) i (nb i)) r (nI i) (nb i) (tr i) := by
  have e1 : rSt I r nb tr c i r 1 = nI (cnt (pMi nb tr) i) := by rw [rSt, if_neg (by omega), if_pos ⟨rfl, rfl⟩]
  have e2 : rSt I r nb tr c i r 2 = nI (cnt (pUn nb tr) i) := by rw [rSt, if_neg (by omega), if_neg (by omega), if_pos ⟨rfl, rfl⟩]
  have e3 : rSt I r nb tr c i r 3 = (if fB (pWr nb tr) c i = c then -1 else nI (fB (pWr nb tr) c i)) := by rw [rSt, if_neg (by omega), if_neg (by omega), if_neg (by omega), if_pos ⟨rfl, rfl⟩]
  unfold rJg
  simp (disch := omega) only [s_ne]
  rw [e1, e2, e3]
  have hfb := (fB_le (pWr nb tr) c i (by omega)).1
  have h3 : ((if fB (pWr nb tr) c i = c then -1 else nI (fB (pWr nb tr) c i)) = (-1 : Int32)) ↔ fB (pWr nb tr) c i = c := by
    by_cases q : fB (pWr nb tr) c i = c
    · simp [q]
    · simp only [q, if_false, iff_false]; exact n_m1 (by omega)
  have hne : ¬ i = c := by omega
  by_cases c1 : nb i = tr i
  · rw [if_pos c1]
    have a1 : cnt (pMi nb tr) (i + 1) = cnt (pMi nb tr) i := by simp [cnt, pMi, c1]
    have a2 : cnt (pUn nb tr) (i + 1) = cnt (pUn nb tr) i := by simp [cnt, pUn, c1]
    have a3 : fB (pWr nb tr) c (i + 1) = fB (pWr nb tr) c i := by simp only [fB, pWr, c1]; split <;> simp_all
    funext x j
    simp only [rSt, mSet, a1, a2, a3]
    (repeat' split) <;> first | rfl | (exfalso; omega) | (rw [show j = i by omega])
  · rw [if_neg c1]
    by_cases c2 : nb i = -1
    · have a1 : cnt (pMi nb tr) (i + 1) = cnt (pMi nb tr) i := by simp [cnt, pMi, c2]
      have a2 : cnt (pUn nb tr) (i + 1) = cnt (pUn nb tr) i + 1 := by simp [cnt, pUn, c1]; exact c2
      rw [if_pos c2, o_add_l]
      by_cases c3 : fB (pWr nb tr) c i = c
      · have a3 : fB (pWr nb tr) c (i + 1) = i := by simp [fB, c3, pWr, c1]
        rw [if_pos (h3.mpr c3)]
        funext x j
        simp only [rSt, mSet, a1, a2, a3]
        (repeat' split) <;> first | rfl | (exfalso; omega) | (rw [show j = i by omega])
      · have a3 : fB (pWr nb tr) c (i + 1) = fB (pWr nb tr) c i := by simp [fB, c3]
        rw [if_neg (fun q => c3 (h3.mp q))]
        funext x j
        simp only [rSt, mSet, a1, a2, a3]
        (repeat' split) <;> first | rfl | (exfalso; omega) | (rw [show j = i by omega])
    · have a1 : cnt (pMi nb tr) (i + 1) = cnt (pMi nb tr) i + 1 := by simp [cnt, pMi, c1, c2]
      have a2 : cnt (pUn nb tr) (i + 1) = cnt (pUn nb tr) i := by simp [cnt, pUn, c2]
      rw [if_neg c2, o_add_l]
      by_cases c3 : fB (pWr nb tr) c i = c
      · have a3 : fB (pWr nb tr) c (i + 1) = i := by simp [fB, c3, pWr, c1]
        rw [if_pos (h3.mpr c3)]
        funext x j
        simp only [rSt, mSet, a1, a2, a3]
        (repeat' split) <;> first | rfl | (exfalso; omega) | (rw [show j = i by omega])
      · have a3 : fB (pWr nb tr) c (i + 1) = fB (pWr nb tr) c i := by simp [fB, c3]
        rw [if_neg (fun q => c3 (h3.mp q))]
        funext x j
        simp only [rSt, mSet, a1, a2, a3]
        (repeat' split) <;> first | rfl | (exfalso; omega) | (rw [show j = i by omega])
end
section
/-! READING A WIRE; the log -/
theorem rdA_e (I : Nat → Nat → Int32) (w c : Nat) (way : Int32) (i : Nat) : rdM I w c way (i + 1) = if way = 2 then mBt I w c i else if way = 1 then (if rdN I w c way i = -1 then rdA I w c way i else (3 * rdA I w c way i + 5 * I (w + 1) (i + 1) / (rdN I w c way i + 2)) / 4) else rdA I w c way i := by
  unfold rdM rdN rdA
  by_cases c1 : way = 2
  · simp [c1]
  · simp [c1]
set_option maxHeartbeats 4000000 in
theorem m_readAll {K : mK} {R : Nat → Nat → Option Nat} {I : Nat → Nat → Int32} {r w cl c : Nat} {way : Int32} {Q : Option Value → mH → Prop} (h : zR K R r) (h' : zW K R w) (hab : r + 2 ≤ w ∨ w + 4 ≤ r) (hcl : I w 4 = nI cl) (hc : I w 5 = nI c) (hc2 : c ≤ 30) (hw2 : way = 2 → cl = 1)
    (hm : ∀ i, i < c → ∃ x, rdA I w c way i = nI x ∧ 0 < x ∧ x < 1000000) (h3 : I w 3 = nI 1 ∨ way ≠ 2) :
    EvM 18 [.ref r, .ref w, .int way] (K, R, I) Q ↔ Q none (K, R, rSt I r (rdN I w c way) (fun i => I (w + 3) (i + 1)) c c) := by
  obtain ⟨h0, h1, r0, h2⟩ := id h
  obtain ⟨h0', h1', h2', h3', r0', r1', r2', h4'⟩ := id h'
  refine EvM_iff ?_
  unfold EvM
  simp (disch := omega) only [e_iconst, e_bipush, e_sipush, e_iload_n, e_iload, e_aload_n, e_aload, e_istore_n, e_istore, e_astore_n, e_astore, e_iinc, e_iadd, e_isub, e_imul, e_iand, e_ishr, e_idiv, e_i2c, e_dup_i, e_dup_r, e_dup2, e_pop, e_goto, e_nop, e_if_eq, e_if_ne, e_if_lt, e_if_ge, e_if_gt, e_if_le, e_icmp_eq, e_icmp_ne, e_icmp_lt, e_icmp_ge, e_icmp_gt, e_icmp_le, e_tsw, e_ret0, e_ret1, e_retn, e_getI, e_getZ, e_getR, e_getV, e_getC, e_putI, e_putZ, e_putF, e_gst0, e_gst1, e_sld, e_iald, e_cald, e_bald, e_iast, e_cast, e_aald, e_aast, e_alen, e_slen, e_blen, e_newa, e_newq, e_new, e_oinit, e_ctor, e_virt, e_stat, e_min, e_copy, e_ldc, List.cons_append, List.nil_append, List.append_nil, List.length_cons, List.length_nil, List.replicate_succ, List.replicate_zero, List.getElem?_cons_zero, List.getElem?_cons_succ, List.set_cons_zero, List.set_cons_succ, List.take_succ_cons, List.take_zero, List.drop_succ_cons, List.drop_zero, List.reverse_cons, List.reverse_nil, Option.toList_some, Option.toList_none, Nat.reduceSub, Nat.reduceAdd, Nat.reduceLeDiff, true_and, and_true, and_self, Option.some.injEq, exists_eq_left', Nat.zero_add, Value.int.injEq, Value.ref.injEq, List.cons.injEq, exists_and_left, and_assoc, exists_eq_left, N_18, B_18_0, bk_18_0, h0, h0', h1', r0', s_ne, o_in, o_cl, if_pos, if_neg, not_true_eq_false, not_false_eq_true, or_true, true_or, or_false, false_or, false_and, and_false, Nat.reduceEqDiff, Nat.reduceLT, Nat.reduceMul, Nat.not_lt_zero, Nat.zero_le, Nat.le_refl, ne_eq, reduceIte, reduceCtorEq]
  generalize hQ : (fun (v : Option Value) (k : mH) => v = none ∧ k = (K, R, rSt I r (rdN I w c way) (fun i => I (w + 3) (i + 1)) c c)) = Q0
  have key : ∀ (l5 l6 : Value), Ev 18 (mB 18 25) [.ref r, .ref w, .int way, .int (rdM I w c way 0), .int (nI 0), l5, l6] [] (K, R, rSt I r (rdN I w c way) (fun i => I (w + 3) (i + 1)) c 0) Q0 := by
    refine loop_dn (n := c) (P := fun k => ∀ (l5 l6 : Value), Ev 18 (mB 18 25) [.ref r, .ref w, .int way, .int (rdM I w c way k), .int (nI k), l5, l6] [] (K, R, rSt I r (rdN I w c way) (fun i => I (w + 3) (i + 1)) c k) Q0) ?_ ?_
    · intro k hk hnext l5 l6
      obtain ⟨x, hx, hx0, hx1⟩ := hm k hk
      have hnb := nmb_c (I (w + 1) (k + 1)) (nI x)
      have e1 : rdN I w c way k = nmb (I (w + 1) (k + 1)) (nI x) := by rw [rdN, hx]
      have e2 := rdA_e I w c way k
      rw [hx, e1] at e2
      have hnext := hnext (.int (I (w + 1) (k + 1))) (.int (nmb (I (w + 1) (k + 1)) (nI x)))
      rw [rSt_s hk hc2, e1] at hnext
      generalize hJ : rSt I r (rdN I w c way) (fun i => I (w + 3) (i + 1)) c k = J at hnext ⊢
      have j5 : J w 5 = nI c := by rw [← hJ, rSt_o (by omega)]; exact hc
      have jl : J (w + 1) (k + 1) = I (w + 1) (k + 1) := by rw [← hJ, rSt_o (by omega)]
      have jt : J (w + 3) (k + 1) = I (w + 3) (k + 1) := by rw [← hJ, rSt_o (by omega)]
      by_cases c2 : way = 2
      · subst c2
        have hf : wF J w 1 1 c := by
          have q1 := hw2 rfl
          rcases h3 with h3 | h3
          · refine ⟨?_, ?_, j5, by omega, by omega, hc2⟩
            · rw [← hJ, rSt_o (by omega)]; exact h3
            · rw [← hJ, rSt_o (by omega), hcl, q1]
          · exact absurd rfl h3
        have jb : mBt J w c k = nI x := by
          rw [rdA, if_pos rfl] at hx
          rw [← hx, mBt, mBt, ← hJ, rSt_o (by omega), rSt_o (by omega)]
        rw [e2, if_pos rfl] at hnext
        have hx' : mBt I w c k = nI x := by rw [rdA, if_pos rfl] at hx; exact hx
        rw [hx'] at hnext
        rw [B_18_25]
        simp (disch := omega) only [e_iconst, e_bipush, e_sipush, e_iload_n, e_iload, e_aload_n, e_aload, e_istore_n, e_istore, e_astore_n, e_astore, e_iinc, e_iadd, e_isub, e_imul, e_iand, e_ishr, e_idiv, e_i2c, e_dup_i, e_dup_r, e_dup2, e_pop, e_goto, e_nop, e_if_eq, e_if_ne, e_if_lt, e_if_ge, e_if_gt, e_if_le, e_icmp_eq, e_icmp_ne, e_icmp_lt, e_icmp_ge, e_icmp_gt, e_icmp_le, e_tsw, e_ret0, e_ret1, e_retn, e_getI, e_getZ, e_getR, e_getV, e_getC, e_putI, e_putZ, e_putF, e_gst0, e_gst1, e_sld, e_iald, e_cald, e_bald, e_iast, e_cast, e_aald, e_aast, e_alen, e_slen, e_blen, e_newa, e_newq, e_new, e_oinit, e_ctor, e_virt, e_stat, e_min, e_copy, e_ldc, List.cons_append, List.nil_append, List.append_nil, List.length_cons, List.length_nil, List.replicate_succ, List.replicate_zero, List.getElem?_cons_zero, List.getElem?_cons_succ, List.set_cons_zero, List.set_cons_succ, List.take_succ_cons, List.take_zero, List.drop_succ_cons, List.drop_zero, List.reverse_cons, List.reverse_nil, Option.toList_some, Option.toList_none, Nat.reduceSub, Nat.reduceAdd, Nat.reduceLeDiff, true_and, and_true, and_self, Option.some.injEq, exists_eq_left', Nat.zero_add, Value.int.injEq, Value.ref.injEq, List.cons.injEq, exists_and_left, and_assoc, exists_eq_left, bk_18_25, h0, h1, r0, h0', h1', h3', r0', r2', j5, jl, jt, n_le, o_le_r, n_in, n_cl, o_add_l, if_neg, o_eq, s_ne, if_pos, if_neg, not_true_eq_false, not_false_eq_true, or_true, true_or, or_false, false_or, false_and, and_false, Nat.reduceEqDiff, Nat.reduceLT, Nat.reduceMul, Nat.not_lt_zero, Nat.zero_le, Nat.le_refl, ne_eq, reduceIte, reduceCtorEq, jb, m_between h' hf (show k < 30 by omega)]
        rw [B_18_64]
        simp (disch := omega) only [e_iconst, e_bipush, e_sipush, e_iload_n, e_iload, e_aload_n, e_aload, e_istore_n, e_istore, e_astore_n, e_astore, e_iinc, e_iadd, e_isub, e_imul, e_iand, e_ishr, e_idiv, e_i2c, e_dup_i, e_dup_r, e_dup2, e_pop, e_goto, e_nop, e_if_eq, e_if_ne, e_if_lt, e_if_ge, e_if_gt, e_if_le, e_icmp_eq, e_icmp_ne, e_icmp_lt, e_icmp_ge, e_icmp_gt, e_icmp_le, e_tsw, e_ret0, e_ret1, e_retn, e_getI, e_getZ, e_getR, e_getV, e_getC, e_putI, e_putZ, e_putF, e_gst0, e_gst1, e_sld, e_iald, e_cald, e_bald, e_iast, e_cast, e_aald, e_aast, e_alen, e_slen, e_blen, e_newa, e_newq, e_new, e_oinit, e_ctor, e_virt, e_stat, e_min, e_copy, e_ldc, List.cons_append, List.nil_append, List.append_nil, List.length_cons, List.length_nil, List.replicate_succ, List.replicate_zero, List.getElem?_cons_zero, List.getElem?_cons_succ, List.set_cons_zero, List.set_cons_succ, List.take_succ_cons, List.take_zero, List.drop_succ_cons, List.drop_zero, List.reverse_cons, List.reverse_nil, Option.toList_some, Option.toList_none, Nat.reduceSub, Nat.reduceAdd, Nat.reduceLeDiff, true_and, and_true, and_self, Option.some.injEq, exists_eq_left', Nat.zero_add, Value.int.injEq, Value.ref.injEq, List.cons.injEq, exists_and_left, and_assoc, exists_eq_left, bk_18_64, m_numberOf hx0 hx1, if_neg, if_pos, o_eq, o_add_l, o_eq_l, n_m1, if_pos, if_neg, not_true_eq_false, not_false_eq_true, or_true, true_or, or_false, false_or, false_and, and_false, Nat.reduceEqDiff, Nat.reduceLT, Nat.reduceMul, Nat.not_lt_zero, Nat.zero_le, Nat.le_refl, ne_eq, reduceIte, reduceCtorEq, jb, m_between h' hf (show k < 30 by omega)]
        rw [B_18_99]
        simp (disch := omega) only [e_iconst, e_bipush, e_sipush, e_iload_n, e_iload, e_aload_n, e_aload, e_istore_n, e_istore, e_astore_n, e_astore, e_iinc, e_iadd, e_isub, e_imul, e_iand, e_ishr, e_idiv, e_i2c, e_dup_i, e_dup_r, e_dup2, e_pop, e_goto, e_nop, e_if_eq, e_if_ne, e_if_lt, e_if_ge, e_if_gt, e_if_le, e_icmp_eq, e_icmp_ne, e_icmp_lt, e_icmp_ge, e_icmp_gt, e_icmp_le, e_tsw, e_ret0, e_ret1, e_retn, e_getI, e_getZ, e_getR, e_getV, e_getC, e_putI, e_putZ, e_putF, e_gst0, e_gst1, e_sld, e_iald, e_cald, e_bald, e_iast, e_cast, e_aald, e_aast, e_alen, e_slen, e_blen, e_newa, e_newq, e_new, e_oinit, e_ctor, e_virt, e_stat, e_min, e_copy, e_ldc, List.cons_append, List.nil_append, List.append_nil, List.length_cons, List.length_nil, List.replicate_succ, List.replicate_zero, List.getElem?_cons_zero, List.getElem?_cons_succ, List.set_cons_zero, List.set_cons_succ, List.take_succ_cons, List.take_zero, List.drop_succ_cons, List.drop_zero, List.reverse_cons, List.reverse_nil, Option.toList_some, Option.toList_none, Nat.reduceSub, Nat.reduceAdd, Nat.reduceLeDiff, true_and, and_true, and_self, Option.some.injEq, exists_eq_left', Nat.zero_add, Value.int.injEq, Value.ref.injEq, List.cons.injEq, exists_and_left, and_assoc, exists_eq_left, bk_18_99, h0, h1, r0, h0', h1', h3', r0', r2', j5, jl, jt, s_ne, C_21, m_judge h, n_in, n_cl, o_add_l, if_pos, if_neg, not_true_eq_false, not_false_eq_true, or_true, true_or, or_false, false_or, false_and, and_false, Nat.reduceEqDiff, Nat.reduceLT, Nat.reduceMul, Nat.not_lt_zero, Nat.zero_le, Nat.le_refl, ne_eq, reduceIte, reduceCtorEq]
        exact hnext
      · have hx' : rdM I w c way k = nI x := by rw [rdA, if_neg c2] at hx; exact hx
        rw [if_neg c2] at e2
        rw [hx']
        by_cases c1 : way = 1
        · subst c1
          rw [if_pos rfl] at e2
          by_cases d1 : nmb (I (w + 1) (k + 1)) (nI x) = -1
          · rw [if_pos d1] at e2
            rw [e2] at hnext
            rw [B_18_25]
            simp (disch := omega) only [e_iconst, e_bipush, e_sipush, e_iload_n, e_iload, e_aload_n, e_aload, e_istore_n, e_istore, e_astore_n, e_astore, e_iinc, e_iadd, e_isub, e_imul, e_iand, e_ishr, e_idiv, e_i2c, e_dup_i, e_dup_r, e_dup2, e_pop, e_goto, e_nop, e_if_eq, e_if_ne, e_if_lt, e_if_ge, e_if_gt, e_if_le, e_icmp_eq, e_icmp_ne, e_icmp_lt, e_icmp_ge, e_icmp_gt, e_icmp_le, e_tsw, e_ret0, e_ret1, e_retn, e_getI, e_getZ, e_getR, e_getV, e_getC, e_putI, e_putZ, e_putF, e_gst0, e_gst1, e_sld, e_iald, e_cald, e_bald, e_iast, e_cast, e_aald, e_aast, e_alen, e_slen, e_blen, e_newa, e_newq, e_new, e_oinit, e_ctor, e_virt, e_stat, e_min, e_copy, e_ldc, List.cons_append, List.nil_append, List.append_nil, List.length_cons, List.length_nil, List.replicate_succ, List.replicate_zero, List.getElem?_cons_zero, List.getElem?_cons_succ, List.set_cons_zero, List.set_cons_succ, List.take_succ_cons, List.take_zero, List.drop_succ_cons, List.drop_zero, List.reverse_cons, List.reverse_nil, Option.toList_some, Option.toList_none, Nat.reduceSub, Nat.reduceAdd, Nat.reduceLeDiff, true_and, and_true, and_self, Option.some.injEq, exists_eq_left', Nat.zero_add, Value.int.injEq, Value.ref.injEq, List.cons.injEq, exists_and_left, and_assoc, exists_eq_left, bk_18_25, h0, h1, r0, h0', h1', h3', r0', r2', j5, jl, jt, n_le, o_le_r, n_in, n_cl, o_add_l, if_neg, o_eq, s_ne, if_pos, if_neg, not_true_eq_false, not_false_eq_true, or_true, true_or, or_false, false_or, false_and, and_false, Nat.reduceEqDiff, Nat.reduceLT, Nat.reduceMul, Nat.not_lt_zero, Nat.zero_le, Nat.le_refl, ne_eq, reduceIte, reduceCtorEq, d1]
            rw [B_18_64]
            simp (disch := omega) only [e_iconst, e_bipush, e_sipush, e_iload_n, e_iload, e_aload_n, e_aload, e_istore_n, e_istore, e_astore_n, e_astore, e_iinc, e_iadd, e_isub, e_imul, e_iand, e_ishr, e_idiv, e_i2c, e_dup_i, e_dup_r, e_dup2, e_pop, e_goto, e_nop, e_if_eq, e_if_ne, e_if_lt, e_if_ge, e_if_gt, e_if_le, e_icmp_eq, e_icmp_ne, e_icmp_lt, e_icmp_ge, e_icmp_gt, e_icmp_le, e_tsw, e_ret0, e_ret1, e_retn, e_getI, e_getZ, e_getR, e_getV, e_getC, e_putI, e_putZ, e_putF, e_gst0, e_gst1, e_sld, e_iald, e_cald, e_bald, e_iast, e_cast, e_aald, e_aast, e_alen, e_slen, e_blen, e_newa, e_newq, e_new, e_oinit, e_ctor, e_virt, e_stat, e_min, e_copy, e_ldc, List.cons_append, List.nil_append, List.append_nil, List.length_cons, List.length_nil, List.replicate_succ, List.replicate_zero, List.getElem?_cons_zero, List.getElem?_cons_succ, List.set_cons_zero, List.set_cons_succ, List.take_succ_cons, List.take_zero, List.drop_succ_cons, List.drop_zero, List.reverse_cons, List.reverse_nil, Option.toList_some, Option.toList_none, Nat.reduceSub, Nat.reduceAdd, Nat.reduceLeDiff, true_and, and_true, and_self, Option.some.injEq, exists_eq_left', Nat.zero_add, Value.int.injEq, Value.ref.injEq, List.cons.injEq, exists_and_left, and_assoc, exists_eq_left, bk_18_64, m_numberOf hx0 hx1, if_neg, if_pos, o_eq, o_add_l, o_eq_l, n_m1, if_pos, if_neg, not_true_eq_false, not_false_eq_true, or_true, true_or, or_false, false_or, false_and, and_false, Nat.reduceEqDiff, Nat.reduceLT, Nat.reduceMul, Nat.not_lt_zero, Nat.zero_le, Nat.le_refl, ne_eq, reduceIte, reduceCtorEq, d1]
            rw [B_18_99]
            simp (disch := omega) only [e_iconst, e_bipush, e_sipush, e_iload_n, e_iload, e_aload_n, e_aload, e_istore_n, e_istore, e_astore_n, e_astore, e_iinc, e_iadd, e_isub, e_imul, e_iand, e_ishr, e_idiv, e_i2c, e_dup_i, e_dup_r, e_dup2, e_pop, e_goto, e_nop, e_if_eq, e_if_ne, e_if_lt, e_if_ge, e_if_gt, e_if_le, e_icmp_eq, e_icmp_ne, e_icmp_lt, e_icmp_ge, e_icmp_gt, e_icmp_le, e_tsw, e_ret0, e_ret1, e_retn, e_getI, e_getZ, e_getR, e_getV, e_getC, e_putI, e_putZ, e_putF, e_gst0, e_gst1, e_sld, e_iald, e_cald, e_bald, e_iast, e_cast, e_aald, e_aast, e_alen, e_slen, e_blen, e_newa, e_newq, e_new, e_oinit, e_ctor, e_virt, e_stat, e_min, e_copy, e_ldc, List.cons_append, List.nil_append, List.append_nil, List.length_cons, List.length_nil, List.replicate_succ, List.replicate_zero, List.getElem?_cons_zero, List.getElem?_cons_succ, List.set_cons_zero, List.set_cons_succ, List.take_succ_cons, List.take_zero, List.drop_succ_cons, List.drop_zero, List.reverse_cons, List.reverse_nil, Option.toList_some, Option.toList_none, Nat.reduceSub, Nat.reduceAdd, Nat.reduceLeDiff, true_and, and_true, and_self, Option.some.injEq, exists_eq_left', Nat.zero_add, Value.int.injEq, Value.ref.injEq, List.cons.injEq, exists_and_left, and_assoc, exists_eq_left, bk_18_99, h0, h1, r0, h0', h1', h3', r0', r2', j5, jl, jt, s_ne, C_21, m_judge h, n_in, n_cl, o_add_l, if_pos, if_neg, not_true_eq_false, not_false_eq_true, or_true, true_or, or_false, false_or, false_and, and_false, Nat.reduceEqDiff, Nat.reduceLT, Nat.reduceMul, Nat.not_lt_zero, Nat.zero_le, Nat.le_refl, ne_eq, reduceIte, reduceCtorEq]
            rw [d1] at hnext
            exact hnext
          · rw [if_neg d1] at e2
            rw [e2] at hnext
            obtain ⟨q, hq, hq2⟩ := hnb.resolve_left d1
            rw [hq2] at hnext d1
            rw [show nI q + 2 = nI (q + 2) from o_add_l] at hnext
            have hne : ¬ q + 2 = 0 := by omega
            rw [B_18_25]
            simp (disch := omega) only [e_iconst, e_bipush, e_sipush, e_iload_n, e_iload, e_aload_n, e_aload, e_istore_n, e_istore, e_astore_n, e_astore, e_iinc, e_iadd, e_isub, e_imul, e_iand, e_ishr, e_idiv, e_i2c, e_dup_i, e_dup_r, e_dup2, e_pop, e_goto, e_nop, e_if_eq, e_if_ne, e_if_lt, e_if_ge, e_if_gt, e_if_le, e_icmp_eq, e_icmp_ne, e_icmp_lt, e_icmp_ge, e_icmp_gt, e_icmp_le, e_tsw, e_ret0, e_ret1, e_retn, e_getI, e_getZ, e_getR, e_getV, e_getC, e_putI, e_putZ, e_putF, e_gst0, e_gst1, e_sld, e_iald, e_cald, e_bald, e_iast, e_cast, e_aald, e_aast, e_alen, e_slen, e_blen, e_newa, e_newq, e_new, e_oinit, e_ctor, e_virt, e_stat, e_min, e_copy, e_ldc, List.cons_append, List.nil_append, List.append_nil, List.length_cons, List.length_nil, List.replicate_succ, List.replicate_zero, List.getElem?_cons_zero, List.getElem?_cons_succ, List.set_cons_zero, List.set_cons_succ, List.take_succ_cons, List.take_zero, List.drop_succ_cons, List.drop_zero, List.reverse_cons, List.reverse_nil, Option.toList_some, Option.toList_none, Nat.reduceSub, Nat.reduceAdd, Nat.reduceLeDiff, true_and, and_true, and_self, Option.some.injEq, exists_eq_left', Nat.zero_add, Value.int.injEq, Value.ref.injEq, List.cons.injEq, exists_and_left, and_assoc, exists_eq_left, bk_18_25, h0, h1, r0, h0', h1', h3', r0', r2', j5, jl, jt, n_le, o_le_r, n_in, n_cl, o_add_l, if_neg, o_eq, s_ne, if_pos, if_neg, not_true_eq_false, not_false_eq_true, or_true, true_or, or_false, false_or, false_and, and_false, Nat.reduceEqDiff, Nat.reduceLT, Nat.reduceMul, Nat.not_lt_zero, Nat.zero_le, Nat.le_refl, ne_eq, reduceIte, reduceCtorEq, hq2, hne, d1]
            rw [B_18_64]
            simp (disch := omega) only [e_iconst, e_bipush, e_sipush, e_iload_n, e_iload, e_aload_n, e_aload, e_istore_n, e_istore, e_astore_n, e_astore, e_iinc, e_iadd, e_isub, e_imul, e_iand, e_ishr, e_idiv, e_i2c, e_dup_i, e_dup_r, e_dup2, e_pop, e_goto, e_nop, e_if_eq, e_if_ne, e_if_lt, e_if_ge, e_if_gt, e_if_le, e_icmp_eq, e_icmp_ne, e_icmp_lt, e_icmp_ge, e_icmp_gt, e_icmp_le, e_tsw, e_ret0, e_ret1, e_retn, e_getI, e_getZ, e_getR, e_getV, e_getC, e_putI, e_putZ, e_putF, e_gst0, e_gst1, e_sld, e_iald, e_cald, e_bald, e_iast, e_cast, e_aald, e_aast, e_alen, e_slen, e_blen, e_newa, e_newq, e_new, e_oinit, e_ctor, e_virt, e_stat, e_min, e_copy, e_ldc, List.cons_append, List.nil_append, List.append_nil, List.length_cons, List.length_nil, List.replicate_succ, List.replicate_zero, List.getElem?_cons_zero, List.getElem?_cons_succ, List.set_cons_zero, List.set_cons_succ, List.take_succ_cons, List.take_zero, List.drop_succ_cons, List.drop_zero, List.reverse_cons, List.reverse_nil, Option.toList_some, Option.toList_none, Nat.reduceSub, Nat.reduceAdd, Nat.reduceLeDiff, true_and, and_true, and_self, Option.some.injEq, exists_eq_left', Nat.zero_add, Value.int.injEq, Value.ref.injEq, List.cons.injEq, exists_and_left, and_assoc, exists_eq_left, bk_18_64, m_numberOf hx0 hx1, if_neg, if_pos, o_eq, o_add_l, o_eq_l, n_m1, if_pos, if_neg, not_true_eq_false, not_false_eq_true, or_true, true_or, or_false, false_or, false_and, and_false, Nat.reduceEqDiff, Nat.reduceLT, Nat.reduceMul, Nat.not_lt_zero, Nat.zero_le, Nat.le_refl, ne_eq, reduceIte, reduceCtorEq, hq2, hne, d1]
            rw [B_18_99]
            simp (disch := omega) only [e_iconst, e_bipush, e_sipush, e_iload_n, e_iload, e_aload_n, e_aload, e_istore_n, e_istore, e_astore_n, e_astore, e_iinc, e_iadd, e_isub, e_imul, e_iand, e_ishr, e_idiv, e_i2c, e_dup_i, e_dup_r, e_dup2, e_pop, e_goto, e_nop, e_if_eq, e_if_ne, e_if_lt, e_if_ge, e_if_gt, e_if_le, e_icmp_eq, e_icmp_ne, e_icmp_lt, e_icmp_ge, e_icmp_gt, e_icmp_le, e_tsw, e_ret0, e_ret1, e_retn, e_getI, e_getZ, e_getR, e_getV, e_getC, e_putI, e_putZ, e_putF, e_gst0, e_gst1, e_sld, e_iald, e_cald, e_bald, e_iast, e_cast, e_aald, e_aast, e_alen, e_slen, e_blen, e_newa, e_newq, e_new, e_oinit, e_ctor, e_virt, e_stat, e_min, e_copy, e_ldc, List.cons_append, List.nil_append, List.append_nil, List.length_cons, List.length_nil, List.replicate_succ, List.replicate_zero, List.getElem?_cons_zero, List.getElem?_cons_succ, List.set_cons_zero, List.set_cons_succ, List.take_succ_cons, List.take_zero, List.drop_succ_cons, List.drop_zero, List.reverse_cons, List.reverse_nil, Option.toList_some, Option.toList_none, Nat.reduceSub, Nat.reduceAdd, Nat.reduceLeDiff, true_and, and_true, and_self, Option.some.injEq, exists_eq_left', Nat.zero_add, Value.int.injEq, Value.ref.injEq, List.cons.injEq, exists_and_left, and_assoc, exists_eq_left, bk_18_99, h0, h1, r0, h0', h1', h3', r0', r2', j5, jl, jt, s_ne, C_21, m_judge h, n_in, n_cl, o_add_l, if_pos, if_neg, not_true_eq_false, not_false_eq_true, or_true, true_or, or_false, false_or, false_and, and_false, Nat.reduceEqDiff, Nat.reduceLT, Nat.reduceMul, Nat.not_lt_zero, Nat.zero_le, Nat.le_refl, ne_eq, reduceIte, reduceCtorEq]
            exact hnext
        · rw [if_neg c1] at e2
          rw [e2] at hnext
          rw [B_18_25]
          simp (disch := omega) only [e_iconst, e_bipush, e_sipush, e_iload_n, e_iload, e_aload_n, e_aload, e_istore_n, e_istore, e_astore_n, e_astore, e_iinc, e_iadd, e_isub, e_imul, e_iand, e_ishr, e_idiv, e_i2c, e_dup_i, e_dup_r, e_dup2, e_pop, e_goto, e_nop, e_if_eq, e_if_ne, e_if_lt, e_if_ge, e_if_gt, e_if_le, e_icmp_eq, e_icmp_ne, e_icmp_lt, e_icmp_ge, e_icmp_gt, e_icmp_le, e_tsw, e_ret0, e_ret1, e_retn, e_getI, e_getZ, e_getR, e_getV, e_getC, e_putI, e_putZ, e_putF, e_gst0, e_gst1, e_sld, e_iald, e_cald, e_bald, e_iast, e_cast, e_aald, e_aast, e_alen, e_slen, e_blen, e_newa, e_newq, e_new, e_oinit, e_ctor, e_virt, e_stat, e_min, e_copy, e_ldc, List.cons_append, List.nil_append, List.append_nil, List.length_cons, List.length_nil, List.replicate_succ, List.replicate_zero, List.getElem?_cons_zero, List.getElem?_cons_succ, List.set_cons_zero, List.set_cons_succ, List.take_succ_cons, List.take_zero, List.drop_succ_cons, List.drop_zero, List.reverse_cons, List.reverse_nil, Option.toList_some, Option.toList_none, Nat.reduceSub, Nat.reduceAdd, Nat.reduceLeDiff, true_and, and_true, and_self, Option.some.injEq, exists_eq_left', Nat.zero_add, Value.int.injEq, Value.ref.injEq, List.cons.injEq, exists_and_left, and_assoc, exists_eq_left, bk_18_25, h0, h1, r0, h0', h1', h3', r0', r2', j5, jl, jt, n_le, o_le_r, n_in, n_cl, o_add_l, if_neg, o_eq, s_ne, if_pos, if_neg, not_true_eq_false, not_false_eq_true, or_true, true_or, or_false, false_or, false_and, and_false, Nat.reduceEqDiff, Nat.reduceLT, Nat.reduceMul, Nat.not_lt_zero, Nat.zero_le, Nat.le_refl, ne_eq, reduceIte, reduceCtorEq, c1, c2]
          rw [B_18_64]
          simp (disch := omega) only [e_iconst, e_bipush, e_sipush, e_iload_n, e_iload, e_aload_n, e_aload, e_istore_n, e_istore, e_astore_n, e_astore, e_iinc, e_iadd, e_isub, e_imul, e_iand, e_ishr, e_idiv, e_i2c, e_dup_i, e_dup_r, e_dup2, e_pop, e_goto, e_nop, e_if_eq, e_if_ne, e_if_lt, e_if_ge, e_if_gt, e_if_le, e_icmp_eq, e_icmp_ne, e_icmp_lt, e_icmp_ge, e_icmp_gt, e_icmp_le, e_tsw, e_ret0, e_ret1, e_retn, e_getI, e_getZ, e_getR, e_getV, e_getC, e_putI, e_putZ, e_putF, e_gst0, e_gst1, e_sld, e_iald, e_cald, e_bald, e_iast, e_cast, e_aald, e_aast, e_alen, e_slen, e_blen, e_newa, e_newq, e_new, e_oinit, e_ctor, e_virt, e_stat, e_min, e_copy, e_ldc, List.cons_append, List.nil_append, List.append_nil, List.length_cons, List.length_nil, List.replicate_succ, List.replicate_zero, List.getElem?_cons_zero, List.getElem?_cons_succ, List.set_cons_zero, List.set_cons_succ, List.take_succ_cons, List.take_zero, List.drop_succ_cons, List.drop_zero, List.reverse_cons, List.reverse_nil, Option.toList_some, Option.toList_none, Nat.reduceSub, Nat.reduceAdd, Nat.reduceLeDiff, true_and, and_true, and_self, Option.some.injEq, exists_eq_left', Nat.zero_add, Value.int.injEq, Value.ref.injEq, List.cons.injEq, exists_and_left, and_assoc, exists_eq_left, bk_18_64, m_numberOf hx0 hx1, if_neg, if_pos, o_eq, o_add_l, o_eq_l, n_m1, if_pos, if_neg, not_true_eq_false, not_false_eq_true, or_true, true_or, or_false, false_or, false_and, and_false, Nat.reduceEqDiff, Nat.reduceLT, Nat.reduceMul, Nat.not_lt_zero, Nat.zero_le, Nat.le_refl, ne_eq, reduceIte, reduceCtorEq, c1, c2]
          rw [B_18_99]
          simp (disch := omega) only [e_iconst, e_bipush, e_sipush, e_iload_n, e_iload, e_aload_n, e_aload, e_istore_n, e_istore, e_astore_n, e_astore, e_iinc, e_iadd, e_isub, e_imul, e_iand, e_ishr, e_idiv, e_i2c, e_dup_i, e_dup_r, e_dup2, e_pop, e_goto, e_nop, e_if_eq, e_if_ne, e_if_lt, e_if_ge, e_if_gt, e_if_le, e_icmp_eq, e_icmp_ne, e_icmp_lt, e_icmp_ge, e_icmp_gt, e_icmp_le, e_tsw, e_ret0, e_ret1, e_retn, e_getI, e_getZ, e_getR, e_getV, e_getC, e_putI, e_putZ, e_putF, e_gst0, e_gst1, e_sld, e_iald, e_cald, e_bald, e_iast, e_cast, e_aald, e_aast, e_alen, e_slen, e_blen, e_newa, e_newq, e_new, e_oinit, e_ctor, e_virt, e_stat, e_min, e_copy, e_ldc, List.cons_append, List.nil_append, List.append_nil, List.length_cons, List.length_nil, List.replicate_succ, List.replicate_zero, List.getElem?_cons_zero, List.getElem?_cons_succ, List.set_cons_zero, List.set_cons_succ, List.take_succ_cons, List.take_zero, List.drop_succ_cons, List.drop_zero, List.reverse_cons, List.reverse_nil, Option.toList_some, Option.toList_none, Nat.reduceSub, Nat.reduceAdd, Nat.reduceLeDiff, true_and, and_true, and_self, Option.some.injEq, exists_eq_left', Nat.zero_add, Value.int.injEq, Value.ref.injEq, List.cons.injEq, exists_and_left, and_assoc, exists_eq_left, bk_18_99, h0, h1, r0, h0', h1', h3', r0', r2', j5, jl, jt, s_ne, C_21, m_judge h, n_in, n_cl, o_add_l, if_pos, if_neg, not_true_eq_false, not_false_eq_true, or_true, true_or, or_false, false_or, false_and, and_false, Nat.reduceEqDiff, Nat.reduceLT, Nat.reduceMul, Nat.not_lt_zero, Nat.zero_le, Nat.le_refl, ne_eq, reduceIte, reduceCtorEq]
          exact hnext
    · intro l5 l6
      have j5 : rSt I r (rdN I w c way) (fun i => I (w + 3) (i + 1)) c c w 5 = nI c := by rw [rSt_o (by omega)]; exact hc
      rw [B_18_25, ← hQ]
      simp (disch := omega) only [e_iconst, e_bipush, e_sipush, e_iload_n, e_iload, e_aload_n, e_aload, e_istore_n, e_istore, e_astore_n, e_astore, e_iinc, e_iadd, e_isub, e_imul, e_iand, e_ishr, e_idiv, e_i2c, e_dup_i, e_dup_r, e_dup2, e_pop, e_goto, e_nop, e_if_eq, e_if_ne, e_if_lt, e_if_ge, e_if_gt, e_if_le, e_icmp_eq, e_icmp_ne, e_icmp_lt, e_icmp_ge, e_icmp_gt, e_icmp_le, e_tsw, e_ret0, e_ret1, e_retn, e_getI, e_getZ, e_getR, e_getV, e_getC, e_putI, e_putZ, e_putF, e_gst0, e_gst1, e_sld, e_iald, e_cald, e_bald, e_iast, e_cast, e_aald, e_aast, e_alen, e_slen, e_blen, e_newa, e_newq, e_new, e_oinit, e_ctor, e_virt, e_stat, e_min, e_copy, e_ldc, List.cons_append, List.nil_append, List.append_nil, List.length_cons, List.length_nil, List.replicate_succ, List.replicate_zero, List.getElem?_cons_zero, List.getElem?_cons_succ, List.set_cons_zero, List.set_cons_succ, List.take_succ_cons, List.take_zero, List.drop_succ_cons, List.drop_zero, List.reverse_cons, List.reverse_nil, Option.toList_some, Option.toList_none, Nat.reduceSub, Nat.reduceAdd, Nat.reduceLeDiff, true_and, and_true, and_self, Option.some.injEq, exists_eq_left', Nat.zero_add, Value.int.injEq, Value.ref.injEq, List.cons.injEq, exists_and_left, and_assoc, exists_eq_left, bk_18_25, B_18_131, bk_18_131, h0', j5, n_le, if_pos, if_pos, if_neg, not_true_eq_false, not_false_eq_true, or_true, true_or, or_false, false_or, false_and, and_false, Nat.reduceEqDiff, Nat.reduceLT, Nat.reduceMul, Nat.not_lt_zero, Nat.zero_le, Nat.le_refl, ne_eq, reduceIte, reduceCtorEq]
  refine Ev_cg ?_ ?_ (key .null .null)
  · funext x j
    simp only [rSt, mSet, cnt, fB]
    (repeat' split) <;> first | rfl | (exfalso; omega) | simp_all
  · rfl
theorem m_errorCount {K : mK} {R : Nat → Nat → Option Nat} {I : Nat → Nat → Int32} {r : Nat} {Q : Option Value → mH → Prop} (h : zR K R r) : EvM 22 [.ref r] (K, R, I) Q ↔ Q (some (.int (I r 1 + I r 2))) (K, R, I) := by
  obtain ⟨h0, h1, r0, h2⟩ := id h
  unfold EvM
  simp (disch := omega) only [e_iconst, e_bipush, e_sipush, e_iload_n, e_iload, e_aload_n, e_aload, e_istore_n, e_istore, e_astore_n, e_astore, e_iinc, e_iadd, e_isub, e_imul, e_iand, e_ishr, e_idiv, e_i2c, e_dup_i, e_dup_r, e_dup2, e_pop, e_goto, e_nop, e_if_eq, e_if_ne, e_if_lt, e_if_ge, e_if_gt, e_if_le, e_icmp_eq, e_icmp_ne, e_icmp_lt, e_icmp_ge, e_icmp_gt, e_icmp_le, e_tsw, e_ret0, e_ret1, e_retn, e_getI, e_getZ, e_getR, e_getV, e_getC, e_putI, e_putZ, e_putF, e_gst0, e_gst1, e_sld, e_iald, e_cald, e_bald, e_iast, e_cast, e_aald, e_aast, e_alen, e_slen, e_blen, e_newa, e_newq, e_new, e_oinit, e_ctor, e_virt, e_stat, e_min, e_copy, e_ldc, List.cons_append, List.nil_append, List.append_nil, List.length_cons, List.length_nil, List.replicate_succ, List.replicate_zero, List.getElem?_cons_zero, List.getElem?_cons_succ, List.set_cons_zero, List.set_cons_succ, List.take_succ_cons, List.take_zero, List.drop_succ_cons, List.drop_zero, List.reverse_cons, List.reverse_nil, Option.toList_some, Option.toList_none, Nat.reduceSub, Nat.reduceAdd, Nat.reduceLeDiff, true_and, and_true, and_self, Option.some.injEq, exists_eq_left', Nat.zero_add, Value.int.injEq, Value.ref.injEq, List.cons.injEq, exists_and_left, and_assoc, exists_eq_left, N_22, C_22, B_22_0, bk_22_0, h0, if_pos, if_neg, not_true_eq_false, not_false_eq_true, or_true, true_or, or_false, false_or, false_and, and_false, Nat.reduceEqDiff, Nat.reduceLT, Nat.reduceMul, Nat.not_lt_zero, Nat.zero_le, Nat.le_refl, ne_eq, reduceIte, reduceCtorEq]
theorem m_readTheSame {K : mK} {R : Nat → Nat → Option Nat} {I : Nat → Nat → Int32} {r q c : Nat} {Q : Option Value → mH → Prop} (h : zR K R r) (h' : zR K R q) (hc : c ≤ 30) :
    EvM 23 [.ref r, .ref q, .int (nI c)] (K, R, I) Q ↔ Q (some (.int (if fB (fun k => !(I (r + 1) k == I (q + 1) k)) c c = c then 1 else 0))) (K, R, I) := by
  obtain ⟨h0, h1, r0, h2⟩ := id h
  obtain ⟨h0', h1', r0', h2'⟩ := id h'
  refine EvM_iff ?_
  unfold EvM
  simp (disch := omega) only [e_iconst, e_bipush, e_sipush, e_iload_n, e_iload, e_aload_n, e_aload, e_istore_n, e_istore, e_astore_n, e_astore, e_iinc, e_iadd, e_isub, e_imul, e_iand, e_ishr, e_idiv, e_i2c, e_dup_i, e_dup_r, e_dup2, e_pop, e_goto, e_nop, e_if_eq, e_if_ne, e_if_lt, e_if_ge, e_if_gt, e_if_le, e_icmp_eq, e_icmp_ne, e_icmp_lt, e_icmp_ge, e_icmp_gt, e_icmp_le, e_tsw, e_ret0, e_ret1, e_retn, e_getI, e_getZ, e_getR, e_getV, e_getC, e_putI, e_putZ, e_putF, e_gst0, e_gst1, e_sld, e_iald, e_cald, e_bald, e_iast, e_cast, e_aald, e_aast, e_alen, e_slen, e_blen, e_newa, e_newq, e_new, e_oinit, e_ctor, e_virt, e_stat, e_min, e_copy, e_ldc, List.cons_append, List.nil_append, List.append_nil, List.length_cons, List.length_nil, List.replicate_succ, List.replicate_zero, List.getElem?_cons_zero, List.getElem?_cons_succ, List.set_cons_zero, List.set_cons_succ, List.take_succ_cons, List.take_zero, List.drop_succ_cons, List.drop_zero, List.reverse_cons, List.reverse_nil, Option.toList_some, Option.toList_none, Nat.reduceSub, Nat.reduceAdd, Nat.reduceLeDiff, true_and, and_true, and_self, Option.some.injEq, exists_eq_left', Nat.zero_add, Value.int.injEq, Value.ref.injEq, List.cons.injEq, exists_and_left, and_assoc, exists_eq_left, N_23, B_23_0, bk_23_0, if_pos, if_neg, not_true_eq_false, not_false_eq_true, or_true, true_or, or_false, false_or, false_and, and_false, Nat.reduceEqDiff, Nat.reduceLT, Nat.reduceMul, Nat.not_lt_zero, Nat.zero_le, Nat.le_refl, ne_eq, reduceIte, reduceCtorEq]
  have key := loop_dn (n := c) (P := fun k => fB (fun k => !(I (r + 1) k == I (q + 1) k)) c k = c → Ev 23 (mB 23 2) [.ref r, .ref q, .int (nI c), .int (nI k)] [] (K, R, I) (fun v k => v = some (.int (if fB (fun k => !(I (r + 1) k == I (q + 1) k)) c c = c then 1 else 0)) ∧ k = (K, R, I))) ?_ ?_
  · exact key rfl
  · intro k hk hnext hfb
    rw [B_23_2]
    simp (disch := omega) only [e_iconst, e_bipush, e_sipush, e_iload_n, e_iload, e_aload_n, e_aload, e_istore_n, e_istore, e_astore_n, e_astore, e_iinc, e_iadd, e_isub, e_imul, e_iand, e_ishr, e_idiv, e_i2c, e_dup_i, e_dup_r, e_dup2, e_pop, e_goto, e_nop, e_if_eq, e_if_ne, e_if_lt, e_if_ge, e_if_gt, e_if_le, e_icmp_eq, e_icmp_ne, e_icmp_lt, e_icmp_ge, e_icmp_gt, e_icmp_le, e_tsw, e_ret0, e_ret1, e_retn, e_getI, e_getZ, e_getR, e_getV, e_getC, e_putI, e_putZ, e_putF, e_gst0, e_gst1, e_sld, e_iald, e_cald, e_bald, e_iast, e_cast, e_aald, e_aast, e_alen, e_slen, e_blen, e_newa, e_newq, e_new, e_oinit, e_ctor, e_virt, e_stat, e_min, e_copy, e_ldc, List.cons_append, List.nil_append, List.append_nil, List.length_cons, List.length_nil, List.replicate_succ, List.replicate_zero, List.getElem?_cons_zero, List.getElem?_cons_succ, List.set_cons_zero, List.set_cons_succ, List.take_succ_cons, List.take_zero, List.drop_succ_cons, List.drop_zero, List.reverse_cons, List.reverse_nil, Option.toList_some, Option.toList_none, Nat.reduceSub, Nat.reduceAdd, Nat.reduceLeDiff, true_and, and_true, and_self, Option.some.injEq, exists_eq_left', Nat.zero_add, Value.int.injEq, Value.ref.injEq, List.cons.injEq, exists_and_left, and_assoc, exists_eq_left, bk_23_2, h0, h1, r0, h0', h1', r0', n_le, o_le_r, n_in, n_cl, o_add_l, if_neg, if_pos, if_neg, not_true_eq_false, not_false_eq_true, or_true, true_or, or_false, false_or, false_and, and_false, Nat.reduceEqDiff, Nat.reduceLT, Nat.reduceMul, Nat.not_lt_zero, Nat.zero_le, Nat.le_refl, ne_eq, reduceIte, reduceCtorEq]
    by_cases e : I (r + 1) k = I (q + 1) k
    · rw [if_pos e, B_23_30]
      simp (disch := omega) only [e_iconst, e_bipush, e_sipush, e_iload_n, e_iload, e_aload_n, e_aload, e_istore_n, e_istore, e_astore_n, e_astore, e_iinc, e_iadd, e_isub, e_imul, e_iand, e_ishr, e_idiv, e_i2c, e_dup_i, e_dup_r, e_dup2, e_pop, e_goto, e_nop, e_if_eq, e_if_ne, e_if_lt, e_if_ge, e_if_gt, e_if_le, e_icmp_eq, e_icmp_ne, e_icmp_lt, e_icmp_ge, e_icmp_gt, e_icmp_le, e_tsw, e_ret0, e_ret1, e_retn, e_getI, e_getZ, e_getR, e_getV, e_getC, e_putI, e_putZ, e_putF, e_gst0, e_gst1, e_sld, e_iald, e_cald, e_bald, e_iast, e_cast, e_aald, e_aast, e_alen, e_slen, e_blen, e_newa, e_newq, e_new, e_oinit, e_ctor, e_virt, e_stat, e_min, e_copy, e_ldc, List.cons_append, List.nil_append, List.append_nil, List.length_cons, List.length_nil, List.replicate_succ, List.replicate_zero, List.getElem?_cons_zero, List.getElem?_cons_succ, List.set_cons_zero, List.set_cons_succ, List.take_succ_cons, List.take_zero, List.drop_succ_cons, List.drop_zero, List.reverse_cons, List.reverse_nil, Option.toList_some, Option.toList_none, Nat.reduceSub, Nat.reduceAdd, Nat.reduceLeDiff, true_and, and_true, and_self, Option.some.injEq, exists_eq_left', Nat.zero_add, Value.int.injEq, Value.ref.injEq, List.cons.injEq, exists_and_left, and_assoc, exists_eq_left, bk_23_30, o_add_l, if_pos, if_neg, not_true_eq_false, not_false_eq_true, or_true, true_or, or_false, false_or, false_and, and_false, Nat.reduceEqDiff, Nat.reduceLT, Nat.reduceMul, Nat.not_lt_zero, Nat.zero_le, Nat.le_refl, ne_eq, reduceIte, reduceCtorEq]
      exact hnext (by simp [fB, hfb, e])
    · rw [if_neg e]
      have hs : fB (fun k => !(I (r + 1) k == I (q + 1) k)) c (k + 1) = k := by simp [fB, hfb, e]
      have hst : ∀ j, k + 1 ≤ j → j ≤ c → fB (fun k => !(I (r + 1) k == I (q + 1) k)) c j = k := by
        intro j
        induction j with
        | zero => intro h; omega
        | succ j ih =>
          intro hj1 hj2
          rcases Nat.lt_or_ge j (k + 1) with z | z
          · rw [show j = k by omega]; exact hs
          · rw [fB, ih z (by omega), if_neg (by omega)]
      rw [hst c (by omega) (Nat.le_refl _), if_neg (by omega)]
  · intro hfb
    rw [B_23_2]
    simp (disch := omega) only [e_iconst, e_bipush, e_sipush, e_iload_n, e_iload, e_aload_n, e_aload, e_istore_n, e_istore, e_astore_n, e_astore, e_iinc, e_iadd, e_isub, e_imul, e_iand, e_ishr, e_idiv, e_i2c, e_dup_i, e_dup_r, e_dup2, e_pop, e_goto, e_nop, e_if_eq, e_if_ne, e_if_lt, e_if_ge, e_if_gt, e_if_le, e_icmp_eq, e_icmp_ne, e_icmp_lt, e_icmp_ge, e_icmp_gt, e_icmp_le, e_tsw, e_ret0, e_ret1, e_retn, e_getI, e_getZ, e_getR, e_getV, e_getC, e_putI, e_putZ, e_putF, e_gst0, e_gst1, e_sld, e_iald, e_cald, e_bald, e_iast, e_cast, e_aald, e_aast, e_alen, e_slen, e_blen, e_newa, e_newq, e_new, e_oinit, e_ctor, e_virt, e_stat, e_min, e_copy, e_ldc, List.cons_append, List.nil_append, List.append_nil, List.length_cons, List.length_nil, List.replicate_succ, List.replicate_zero, List.getElem?_cons_zero, List.getElem?_cons_succ, List.set_cons_zero, List.set_cons_succ, List.take_succ_cons, List.take_zero, List.drop_succ_cons, List.drop_zero, List.reverse_cons, List.reverse_nil, Option.toList_some, Option.toList_none, Nat.reduceSub, Nat.reduceAdd, Nat.reduceLeDiff, true_and, and_true, and_self, Option.some.injEq, exists_eq_left', Nat.zero_add, Value.int.injEq, Value.ref.injEq, List.cons.injEq, exists_and_left, and_assoc, exists_eq_left, bk_23_2, B_23_36, bk_23_36, n_le, if_pos, if_pos, if_neg, not_true_eq_false, not_false_eq_true, or_true, true_or, or_false, false_or, false_and, and_false, Nat.reduceEqDiff, Nat.reduceLT, Nat.reduceMul, Nat.not_lt_zero, Nat.zero_le, Nat.le_refl, ne_eq, reduceIte, reduceCtorEq, hfb]
end
section
/-! THE LOG of the class -/
def zL (K : mK) (R : Nat → Nat → Option Nat) (a : Nat) : Prop := K.2.2.1 a = (1, 2) ∧ K.2.2.1 (a + 1) = (2, 10) ∧ K.2.2.1 (a + 2) = (2, 10) ∧ K.2.2.1 (a + 3) = (2, 10) ∧ R a 0 = some (a + 1) ∧ R a 1 = some (a + 2) ∧ R a 2 = some (a + 3) ∧ a < 1000
/-- the log's cells behind one more event -/
def lAd (I : Nat → Nat → Int32) (a n : Nat) (kd sp nu : Int32) : Nat → Nat → Int32 := fun x j =>
  if n = 10 then
    (if x = a + 1 then (if j < 9 then I x (j + 1) else if j = 9 then kd else I x j) else if x = a + 2 then (if j < 9 then I x (j + 1) else if j = 9 then sp else I x j) else if x = a + 3 then (if j < 9 then I x (j + 1) else if j = 9 then nu else I x j) else if x = a ∧ j = 3 then nI 10 else I x j)
  else if x = a + 1 ∧ j = n then kd else if x = a + 2 ∧ j = n then sp else if x = a + 3 ∧ j = n then nu else if x = a ∧ j = 3 then nI (n + 1) else I x j
theorem m_dropOldest {K : mK} {R : Nat → Nat → Option Nat} {I : Nat → Nat → Int32} {a : Nat} {Q : Option Value → mH → Prop} (h : zL K R a) : EvM 15 [.ref a] (K, R, I) Q ↔ Q none (K, R, mSet (mCpy (mCpy (mCpy I (a + 1) 1 (a + 1) 0 9) (a + 2) 1 (a + 2) 0 9) (a + 3) 1 (a + 3) 0 9) a 3 9) := by
  obtain ⟨h0, h1, h2, h3, r0, r1, r2, h4⟩ := id h
  unfold EvM
  simp (disch := omega) only [e_iconst, e_bipush, e_sipush, e_iload_n, e_iload, e_aload_n, e_aload, e_istore_n, e_istore, e_astore_n, e_astore, e_iinc, e_iadd, e_isub, e_imul, e_iand, e_ishr, e_idiv, e_i2c, e_dup_i, e_dup_r, e_dup2, e_pop, e_goto, e_nop, e_if_eq, e_if_ne, e_if_lt, e_if_ge, e_if_gt, e_if_le, e_icmp_eq, e_icmp_ne, e_icmp_lt, e_icmp_ge, e_icmp_gt, e_icmp_le, e_tsw, e_ret0, e_ret1, e_retn, e_getI, e_getZ, e_getR, e_getV, e_getC, e_putI, e_putZ, e_putF, e_gst0, e_gst1, e_sld, e_iald, e_cald, e_bald, e_iast, e_cast, e_aald, e_aast, e_alen, e_slen, e_blen, e_newa, e_newq, e_new, e_oinit, e_ctor, e_virt, e_stat, e_min, e_copy, e_ldc, List.cons_append, List.nil_append, List.append_nil, List.length_cons, List.length_nil, List.replicate_succ, List.replicate_zero, List.getElem?_cons_zero, List.getElem?_cons_succ, List.set_cons_zero, List.set_cons_succ, List.take_succ_cons, List.take_zero, List.drop_succ_cons, List.drop_zero, List.reverse_cons, List.reverse_nil, Option.toList_some, Option.toList_none, Nat.reduceSub, Nat.reduceAdd, Nat.reduceLeDiff, true_and, and_true, and_self, Option.some.injEq, exists_eq_left', Nat.zero_add, Value.int.injEq, Value.ref.injEq, List.cons.injEq, exists_and_left, and_assoc, exists_eq_left, N_15, C_15, B_15_0, bk_15_0, h0, h1, h2, h3, r0, r1, r2, o_cl, o_le, if_pos, if_neg, not_true_eq_false, not_false_eq_true, or_true, true_or, or_false, false_or, false_and, and_false, Nat.reduceEqDiff, Nat.reduceLT, Nat.reduceMul, Nat.not_lt_zero, Nat.zero_le, Nat.le_refl, ne_eq, reduceIte, reduceCtorEq]
theorem m_logAdd {K : mK} {R : Nat → Nat → Option Nat} {I : Nat → Nat → Int32} {a n : Nat} {kd sp nu : Int32} {Q : Option Value → mH → Prop} (h : zL K R a) (hn : I a 3 = nI n) (hn2 : n ≤ 10) : EvM 14 [.ref a, .int kd, .int sp, .int nu] (K, R, I) Q ↔ Q none (K, R, lAd I a n kd sp nu) := by
  obtain ⟨h0, h1, h2, h3, r0, r1, r2, h4⟩ := id h
  refine EvM_iff ?_
  unfold EvM
  by_cases e : n = 10
  · subst e
    simp (disch := omega) only [e_iconst, e_bipush, e_sipush, e_iload_n, e_iload, e_aload_n, e_aload, e_istore_n, e_istore, e_astore_n, e_astore, e_iinc, e_iadd, e_isub, e_imul, e_iand, e_ishr, e_idiv, e_i2c, e_dup_i, e_dup_r, e_dup2, e_pop, e_goto, e_nop, e_if_eq, e_if_ne, e_if_lt, e_if_ge, e_if_gt, e_if_le, e_icmp_eq, e_icmp_ne, e_icmp_lt, e_icmp_ge, e_icmp_gt, e_icmp_le, e_tsw, e_ret0, e_ret1, e_retn, e_getI, e_getZ, e_getR, e_getV, e_getC, e_putI, e_putZ, e_putF, e_gst0, e_gst1, e_sld, e_iald, e_cald, e_bald, e_iast, e_cast, e_aald, e_aast, e_alen, e_slen, e_blen, e_newa, e_newq, e_new, e_oinit, e_ctor, e_virt, e_stat, e_min, e_copy, e_ldc, List.cons_append, List.nil_append, List.append_nil, List.length_cons, List.length_nil, List.replicate_succ, List.replicate_zero, List.getElem?_cons_zero, List.getElem?_cons_succ, List.set_cons_zero, List.set_cons_succ, List.take_succ_cons, List.take_zero, List.drop_succ_cons, List.drop_zero, List.reverse_cons, List.reverse_nil, Option.toList_some, Option.toList_none, Nat.reduceSub, Nat.reduceAdd, Nat.reduceLeDiff, true_and, and_true, and_self, Option.some.injEq, exists_eq_left', Nat.zero_add, Value.int.injEq, Value.ref.injEq, List.cons.injEq, exists_and_left, and_assoc, exists_eq_left, N_14, C_14, B_14_0, bk_14_0, B_14_13, bk_14_13, h0, h1, h2, h3, r0, r1, r2, hn, C_15, m_dropOldest h, o_eq_l, s_eq, s_ne, o_cl, o_in, if_pos, if_neg, not_true_eq_false, not_false_eq_true, or_true, true_or, or_false, false_or, false_and, and_false, Nat.reduceEqDiff, Nat.reduceLT, Nat.reduceMul, Nat.not_lt_zero, Nat.zero_le, Nat.le_refl, ne_eq, reduceIte, reduceCtorEq]
    congr 2
    funext x j
    simp only [lAd, mSet, mCpy, if_true]
    (repeat' split) <;> first | rfl | (exfalso; omega) | (subst_vars; congr 1; omega) | (simp_all; done)
  · simp (disch := omega) only [e_iconst, e_bipush, e_sipush, e_iload_n, e_iload, e_aload_n, e_aload, e_istore_n, e_istore, e_astore_n, e_astore, e_iinc, e_iadd, e_isub, e_imul, e_iand, e_ishr, e_idiv, e_i2c, e_dup_i, e_dup_r, e_dup2, e_pop, e_goto, e_nop, e_if_eq, e_if_ne, e_if_lt, e_if_ge, e_if_gt, e_if_le, e_icmp_eq, e_icmp_ne, e_icmp_lt, e_icmp_ge, e_icmp_gt, e_icmp_le, e_tsw, e_ret0, e_ret1, e_retn, e_getI, e_getZ, e_getR, e_getV, e_getC, e_putI, e_putZ, e_putF, e_gst0, e_gst1, e_sld, e_iald, e_cald, e_bald, e_iast, e_cast, e_aald, e_aast, e_alen, e_slen, e_blen, e_newa, e_newq, e_new, e_oinit, e_ctor, e_virt, e_stat, e_min, e_copy, e_ldc, List.cons_append, List.nil_append, List.append_nil, List.length_cons, List.length_nil, List.replicate_succ, List.replicate_zero, List.getElem?_cons_zero, List.getElem?_cons_succ, List.set_cons_zero, List.set_cons_succ, List.take_succ_cons, List.take_zero, List.drop_succ_cons, List.drop_zero, List.reverse_cons, List.reverse_nil, Option.toList_some, Option.toList_none, Nat.reduceSub, Nat.reduceAdd, Nat.reduceLeDiff, true_and, and_true, and_self, Option.some.injEq, exists_eq_left', Nat.zero_add, Value.int.injEq, Value.ref.injEq, List.cons.injEq, exists_and_left, and_assoc, exists_eq_left, N_14, C_14, B_14_0, bk_14_0, B_14_13, bk_14_13, h0, h1, h2, h3, r0, r1, r2, hn, o_eq_l, if_neg, s_eq, s_ne, n_cl, n_in, o_add_l, if_pos, if_neg, not_true_eq_false, not_false_eq_true, or_true, true_or, or_false, false_or, false_and, and_false, Nat.reduceEqDiff, Nat.reduceLT, Nat.reduceMul, Nat.not_lt_zero, Nat.zero_le, Nat.le_refl, ne_eq, reduceIte, reduceCtorEq, e]
    congr 2
    funext x j
    simp only [lAd, mSet, if_neg e]
    (repeat' split) <;> first | rfl | (exfalso; omega) | (simp_all; done)
def lCp (I : Nat → Nat → Int32) (a b : Nat) : Nat → Nat → Int32 := fun x j => if x = a ∧ j = 3 then I b 3 else if x = a + 1 ∧ j < 10 then I (b + 1) j else if x = a + 2 ∧ j < 10 then I (b + 2) j else if x = a + 3 ∧ j < 10 then I (b + 3) j else I x j
theorem lCp_o {I : Nat → Nat → Int32} {a b x j : Nat} (h : x < a ∨ a + 3 < x) : lCp I a b x j = I x j := by
  unfold lCp
  rw [if_neg (by omega), if_neg (by omega), if_neg (by omega), if_neg (by omega)]
theorem m_logCopy {K : mK} {R : Nat → Nat → Option Nat} {I : Nat → Nat → Int32} {a b : Nat} {Q : Option Value → mH → Prop} (h : zL K R a) (h' : zL K R b) (hab : a + 4 ≤ b ∨ b + 4 ≤ a) : EvM 13 [.ref a, .ref b] (K, R, I) Q ↔ Q none (K, R, lCp I a b) := by
  obtain ⟨h0, h1, h2, h3, r0, r1, r2, h4⟩ := id h
  obtain ⟨h0', h1', h2', h3', r0', r1', r2', h4'⟩ := id h'
  refine EvM_iff ?_
  unfold EvM
  have c1 : ∀ {J : Nat → Nat → Int32} {o q sp dp n x j : Nat}, x ≠ q → mCpy J o sp q dp n x j = J x j := fun e => by rw [mCpy_o' e]
  simp (disch := omega) only [e_iconst, e_bipush, e_sipush, e_iload_n, e_iload, e_aload_n, e_aload, e_istore_n, e_istore, e_astore_n, e_astore, e_iinc, e_iadd, e_isub, e_imul, e_iand, e_ishr, e_idiv, e_i2c, e_dup_i, e_dup_r, e_dup2, e_pop, e_goto, e_nop, e_if_eq, e_if_ne, e_if_lt, e_if_ge, e_if_gt, e_if_le, e_icmp_eq, e_icmp_ne, e_icmp_lt, e_icmp_ge, e_icmp_gt, e_icmp_le, e_tsw, e_ret0, e_ret1, e_retn, e_getI, e_getZ, e_getR, e_getV, e_getC, e_putI, e_putZ, e_putF, e_gst0, e_gst1, e_sld, e_iald, e_cald, e_bald, e_iast, e_cast, e_aald, e_aast, e_alen, e_slen, e_blen, e_newa, e_newq, e_new, e_oinit, e_ctor, e_virt, e_stat, e_min, e_copy, e_ldc, List.cons_append, List.nil_append, List.append_nil, List.length_cons, List.length_nil, List.replicate_succ, List.replicate_zero, List.getElem?_cons_zero, List.getElem?_cons_succ, List.set_cons_zero, List.set_cons_succ, List.take_succ_cons, List.take_zero, List.drop_succ_cons, List.drop_zero, List.reverse_cons, List.reverse_nil, Option.toList_some, Option.toList_none, Nat.reduceSub, Nat.reduceAdd, Nat.reduceLeDiff, true_and, and_true, and_self, Option.some.injEq, exists_eq_left', Nat.zero_add, Value.int.injEq, Value.ref.injEq, List.cons.injEq, exists_and_left, and_assoc, exists_eq_left, N_13, C_13, B_13_0, bk_13_0, h0, h1, h2, h3, r0, r1, r2, h0', h1', h2', h3', r0', r1', r2', c1, o_cl, o_le, if_pos, if_neg, not_true_eq_false, not_false_eq_true, or_true, true_or, or_false, false_or, false_and, and_false, Nat.reduceEqDiff, Nat.reduceLT, Nat.reduceMul, Nat.not_lt_zero, Nat.zero_le, Nat.le_refl, ne_eq, reduceIte, reduceCtorEq]
  congr 2
  funext x j
  simp only [mSet, mCpy, lCp]
  (repeat' split) <;> first | rfl | (exfalso; omega) | (simp_all; done) | (congr 1; omega) | (congr 1 <;> omega)
theorem m_logTell {K : mK} {R : Nat → Nat → Option Nat} {I : Nat → Nat → Int32} {a n : Nat} {b w : Int32} {Q : Option Value → mH → Prop} (h : zL K R a) (hn : I a 3 = nI n) (hn2 : n ≤ 10) (hb : 0 ≤ b) : EvM 16 [.ref a, .int b, .int w] (K, R, I) Q ↔ Q (some (.int (if nI n ≤ b then -5 else I (if w = 0 then a + 1 else if w = 1 then a + 2 else a + 3) (n - 1 - b.toNatClampNeg)))) (K, R, I) := by
  obtain ⟨h0, h1, h2, h3, r0, r1, r2, h4⟩ := id h
  refine EvM_iff ?_
  unfold EvM
  rcases sp_cases b (n := n) (by omega) with ⟨k, hk, rfl⟩ | q
  · have e1 : ¬ nI n ≤ nI k := by rw [n_le (by omega) (by omega)]; omega
    have e2 : (nI k).toNatClampNeg = k := n_cl (by omega)
    by_cases c0 : w = 0
    · simp (disch := omega) only [e_iconst, e_bipush, e_sipush, e_iload_n, e_iload, e_aload_n, e_aload, e_istore_n, e_istore, e_astore_n, e_astore, e_iinc, e_iadd, e_isub, e_imul, e_iand, e_ishr, e_idiv, e_i2c, e_dup_i, e_dup_r, e_dup2, e_pop, e_goto, e_nop, e_if_eq, e_if_ne, e_if_lt, e_if_ge, e_if_gt, e_if_le, e_icmp_eq, e_icmp_ne, e_icmp_lt, e_icmp_ge, e_icmp_gt, e_icmp_le, e_tsw, e_ret0, e_ret1, e_retn, e_getI, e_getZ, e_getR, e_getV, e_getC, e_putI, e_putZ, e_putF, e_gst0, e_gst1, e_sld, e_iald, e_cald, e_bald, e_iast, e_cast, e_aald, e_aast, e_alen, e_slen, e_blen, e_newa, e_newq, e_new, e_oinit, e_ctor, e_virt, e_stat, e_min, e_copy, e_ldc, List.cons_append, List.nil_append, List.append_nil, List.length_cons, List.length_nil, List.replicate_succ, List.replicate_zero, List.getElem?_cons_zero, List.getElem?_cons_succ, List.set_cons_zero, List.set_cons_succ, List.take_succ_cons, List.take_zero, List.drop_succ_cons, List.drop_zero, List.reverse_cons, List.reverse_nil, Option.toList_some, Option.toList_none, Nat.reduceSub, Nat.reduceAdd, Nat.reduceLeDiff, true_and, and_true, and_self, Option.some.injEq, exists_eq_left', Nat.zero_add, Value.int.injEq, Value.ref.injEq, List.cons.injEq, exists_and_left, and_assoc, exists_eq_left, N_16, C_16, B_16_0, bk_16_0, B_16_12, bk_16_12, B_16_15, bk_16_15, B_16_35, bk_16_35, B_16_49, bk_16_49, B_16_55, bk_16_55, h0, h1, h2, h3, r0, r1, r2, hn, n_ne0, n_lt, if_pos, if_neg, o_sub_l, n_sub, n_in, n_cl, e1, e2, c0, if_pos, if_neg, not_true_eq_false, not_false_eq_true, or_true, true_or, or_false, false_or, false_and, and_false, Nat.reduceEqDiff, Nat.reduceLT, Nat.reduceMul, Nat.not_lt_zero, Nat.zero_le, Nat.le_refl, ne_eq, reduceIte, reduceCtorEq]
    · by_cases c1 : w = 1
      · simp (disch := omega) only [e_iconst, e_bipush, e_sipush, e_iload_n, e_iload, e_aload_n, e_aload, e_istore_n, e_istore, e_astore_n, e_astore, e_iinc, e_iadd, e_isub, e_imul, e_iand, e_ishr, e_idiv, e_i2c, e_dup_i, e_dup_r, e_dup2, e_pop, e_goto, e_nop, e_if_eq, e_if_ne, e_if_lt, e_if_ge, e_if_gt, e_if_le, e_icmp_eq, e_icmp_ne, e_icmp_lt, e_icmp_ge, e_icmp_gt, e_icmp_le, e_tsw, e_ret0, e_ret1, e_retn, e_getI, e_getZ, e_getR, e_getV, e_getC, e_putI, e_putZ, e_putF, e_gst0, e_gst1, e_sld, e_iald, e_cald, e_bald, e_iast, e_cast, e_aald, e_aast, e_alen, e_slen, e_blen, e_newa, e_newq, e_new, e_oinit, e_ctor, e_virt, e_stat, e_min, e_copy, e_ldc, List.cons_append, List.nil_append, List.append_nil, List.length_cons, List.length_nil, List.replicate_succ, List.replicate_zero, List.getElem?_cons_zero, List.getElem?_cons_succ, List.set_cons_zero, List.set_cons_succ, List.take_succ_cons, List.take_zero, List.drop_succ_cons, List.drop_zero, List.reverse_cons, List.reverse_nil, Option.toList_some, Option.toList_none, Nat.reduceSub, Nat.reduceAdd, Nat.reduceLeDiff, true_and, and_true, and_self, Option.some.injEq, exists_eq_left', Nat.zero_add, Value.int.injEq, Value.ref.injEq, List.cons.injEq, exists_and_left, and_assoc, exists_eq_left, N_16, C_16, B_16_0, bk_16_0, B_16_12, bk_16_12, B_16_15, bk_16_15, B_16_35, bk_16_35, B_16_49, bk_16_49, B_16_55, bk_16_55, h0, h1, h2, h3, r0, r1, r2, hn, n_ne0, n_lt, if_pos, if_neg, o_sub_l, n_sub, n_in, n_cl, e1, e2, c0, c1, o_eq, if_pos, if_neg, not_true_eq_false, not_false_eq_true, or_true, true_or, or_false, false_or, false_and, and_false, Nat.reduceEqDiff, Nat.reduceLT, Nat.reduceMul, Nat.not_lt_zero, Nat.zero_le, Nat.le_refl, ne_eq, reduceIte, reduceCtorEq]
      · simp (disch := omega) only [e_iconst, e_bipush, e_sipush, e_iload_n, e_iload, e_aload_n, e_aload, e_istore_n, e_istore, e_astore_n, e_astore, e_iinc, e_iadd, e_isub, e_imul, e_iand, e_ishr, e_idiv, e_i2c, e_dup_i, e_dup_r, e_dup2, e_pop, e_goto, e_nop, e_if_eq, e_if_ne, e_if_lt, e_if_ge, e_if_gt, e_if_le, e_icmp_eq, e_icmp_ne, e_icmp_lt, e_icmp_ge, e_icmp_gt, e_icmp_le, e_tsw, e_ret0, e_ret1, e_retn, e_getI, e_getZ, e_getR, e_getV, e_getC, e_putI, e_putZ, e_putF, e_gst0, e_gst1, e_sld, e_iald, e_cald, e_bald, e_iast, e_cast, e_aald, e_aast, e_alen, e_slen, e_blen, e_newa, e_newq, e_new, e_oinit, e_ctor, e_virt, e_stat, e_min, e_copy, e_ldc, List.cons_append, List.nil_append, List.append_nil, List.length_cons, List.length_nil, List.replicate_succ, List.replicate_zero, List.getElem?_cons_zero, List.getElem?_cons_succ, List.set_cons_zero, List.set_cons_succ, List.take_succ_cons, List.take_zero, List.drop_succ_cons, List.drop_zero, List.reverse_cons, List.reverse_nil, Option.toList_some, Option.toList_none, Nat.reduceSub, Nat.reduceAdd, Nat.reduceLeDiff, true_and, and_true, and_self, Option.some.injEq, exists_eq_left', Nat.zero_add, Value.int.injEq, Value.ref.injEq, List.cons.injEq, exists_and_left, and_assoc, exists_eq_left, N_16, C_16, B_16_0, bk_16_0, B_16_12, bk_16_12, B_16_15, bk_16_15, B_16_35, bk_16_35, B_16_49, bk_16_49, B_16_55, bk_16_55, h0, h1, h2, h3, r0, r1, r2, hn, n_ne0, n_lt, if_pos, if_neg, o_sub_l, n_sub, n_in, n_cl, e1, e2, c0, c1, if_pos, if_neg, not_true_eq_false, not_false_eq_true, or_true, true_or, or_false, false_or, false_and, and_false, Nat.reduceEqDiff, Nat.reduceLT, Nat.reduceMul, Nat.not_lt_zero, Nat.zero_le, Nat.le_refl, ne_eq, reduceIte, reduceCtorEq]
  · have q2 : nI n ≤ b := q.resolve_left (Int32.not_lt.mpr hb)
    have q3 : ¬ b < nI n := Int32.not_lt.mpr q2
    have q4 : ¬ b < 0 := Int32.not_lt.mpr hb
    simp (disch := omega) only [e_iconst, e_bipush, e_sipush, e_iload_n, e_iload, e_aload_n, e_aload, e_istore_n, e_istore, e_astore_n, e_astore, e_iinc, e_iadd, e_isub, e_imul, e_iand, e_ishr, e_idiv, e_i2c, e_dup_i, e_dup_r, e_dup2, e_pop, e_goto, e_nop, e_if_eq, e_if_ne, e_if_lt, e_if_ge, e_if_gt, e_if_le, e_icmp_eq, e_icmp_ne, e_icmp_lt, e_icmp_ge, e_icmp_gt, e_icmp_le, e_tsw, e_ret0, e_ret1, e_retn, e_getI, e_getZ, e_getR, e_getV, e_getC, e_putI, e_putZ, e_putF, e_gst0, e_gst1, e_sld, e_iald, e_cald, e_bald, e_iast, e_cast, e_aald, e_aast, e_alen, e_slen, e_blen, e_newa, e_newq, e_new, e_oinit, e_ctor, e_virt, e_stat, e_min, e_copy, e_ldc, List.cons_append, List.nil_append, List.append_nil, List.length_cons, List.length_nil, List.replicate_succ, List.replicate_zero, List.getElem?_cons_zero, List.getElem?_cons_succ, List.set_cons_zero, List.set_cons_succ, List.take_succ_cons, List.take_zero, List.drop_succ_cons, List.drop_zero, List.reverse_cons, List.reverse_nil, Option.toList_some, Option.toList_none, Nat.reduceSub, Nat.reduceAdd, Nat.reduceLeDiff, true_and, and_true, and_self, Option.some.injEq, exists_eq_left', Nat.zero_add, Value.int.injEq, Value.ref.injEq, List.cons.injEq, exists_and_left, and_assoc, exists_eq_left, N_16, C_16, B_16_0, bk_16_0, B_16_12, bk_16_12, B_16_15, bk_16_15, B_16_35, bk_16_35, B_16_49, bk_16_49, B_16_55, bk_16_55, h0, h1, h2, h3, r0, r1, r2, hn, q2, q3, q4, if_pos, if_neg, not_true_eq_false, not_false_eq_true, or_true, true_or, or_false, false_or, false_and, and_false, Nat.reduceEqDiff, Nat.reduceLT, Nat.reduceMul, Nat.not_lt_zero, Nat.zero_le, Nat.le_refl, ne_eq, reduceIte, reduceCtorEq]
end
section
/-! THE REFERENCE: its leaves. All spools are the row 195 -/
def zM (K : mK) (R : Nat → Nat → Option Nat) : Prop := K.2.2.1 194 = (1, 8) ∧ R 194 0 = some 195 ∧ K.2.2.1 195 = (2, 626) ∧ R 194 1 = some 196 ∧ K.2.2.1 196 = (2, 2504) ∧ R 194 3 = some 197 ∧ K.2.2.1 197 = (2, 626) ∧ R 194 5 = some 198 ∧ K.2.2.1 198 = (2, 626) ∧ R 194 6 = some 199 ∧ K.2.2.1 199 = (2, 30) ∧ R 194 8 = some 200 ∧ K.2.2.1 200 = (3, 50) ∧ R 194 14 = some 201 ∧ K.2.2.1 201 = (2, 30)
theorem r_in {x a b : Int32} {h : mH} {Q : Option Value → mH → Prop} : EvM 89 [.int x, .int a, .int b] h Q ↔ Q (some (.int (if x < a then 0 else if b < x then 0 else 1))) h := by
  simp only [e_iconst, e_bipush, e_sipush, e_iload_n, e_iload, e_aload_n, e_aload, e_istore_n, e_istore, e_astore_n, e_astore, e_iinc, e_iadd, e_isub, e_imul, e_iand, e_ishr, e_idiv, e_i2c, e_dup_i, e_dup_r, e_dup2, e_pop, e_goto, e_nop, e_if_eq, e_if_ne, e_if_lt, e_if_ge, e_if_gt, e_if_le, e_icmp_eq, e_icmp_ne, e_icmp_lt, e_icmp_ge, e_icmp_gt, e_icmp_le, e_tsw, e_ret0, e_ret1, e_retn, e_getI, e_getZ, e_getR, e_getV, e_getC, e_putI, e_putZ, e_putF, e_gst0, e_gst1, e_sld, e_iald, e_cald, e_bald, e_iast, e_cast, e_aald, e_aast, e_alen, e_slen, e_blen, e_newa, e_newq, e_new, e_oinit, e_ctor, e_virt, e_stat, e_min, e_copy, e_ldc, List.cons_append, List.nil_append, List.append_nil, List.length_cons, List.length_nil, List.replicate_succ, List.replicate_zero, List.getElem?_cons_zero, List.getElem?_cons_succ, List.set_cons_zero, List.set_cons_succ, List.take_succ_cons, List.take_zero, List.drop_succ_cons, List.drop_zero, List.reverse_cons, List.reverse_nil, Option.toList_some, Option.toList_none, Nat.reduceSub, Nat.reduceAdd, Nat.reduceLeDiff, true_and, and_true, and_self, Option.some.injEq, exists_eq_left', Nat.zero_add, Value.int.injEq, Value.ref.injEq, List.cons.injEq, exists_and_left, and_assoc, exists_eq_left, EvM, N_89, C_89, B_89_0, bk_89_0, B_89_14, bk_89_14, B_89_15, bk_89_15, if_pos, if_neg, not_true_eq_false, not_false_eq_true, or_true, true_or, or_false, false_or, false_and, and_false, Nat.reduceEqDiff, Nat.reduceLT, Nat.reduceMul, Nat.not_lt_zero, Nat.zero_le, Nat.le_refl, ne_eq, reduceIte, reduceCtorEq]
  (repeat' split) <;> simp_all
theorem r_noSpool {x : Int32} {h : mH} {Q : Option Value → mH → Prop} : EvM 90 [.int x] h Q ↔ Q (some (.int (if x < 0 then 1 else if 5 < x then 1 else 0))) h := by
  unfold EvM
  simp only [e_iconst, e_bipush, e_sipush, e_iload_n, e_iload, e_aload_n, e_aload, e_istore_n, e_istore, e_astore_n, e_astore, e_iinc, e_iadd, e_isub, e_imul, e_iand, e_ishr, e_idiv, e_i2c, e_dup_i, e_dup_r, e_dup2, e_pop, e_goto, e_nop, e_if_eq, e_if_ne, e_if_lt, e_if_ge, e_if_gt, e_if_le, e_icmp_eq, e_icmp_ne, e_icmp_lt, e_icmp_ge, e_icmp_gt, e_icmp_le, e_tsw, e_ret0, e_ret1, e_retn, e_getI, e_getZ, e_getR, e_getV, e_getC, e_putI, e_putZ, e_putF, e_gst0, e_gst1, e_sld, e_iald, e_cald, e_bald, e_iast, e_cast, e_aald, e_aast, e_alen, e_slen, e_blen, e_newa, e_newq, e_new, e_oinit, e_ctor, e_virt, e_stat, e_min, e_copy, e_ldc, List.cons_append, List.nil_append, List.append_nil, List.length_cons, List.length_nil, List.replicate_succ, List.replicate_zero, List.getElem?_cons_zero, List.getElem?_cons_succ, List.set_cons_zero, List.set_cons_succ, List.take_succ_cons, List.take_zero, List.drop_succ_cons, List.drop_zero, List.reverse_cons, List.reverse_nil, Option.toList_some, Option.toList_none, Nat.reduceSub, Nat.reduceAdd, Nat.reduceLeDiff, true_and, and_true, and_self, Option.some.injEq, exists_eq_left', Nat.zero_add, Value.int.injEq, Value.ref.injEq, List.cons.injEq, exists_and_left, and_assoc, exists_eq_left, N_90, C_90, B_90_0, bk_90_0, B_90_13, bk_90_13, B_90_14, bk_90_14, r_in, if_pos, if_neg, not_true_eq_false, not_false_eq_true, or_true, true_or, or_false, false_or, false_and, and_false, Nat.reduceEqDiff, Nat.reduceLT, Nat.reduceMul, Nat.not_lt_zero, Nat.zero_le, Nat.le_refl, ne_eq, reduceIte, reduceCtorEq]
  by_cases c1 : x < 0
  · simp [c1]
  · by_cases c2 : 5 < x
    · simp [c1, c2]
    · simp [c1, c2]
theorem r_of {K : mK} {R : Nat → Nat → Option Nat} {I : Nat → Nat → Int32} {x y : Int32} {n : Nat} {Q : Option Value → mH → Prop} (h : zM K R) (hn : 98 * x + y = nI n) (hn2 : n < 626) : EvM 91 [.ref 194, .int x, .int y] (K, R, I) Q ↔ Q (some (.int (I 195 n))) (K, R, I) := by
  obtain ⟨h0, h1, h2, -⟩ := id h
  unfold EvM
  simp (disch := omega) only [e_iconst, e_bipush, e_sipush, e_iload_n, e_iload, e_aload_n, e_aload, e_istore_n, e_istore, e_astore_n, e_astore, e_iinc, e_iadd, e_isub, e_imul, e_iand, e_ishr, e_idiv, e_i2c, e_dup_i, e_dup_r, e_dup2, e_pop, e_goto, e_nop, e_if_eq, e_if_ne, e_if_lt, e_if_ge, e_if_gt, e_if_le, e_icmp_eq, e_icmp_ne, e_icmp_lt, e_icmp_ge, e_icmp_gt, e_icmp_le, e_tsw, e_ret0, e_ret1, e_retn, e_getI, e_getZ, e_getR, e_getV, e_getC, e_putI, e_putZ, e_putF, e_gst0, e_gst1, e_sld, e_iald, e_cald, e_bald, e_iast, e_cast, e_aald, e_aast, e_alen, e_slen, e_blen, e_newa, e_newq, e_new, e_oinit, e_ctor, e_virt, e_stat, e_min, e_copy, e_ldc, List.cons_append, List.nil_append, List.append_nil, List.length_cons, List.length_nil, List.replicate_succ, List.replicate_zero, List.getElem?_cons_zero, List.getElem?_cons_succ, List.set_cons_zero, List.set_cons_succ, List.take_succ_cons, List.take_zero, List.drop_succ_cons, List.drop_zero, List.reverse_cons, List.reverse_nil, Option.toList_some, Option.toList_none, Nat.reduceSub, Nat.reduceAdd, Nat.reduceLeDiff, true_and, and_true, and_self, Option.some.injEq, exists_eq_left', Nat.zero_add, Value.int.injEq, Value.ref.injEq, List.cons.injEq, exists_and_left, and_assoc, exists_eq_left, N_91, C_91, B_91_0, bk_91_0, h0, h1, h2, hn, n_in, n_cl, if_pos, if_neg, not_true_eq_false, not_false_eq_true, or_true, true_or, or_false, false_or, false_and, and_false, Nat.reduceEqDiff, Nat.reduceLT, Nat.reduceMul, Nat.not_lt_zero, Nat.zero_le, Nat.le_refl, ne_eq, reduceIte, reduceCtorEq]
theorem r_puts {K : mK} {R : Nat → Nat → Option Nat} {I : Nat → Nat → Int32} {x y v : Int32} {n : Nat} {Q : Option Value → mH → Prop} (h : zM K R) (hn : 98 * x + y = nI n) (hn2 : n < 626) : EvM 92 [.ref 194, .int x, .int y, .int v] (K, R, I) Q ↔ Q none (K, R, mSet I 195 n v) := by
  obtain ⟨h0, h1, h2, -⟩ := id h
  unfold EvM
  simp (disch := omega) only [e_iconst, e_bipush, e_sipush, e_iload_n, e_iload, e_aload_n, e_aload, e_istore_n, e_istore, e_astore_n, e_astore, e_iinc, e_iadd, e_isub, e_imul, e_iand, e_ishr, e_idiv, e_i2c, e_dup_i, e_dup_r, e_dup2, e_pop, e_goto, e_nop, e_if_eq, e_if_ne, e_if_lt, e_if_ge, e_if_gt, e_if_le, e_icmp_eq, e_icmp_ne, e_icmp_lt, e_icmp_ge, e_icmp_gt, e_icmp_le, e_tsw, e_ret0, e_ret1, e_retn, e_getI, e_getZ, e_getR, e_getV, e_getC, e_putI, e_putZ, e_putF, e_gst0, e_gst1, e_sld, e_iald, e_cald, e_bald, e_iast, e_cast, e_aald, e_aast, e_alen, e_slen, e_blen, e_newa, e_newq, e_new, e_oinit, e_ctor, e_virt, e_stat, e_min, e_copy, e_ldc, List.cons_append, List.nil_append, List.append_nil, List.length_cons, List.length_nil, List.replicate_succ, List.replicate_zero, List.getElem?_cons_zero, List.getElem?_cons_succ, List.set_cons_zero, List.set_cons_succ, List.take_succ_cons, List.take_zero, List.drop_succ_cons, List.drop_zero, List.reverse_cons, List.reverse_nil, Option.toList_some, Option.toList_none, Nat.reduceSub, Nat.reduceAdd, Nat.reduceLeDiff, true_and, and_true, and_self, Option.some.injEq, exists_eq_left', Nat.zero_add, Value.int.injEq, Value.ref.injEq, List.cons.injEq, exists_and_left, and_assoc, exists_eq_left, N_92, C_92, B_92_0, bk_92_0, h0, h1, h2, hn, n_in, n_cl, if_pos, if_neg, not_true_eq_false, not_false_eq_true, or_true, true_or, or_false, false_or, false_and, and_false, Nat.reduceEqDiff, Nat.reduceLT, Nat.reduceMul, Nat.not_lt_zero, Nat.zero_le, Nat.le_refl, ne_eq, reduceIte, reduceCtorEq]
theorem a98 (s w : Nat) : 98 * nI s + nI w = nI (98 * s + w) := by rw [o_mul_r, n_add]
/-- of and puts with the place as a written number, or a sum -/
theorem r_ofL {K : mK} {R : Nat → Nat → Option Nat} {I : Nat → Nat → Int32} {s w : Nat} {Q : Option Value → mH → Prop} (h : zM K R) (hs : s < 6) (hw : OfNat.ofNat w < 98) : EvM 91 [.ref 194, .int (nI s), .int (no_index (OfNat.ofNat w) : Int32)] (K, R, I) Q ↔ Q (some (.int (I 195 (98 * s + OfNat.ofNat w)))) (K, R, I) := r_of h (a98 s _) (by omega)
theorem r_ofN {K : mK} {R : Nat → Nat → Option Nat} {I : Nat → Nat → Int32} {s w : Nat} {Q : Option Value → mH → Prop} (h : zM K R) (hs : s < 6) (hw : w < 98) : EvM 91 [.ref 194, .int (nI s), .int (nI w)] (K, R, I) Q ↔ Q (some (.int (I 195 (98 * s + w)))) (K, R, I) := r_of h (a98 s w) (by omega)
theorem r_putsL {K : mK} {R : Nat → Nat → Option Nat} {I : Nat → Nat → Int32} {s w : Nat} {v : Int32} {Q : Option Value → mH → Prop} (h : zM K R) (hs : s < 6) (hw : OfNat.ofNat w < 98) : EvM 92 [.ref 194, .int (nI s), .int (no_index (OfNat.ofNat w) : Int32), .int v] (K, R, I) Q ↔ Q none (K, R, mSet I 195 (98 * s + OfNat.ofNat w) v) := r_puts h (a98 s _) (by omega)
theorem r_putsN {K : mK} {R : Nat → Nat → Option Nat} {I : Nat → Nat → Int32} {s w : Nat} {v : Int32} {Q : Option Value → mH → Prop} (h : zM K R) (hs : s < 6) (hw : w < 98) : EvM 92 [.ref 194, .int (nI s), .int (nI w), .int v] (K, R, I) Q ↔ Q none (K, R, mSet I 195 (98 * s + w) v) := r_puts h (a98 s w) (by omega)
theorem r_isEmpty {K : mK} {R : Nat → Nat → Option Nat} {I : Nat → Nat → Int32} {s : Nat} {Q : Option Value → mH → Prop} (h : zM K R) (hs : s < 6) : EvM 93 [.ref 194, .int (nI s)] (K, R, I) Q ↔ Q (some (.int (if I 195 (98 * s) = 0 then 1 else 0))) (K, R, I) := by
  have h0 := h.1
  unfold EvM
  simp (disch := omega) only [e_iconst, e_bipush, e_sipush, e_iload_n, e_iload, e_aload_n, e_aload, e_istore_n, e_istore, e_astore_n, e_astore, e_iinc, e_iadd, e_isub, e_imul, e_iand, e_ishr, e_idiv, e_i2c, e_dup_i, e_dup_r, e_dup2, e_pop, e_goto, e_nop, e_if_eq, e_if_ne, e_if_lt, e_if_ge, e_if_gt, e_if_le, e_icmp_eq, e_icmp_ne, e_icmp_lt, e_icmp_ge, e_icmp_gt, e_icmp_le, e_tsw, e_ret0, e_ret1, e_retn, e_getI, e_getZ, e_getR, e_getV, e_getC, e_putI, e_putZ, e_putF, e_gst0, e_gst1, e_sld, e_iald, e_cald, e_bald, e_iast, e_cast, e_aald, e_aast, e_alen, e_slen, e_blen, e_newa, e_newq, e_new, e_oinit, e_ctor, e_virt, e_stat, e_min, e_copy, e_ldc, List.cons_append, List.nil_append, List.append_nil, List.length_cons, List.length_nil, List.replicate_succ, List.replicate_zero, List.getElem?_cons_zero, List.getElem?_cons_succ, List.set_cons_zero, List.set_cons_succ, List.take_succ_cons, List.take_zero, List.drop_succ_cons, List.drop_zero, List.reverse_cons, List.reverse_nil, Option.toList_some, Option.toList_none, Nat.reduceSub, Nat.reduceAdd, Nat.reduceLeDiff, true_and, and_true, and_self, Option.some.injEq, exists_eq_left', Nat.zero_add, Value.int.injEq, Value.ref.injEq, List.cons.injEq, exists_and_left, and_assoc, exists_eq_left, N_93, C_93, B_93_0, bk_93_0, B_93_13, bk_93_13, B_93_14, bk_93_14, h0, C_91, r_ofL h hs, Nat.add_zero, if_pos, if_neg, not_true_eq_false, not_false_eq_true, or_true, true_or, or_false, false_or, false_and, and_false, Nat.reduceEqDiff, Nat.reduceLT, Nat.reduceMul, Nat.not_lt_zero, Nat.zero_le, Nat.le_refl, ne_eq, reduceIte, reduceCtorEq]
  split <;> simp_all
/-- a wire's flags in the row v -/
def vF (v : Nat → Int32) (s p cl c : Nat) : Prop := v (98 * s) = nI p ∧ v (98 * s + 1) = nI cl ∧ v (98 * s + 2) = nI c ∧ p ≤ 1 ∧ cl ≤ 1 ∧ c ≤ 30
theorem r_gaps {K : mK} {R : Nat → Nat → Option Nat} {I : Nat → Nat → Int32} {s p cl c : Nat} {Q : Option Value → mH → Prop} (h : zM K R) (hs : s < 6) (hf : vF (I 195) s p cl c) : EvM 94 [.ref 194, .int (nI s)] (K, R, I) Q ↔ Q (some (.int (nI (c + 1 + cl)))) (K, R, I) := by
  have h0 := h.1
  obtain ⟨f1, f2, f3, f4, f5, f6⟩ := hf
  unfold EvM
  simp (disch := omega) only [e_iconst, e_bipush, e_sipush, e_iload_n, e_iload, e_aload_n, e_aload, e_istore_n, e_istore, e_astore_n, e_astore, e_iinc, e_iadd, e_isub, e_imul, e_iand, e_ishr, e_idiv, e_i2c, e_dup_i, e_dup_r, e_dup2, e_pop, e_goto, e_nop, e_if_eq, e_if_ne, e_if_lt, e_if_ge, e_if_gt, e_if_le, e_icmp_eq, e_icmp_ne, e_icmp_lt, e_icmp_ge, e_icmp_gt, e_icmp_le, e_tsw, e_ret0, e_ret1, e_retn, e_getI, e_getZ, e_getR, e_getV, e_getC, e_putI, e_putZ, e_putF, e_gst0, e_gst1, e_sld, e_iald, e_cald, e_bald, e_iast, e_cast, e_aald, e_aast, e_alen, e_slen, e_blen, e_newa, e_newq, e_new, e_oinit, e_ctor, e_virt, e_stat, e_min, e_copy, e_ldc, List.cons_append, List.nil_append, List.append_nil, List.length_cons, List.length_nil, List.replicate_succ, List.replicate_zero, List.getElem?_cons_zero, List.getElem?_cons_succ, List.set_cons_zero, List.set_cons_succ, List.take_succ_cons, List.take_zero, List.drop_succ_cons, List.drop_zero, List.reverse_cons, List.reverse_nil, Option.toList_some, Option.toList_none, Nat.reduceSub, Nat.reduceAdd, Nat.reduceLeDiff, true_and, and_true, and_self, Option.some.injEq, exists_eq_left', Nat.zero_add, Value.int.injEq, Value.ref.injEq, List.cons.injEq, exists_and_left, and_assoc, exists_eq_left, N_94, C_94, B_94_0, bk_94_0, h0, C_91, r_ofL h hs, f2, f3, o_add_l, n_add, if_pos, if_neg, not_true_eq_false, not_false_eq_true, or_true, true_or, or_false, false_or, false_and, and_false, Nat.reduceEqDiff, Nat.reduceLT, Nat.reduceMul, Nat.not_lt_zero, Nat.zero_le, Nat.le_refl, ne_eq, reduceIte, reduceCtorEq]
/-- the row's cells behind one more event -/
def vTl (v : Nat → Int32) (n : Nat) (kd sp nu : Int32) : Nat → Int32 := fun x =>
  if n = 10 then (if 596 ≤ x ∧ x < 623 then v (x + 3) else if x = 623 then kd else if x = 624 then sp else if x = 625 then nu else v x)
  else if x = 596 + 3 * n then kd else if x = 597 + 3 * n then sp else if x = 598 + 3 * n then nu else if x = 595 then nI (n + 1) else v x
def rSet (I : Nat → Nat → Int32) (a : Nat) (v : Nat → Int32) : Nat → Nat → Int32 := fun x j => if x = a then v j else I x j
theorem rSet_s {I : Nat → Nat → Int32} {a : Nat} {v : Nat → Int32} : rSet I a v a = v := by funext j; simp [rSet]
theorem rSet_o {I : Nat → Nat → Int32} {a x : Nat} {v : Nat → Int32} (h : x ≠ a) : rSet I a v x = I x := by funext j; simp [rSet, h]
def vU (v : Nat → Int32) (k : Nat) (x : Int32) : Nat → Int32 := fun j => if j = k then x else v j
theorem u_ne {v : Nat → Int32} {k j : Nat} {x : Int32} (h : j ≠ k) : vU v k x j = v j := if_neg h
theorem u_eq {v : Nat → Int32} {k : Nat} {x : Int32} : vU v k x k = x := if_pos rfl
theorem rs_m {I : Nat → Nat → Int32} {a k : Nat} {v : Nat → Int32} {x : Int32} : mSet (rSet I a v) a k x = rSet I a (vU v k x) := by
  funext b j
  simp only [mSet, rSet, vU]
  by_cases c : b = a <;> simp [c]
theorem m_rs {I : Nat → Nat → Int32} {a k : Nat} {x : Int32} : mSet I a k x = rSet I a (vU (I a) k x) := by
  funext b j
  simp only [mSet, rSet, vU]
  by_cases c : b = a <;> simp [c]
theorem rs_rs {I : Nat → Nat → Int32} {a : Nat} {v w : Nat → Int32} : rSet (rSet I a v) a w = rSet I a w := by
  funext b j
  simp only [rSet]
  split <;> rfl
theorem rs_id {I : Nat → Nat → Int32} {a : Nat} : rSet I a (I a) = I := by
  funext b j
  simp only [rSet]
  split
  · rename_i c; rw [c]
  · rfl
set_option maxHeartbeats 4000000 in
theorem r_tells {K : mK} {R : Nat → Nat → Option Nat} {I : Nat → Nat → Int32} {n : Nat} {kd sp nu : Int32} {Q : Option Value → mH → Prop} (h : zM K R) (hn : I 195 595 = nI n) (hn2 : n ≤ 10) : EvM 96 [.ref 194, .int kd, .int sp, .int nu] (K, R, I) Q ↔ Q none (K, R, rSet I 195 (vTl (I 195) n kd sp nu)) := by
  obtain ⟨h0, h1, h2, -⟩ := id h
  refine EvM_iff ?_
  unfold EvM
  by_cases e : n = 10
  · subst e
    rw [B_96_0]
    simp (disch := omega) only [e_iconst, e_bipush, e_sipush, e_iload_n, e_iload, e_aload_n, e_aload, e_istore_n, e_istore, e_astore_n, e_astore, e_iinc, e_iadd, e_isub, e_imul, e_iand, e_ishr, e_idiv, e_i2c, e_dup_i, e_dup_r, e_dup2, e_pop, e_goto, e_nop, e_if_eq, e_if_ne, e_if_lt, e_if_ge, e_if_gt, e_if_le, e_icmp_eq, e_icmp_ne, e_icmp_lt, e_icmp_ge, e_icmp_gt, e_icmp_le, e_tsw, e_ret0, e_ret1, e_retn, e_getI, e_getZ, e_getR, e_getV, e_getC, e_putI, e_putZ, e_putF, e_gst0, e_gst1, e_sld, e_iald, e_cald, e_bald, e_iast, e_cast, e_aald, e_aast, e_alen, e_slen, e_blen, e_newa, e_newq, e_new, e_oinit, e_ctor, e_virt, e_stat, e_min, e_copy, e_ldc, List.cons_append, List.nil_append, List.append_nil, List.length_cons, List.length_nil, List.replicate_succ, List.replicate_zero, List.getElem?_cons_zero, List.getElem?_cons_succ, List.set_cons_zero, List.set_cons_succ, List.take_succ_cons, List.take_zero, List.drop_succ_cons, List.drop_zero, List.reverse_cons, List.reverse_nil, Option.toList_some, Option.toList_none, Nat.reduceSub, Nat.reduceAdd, Nat.reduceLeDiff, true_and, and_true, and_self, Option.some.injEq, exists_eq_left', Nat.zero_add, Value.int.injEq, Value.ref.injEq, List.cons.injEq, exists_and_left, and_assoc, exists_eq_left, N_96, bk_96_0, h0, h1, h2, hn, o_cl, o_in, o_eq_l, if_pos, if_neg, not_true_eq_false, not_false_eq_true, or_true, true_or, or_false, false_or, false_and, and_false, Nat.reduceEqDiff, Nat.reduceLT, Nat.reduceMul, Nat.not_lt_zero, Nat.zero_le, Nat.le_refl, ne_eq, reduceIte, reduceCtorEq]
    have key := loop_dn (n := 27) (P := fun k => Ev 96 (mB 96 16) [.ref 194, .int kd, .int sp, .int nu, .int (nI k)] [] (K, R, rSet I 195 (fun x => if 596 ≤ x ∧ x < 596 + k then I 195 (x + 3) else I 195 x)) (fun v k => v = none ∧ k = (K, R, rSet I 195 (vTl (I 195) 10 kd sp nu)))) ?_ ?_
    · refine Ev_cg ?_ rfl key
      funext x j
      simp only [rSet]
      by_cases c : x = 195
      · rw [if_pos c, if_neg (by omega), c]
      · rw [if_neg c]
    · intro k hk hnext
      rw [B_96_16]
      simp (disch := omega) only [e_iconst, e_bipush, e_sipush, e_iload_n, e_iload, e_aload_n, e_aload, e_istore_n, e_istore, e_astore_n, e_astore, e_iinc, e_iadd, e_isub, e_imul, e_iand, e_ishr, e_idiv, e_i2c, e_dup_i, e_dup_r, e_dup2, e_pop, e_goto, e_nop, e_if_eq, e_if_ne, e_if_lt, e_if_ge, e_if_gt, e_if_le, e_icmp_eq, e_icmp_ne, e_icmp_lt, e_icmp_ge, e_icmp_gt, e_icmp_le, e_tsw, e_ret0, e_ret1, e_retn, e_getI, e_getZ, e_getR, e_getV, e_getC, e_putI, e_putZ, e_putF, e_gst0, e_gst1, e_sld, e_iald, e_cald, e_bald, e_iast, e_cast, e_aald, e_aast, e_alen, e_slen, e_blen, e_newa, e_newq, e_new, e_oinit, e_ctor, e_virt, e_stat, e_min, e_copy, e_ldc, List.cons_append, List.nil_append, List.append_nil, List.length_cons, List.length_nil, List.replicate_succ, List.replicate_zero, List.getElem?_cons_zero, List.getElem?_cons_succ, List.set_cons_zero, List.set_cons_succ, List.take_succ_cons, List.take_zero, List.drop_succ_cons, List.drop_zero, List.reverse_cons, List.reverse_nil, Option.toList_some, Option.toList_none, Nat.reduceSub, Nat.reduceAdd, Nat.reduceLeDiff, true_and, and_true, and_self, Option.some.injEq, exists_eq_left', Nat.zero_add, Value.int.injEq, Value.ref.injEq, List.cons.injEq, exists_and_left, and_assoc, exists_eq_left, bk_96_16, h0, h1, h2, o_le_r, if_neg, n_in, n_cl, o_add_l, o_add_r, rSet_s, rs_m, if_pos, if_neg, not_true_eq_false, not_false_eq_true, or_true, true_or, or_false, false_or, false_and, and_false, Nat.reduceEqDiff, Nat.reduceLT, Nat.reduceMul, Nat.not_lt_zero, Nat.zero_le, Nat.le_refl, ne_eq, reduceIte, reduceCtorEq]
      refine Ev_cg ?_ rfl hnext
      congr 1
      funext x
      simp only [vU]
      by_cases c : x = 596 + k
      · subst c
        rw [if_pos rfl, if_pos (by omega), show 596 + k + 3 = 596 + k + 3 from rfl]
      · rw [if_neg c]
        by_cases c2 : 596 ≤ x ∧ x < 596 + k
        · rw [if_pos c2, if_pos (by omega)]
        · rw [if_neg c2, if_neg (by omega)]
    · rw [B_96_16]
      simp (disch := omega) only [e_iconst, e_bipush, e_sipush, e_iload_n, e_iload, e_aload_n, e_aload, e_istore_n, e_istore, e_astore_n, e_astore, e_iinc, e_iadd, e_isub, e_imul, e_iand, e_ishr, e_idiv, e_i2c, e_dup_i, e_dup_r, e_dup2, e_pop, e_goto, e_nop, e_if_eq, e_if_ne, e_if_lt, e_if_ge, e_if_gt, e_if_le, e_icmp_eq, e_icmp_ne, e_icmp_lt, e_icmp_ge, e_icmp_gt, e_icmp_le, e_tsw, e_ret0, e_ret1, e_retn, e_getI, e_getZ, e_getR, e_getV, e_getC, e_putI, e_putZ, e_putF, e_gst0, e_gst1, e_sld, e_iald, e_cald, e_bald, e_iast, e_cast, e_aald, e_aast, e_alen, e_slen, e_blen, e_newa, e_newq, e_new, e_oinit, e_ctor, e_virt, e_stat, e_min, e_copy, e_ldc, List.cons_append, List.nil_append, List.append_nil, List.length_cons, List.length_nil, List.replicate_succ, List.replicate_zero, List.getElem?_cons_zero, List.getElem?_cons_succ, List.set_cons_zero, List.set_cons_succ, List.take_succ_cons, List.take_zero, List.drop_succ_cons, List.drop_zero, List.reverse_cons, List.reverse_nil, Option.toList_some, Option.toList_none, Nat.reduceSub, Nat.reduceAdd, Nat.reduceLeDiff, true_and, and_true, and_self, Option.some.injEq, exists_eq_left', Nat.zero_add, Value.int.injEq, Value.ref.injEq, List.cons.injEq, exists_and_left, and_assoc, exists_eq_left, bk_96_16, o_le_r, if_pos, Nat.le_refl, if_pos, if_neg, not_true_eq_false, not_false_eq_true, or_true, true_or, or_false, false_or, false_and, and_false, Nat.reduceEqDiff, Nat.reduceLT, Nat.reduceMul, Nat.not_lt_zero, Nat.zero_le, Nat.le_refl, ne_eq, reduceIte, reduceCtorEq]
      rw [B_96_53]
      simp (disch := omega) only [e_iconst, e_bipush, e_sipush, e_iload_n, e_iload, e_aload_n, e_aload, e_istore_n, e_istore, e_astore_n, e_astore, e_iinc, e_iadd, e_isub, e_imul, e_iand, e_ishr, e_idiv, e_i2c, e_dup_i, e_dup_r, e_dup2, e_pop, e_goto, e_nop, e_if_eq, e_if_ne, e_if_lt, e_if_ge, e_if_gt, e_if_le, e_icmp_eq, e_icmp_ne, e_icmp_lt, e_icmp_ge, e_icmp_gt, e_icmp_le, e_tsw, e_ret0, e_ret1, e_retn, e_getI, e_getZ, e_getR, e_getV, e_getC, e_putI, e_putZ, e_putF, e_gst0, e_gst1, e_sld, e_iald, e_cald, e_bald, e_iast, e_cast, e_aald, e_aast, e_alen, e_slen, e_blen, e_newa, e_newq, e_new, e_oinit, e_ctor, e_virt, e_stat, e_min, e_copy, e_ldc, List.cons_append, List.nil_append, List.append_nil, List.length_cons, List.length_nil, List.replicate_succ, List.replicate_zero, List.getElem?_cons_zero, List.getElem?_cons_succ, List.set_cons_zero, List.set_cons_succ, List.take_succ_cons, List.take_zero, List.drop_succ_cons, List.drop_zero, List.reverse_cons, List.reverse_nil, Option.toList_some, Option.toList_none, Nat.reduceSub, Nat.reduceAdd, Nat.reduceLeDiff, true_and, and_true, and_self, Option.some.injEq, exists_eq_left', Nat.zero_add, Value.int.injEq, Value.ref.injEq, List.cons.injEq, exists_and_left, and_assoc, exists_eq_left, bk_96_53, h0, h1, h2, o_in, o_cl, rSet_s, if_neg, hn, rs_m, o_sub_l, if_pos, if_neg, not_true_eq_false, not_false_eq_true, or_true, true_or, or_false, false_or, false_and, and_false, Nat.reduceEqDiff, Nat.reduceLT, Nat.reduceMul, Nat.not_lt_zero, Nat.zero_le, Nat.le_refl, ne_eq, reduceIte, reduceCtorEq]
      rw [B_96_65]
      simp (disch := omega) only [e_iconst, e_bipush, e_sipush, e_iload_n, e_iload, e_aload_n, e_aload, e_istore_n, e_istore, e_astore_n, e_astore, e_iinc, e_iadd, e_isub, e_imul, e_iand, e_ishr, e_idiv, e_i2c, e_dup_i, e_dup_r, e_dup2, e_pop, e_goto, e_nop, e_if_eq, e_if_ne, e_if_lt, e_if_ge, e_if_gt, e_if_le, e_icmp_eq, e_icmp_ne, e_icmp_lt, e_icmp_ge, e_icmp_gt, e_icmp_le, e_tsw, e_ret0, e_ret1, e_retn, e_getI, e_getZ, e_getR, e_getV, e_getC, e_putI, e_putZ, e_putF, e_gst0, e_gst1, e_sld, e_iald, e_cald, e_bald, e_iast, e_cast, e_aald, e_aast, e_alen, e_slen, e_blen, e_newa, e_newq, e_new, e_oinit, e_ctor, e_virt, e_stat, e_min, e_copy, e_ldc, List.cons_append, List.nil_append, List.append_nil, List.length_cons, List.length_nil, List.replicate_succ, List.replicate_zero, List.getElem?_cons_zero, List.getElem?_cons_succ, List.set_cons_zero, List.set_cons_succ, List.take_succ_cons, List.take_zero, List.drop_succ_cons, List.drop_zero, List.reverse_cons, List.reverse_nil, Option.toList_some, Option.toList_none, Nat.reduceSub, Nat.reduceAdd, Nat.reduceLeDiff, true_and, and_true, and_self, Option.some.injEq, exists_eq_left', Nat.zero_add, Value.int.injEq, Value.ref.injEq, List.cons.injEq, exists_and_left, and_assoc, exists_eq_left, bk_96_65, h0, h1, h2, o_in, o_cl, n_in, n_cl, rSet_s, rs_m, u_eq, u_ne, o_mul_l, o_mul_r, o_add_l, o_add_r, if_pos, if_neg, not_true_eq_false, not_false_eq_true, or_true, true_or, or_false, false_or, false_and, and_false, Nat.reduceEqDiff, Nat.reduceLT, Nat.reduceMul, Nat.not_lt_zero, Nat.zero_le, Nat.le_refl, ne_eq, reduceIte, reduceCtorEq]
      congr 3
      funext x
      simp only [vU, vTl, if_true]
      (repeat' split) <;> first | rfl | (exfalso; omega) | (subst_vars; first | rfl | exact hn.symm | (simp_all; done))
  · rw [B_96_0]
    simp (disch := omega) only [e_iconst, e_bipush, e_sipush, e_iload_n, e_iload, e_aload_n, e_aload, e_istore_n, e_istore, e_astore_n, e_astore, e_iinc, e_iadd, e_isub, e_imul, e_iand, e_ishr, e_idiv, e_i2c, e_dup_i, e_dup_r, e_dup2, e_pop, e_goto, e_nop, e_if_eq, e_if_ne, e_if_lt, e_if_ge, e_if_gt, e_if_le, e_icmp_eq, e_icmp_ne, e_icmp_lt, e_icmp_ge, e_icmp_gt, e_icmp_le, e_tsw, e_ret0, e_ret1, e_retn, e_getI, e_getZ, e_getR, e_getV, e_getC, e_putI, e_putZ, e_putF, e_gst0, e_gst1, e_sld, e_iald, e_cald, e_bald, e_iast, e_cast, e_aald, e_aast, e_alen, e_slen, e_blen, e_newa, e_newq, e_new, e_oinit, e_ctor, e_virt, e_stat, e_min, e_copy, e_ldc, List.cons_append, List.nil_append, List.append_nil, List.length_cons, List.length_nil, List.replicate_succ, List.replicate_zero, List.getElem?_cons_zero, List.getElem?_cons_succ, List.set_cons_zero, List.set_cons_succ, List.take_succ_cons, List.take_zero, List.drop_succ_cons, List.drop_zero, List.reverse_cons, List.reverse_nil, Option.toList_some, Option.toList_none, Nat.reduceSub, Nat.reduceAdd, Nat.reduceLeDiff, true_and, and_true, and_self, Option.some.injEq, exists_eq_left', Nat.zero_add, Value.int.injEq, Value.ref.injEq, List.cons.injEq, exists_and_left, and_assoc, exists_eq_left, N_96, bk_96_0, h0, h1, h2, hn, o_cl, o_in, o_eq_l, if_pos, if_pos, if_neg, not_true_eq_false, not_false_eq_true, or_true, true_or, or_false, false_or, false_and, and_false, Nat.reduceEqDiff, Nat.reduceLT, Nat.reduceMul, Nat.not_lt_zero, Nat.zero_le, Nat.le_refl, ne_eq, reduceIte, reduceCtorEq, e]
    rw [B_96_65]
    simp (disch := omega) only [e_iconst, e_bipush, e_sipush, e_iload_n, e_iload, e_aload_n, e_aload, e_istore_n, e_istore, e_astore_n, e_astore, e_iinc, e_iadd, e_isub, e_imul, e_iand, e_ishr, e_idiv, e_i2c, e_dup_i, e_dup_r, e_dup2, e_pop, e_goto, e_nop, e_if_eq, e_if_ne, e_if_lt, e_if_ge, e_if_gt, e_if_le, e_icmp_eq, e_icmp_ne, e_icmp_lt, e_icmp_ge, e_icmp_gt, e_icmp_le, e_tsw, e_ret0, e_ret1, e_retn, e_getI, e_getZ, e_getR, e_getV, e_getC, e_putI, e_putZ, e_putF, e_gst0, e_gst1, e_sld, e_iald, e_cald, e_bald, e_iast, e_cast, e_aald, e_aast, e_alen, e_slen, e_blen, e_newa, e_newq, e_new, e_oinit, e_ctor, e_virt, e_stat, e_min, e_copy, e_ldc, List.cons_append, List.nil_append, List.append_nil, List.length_cons, List.length_nil, List.replicate_succ, List.replicate_zero, List.getElem?_cons_zero, List.getElem?_cons_succ, List.set_cons_zero, List.set_cons_succ, List.take_succ_cons, List.take_zero, List.drop_succ_cons, List.drop_zero, List.reverse_cons, List.reverse_nil, Option.toList_some, Option.toList_none, Nat.reduceSub, Nat.reduceAdd, Nat.reduceLeDiff, true_and, and_true, and_self, Option.some.injEq, exists_eq_left', Nat.zero_add, Value.int.injEq, Value.ref.injEq, List.cons.injEq, exists_and_left, and_assoc, exists_eq_left, bk_96_65, h0, h1, h2, hn, o_in, o_cl, n_in, n_cl, m_rs, rs_rs, rSet_s, rs_m, u_eq, u_ne, o_mul_l, o_mul_r, o_add_l, o_add_r, if_pos, if_neg, not_true_eq_false, not_false_eq_true, or_true, true_or, or_false, false_or, false_and, and_false, Nat.reduceEqDiff, Nat.reduceLT, Nat.reduceMul, Nat.not_lt_zero, Nat.zero_le, Nat.le_refl, ne_eq, reduceIte, reduceCtorEq]
    congr 3
    funext x
    simp only [vU, vTl, if_neg e]
    (repeat' split) <;> first | rfl | (exfalso; omega) | (subst_vars; first | rfl | (simp_all; done))
theorem r_stretch {K : mK} {R : Nat → Nat → Option Nat} {I : Nat → Nat → Int32} {s p cl c g ru : Nat} {pu : Int32} {Q : Option Value → mH → Prop} (h : zM K R) (hs : s < 6) (hf : vF (I 195) s p cl c) (hru : I 195 588 = nI ru) (hru2 : ru ≤ 2) : EvM 101 [.ref 194, .int (nI s), .int (nI g), .int pu] (K, R, I) Q ↔ Q (some (.int (vStr (I 195 588) pu (nI g) (nI (c + 1 + cl))))) (K, R, I) := by
  obtain ⟨h0, h1, h2, -⟩ := id h
  refine EvM_iff ?_
  unfold EvM
  rcases (show ru = 0 ∨ ru = 1 ∨ ru = 2 by omega) with rfl | rfl | rfl
  · simp (disch := omega) only [e_iconst, e_bipush, e_sipush, e_iload_n, e_iload, e_aload_n, e_aload, e_istore_n, e_istore, e_astore_n, e_astore, e_iinc, e_iadd, e_isub, e_imul, e_iand, e_ishr, e_idiv, e_i2c, e_dup_i, e_dup_r, e_dup2, e_pop, e_goto, e_nop, e_if_eq, e_if_ne, e_if_lt, e_if_ge, e_if_gt, e_if_le, e_icmp_eq, e_icmp_ne, e_icmp_lt, e_icmp_ge, e_icmp_gt, e_icmp_le, e_tsw, e_ret0, e_ret1, e_retn, e_getI, e_getZ, e_getR, e_getV, e_getC, e_putI, e_putZ, e_putF, e_gst0, e_gst1, e_sld, e_iald, e_cald, e_bald, e_iast, e_cast, e_aald, e_aast, e_alen, e_slen, e_blen, e_newa, e_newq, e_new, e_oinit, e_ctor, e_virt, e_stat, e_min, e_copy, e_ldc, List.cons_append, List.nil_append, List.append_nil, List.length_cons, List.length_nil, List.replicate_succ, List.replicate_zero, List.getElem?_cons_zero, List.getElem?_cons_succ, List.set_cons_zero, List.set_cons_succ, List.take_succ_cons, List.take_zero, List.drop_succ_cons, List.drop_zero, List.reverse_cons, List.reverse_nil, Option.toList_some, Option.toList_none, Nat.reduceSub, Nat.reduceAdd, Nat.reduceLeDiff, true_and, and_true, and_self, Option.some.injEq, exists_eq_left', Nat.zero_add, Value.int.injEq, Value.ref.injEq, List.cons.injEq, exists_and_left, and_assoc, exists_eq_left, N_101, C_101, B_101_0, bk_101_0, B_101_17, bk_101_17, B_101_33, bk_101_33, B_101_42, bk_101_42, h0, h1, h2, hru, o_cl, o_in, o_eq_l, vStr, if_neg, if_pos, if_neg, not_true_eq_false, not_false_eq_true, or_true, true_or, or_false, false_or, false_and, and_false, Nat.reduceEqDiff, Nat.reduceLT, Nat.reduceMul, Nat.not_lt_zero, Nat.zero_le, Nat.le_refl, ne_eq, reduceIte, reduceCtorEq]
  · simp (disch := omega) only [e_iconst, e_bipush, e_sipush, e_iload_n, e_iload, e_aload_n, e_aload, e_istore_n, e_istore, e_astore_n, e_astore, e_iinc, e_iadd, e_isub, e_imul, e_iand, e_ishr, e_idiv, e_i2c, e_dup_i, e_dup_r, e_dup2, e_pop, e_goto, e_nop, e_if_eq, e_if_ne, e_if_lt, e_if_ge, e_if_gt, e_if_le, e_icmp_eq, e_icmp_ne, e_icmp_lt, e_icmp_ge, e_icmp_gt, e_icmp_le, e_tsw, e_ret0, e_ret1, e_retn, e_getI, e_getZ, e_getR, e_getV, e_getC, e_putI, e_putZ, e_putF, e_gst0, e_gst1, e_sld, e_iald, e_cald, e_bald, e_iast, e_cast, e_aald, e_aast, e_alen, e_slen, e_blen, e_newa, e_newq, e_new, e_oinit, e_ctor, e_virt, e_stat, e_min, e_copy, e_ldc, List.cons_append, List.nil_append, List.append_nil, List.length_cons, List.length_nil, List.replicate_succ, List.replicate_zero, List.getElem?_cons_zero, List.getElem?_cons_succ, List.set_cons_zero, List.set_cons_succ, List.take_succ_cons, List.take_zero, List.drop_succ_cons, List.drop_zero, List.reverse_cons, List.reverse_nil, Option.toList_some, Option.toList_none, Nat.reduceSub, Nat.reduceAdd, Nat.reduceLeDiff, true_and, and_true, and_self, Option.some.injEq, exists_eq_left', Nat.zero_add, Value.int.injEq, Value.ref.injEq, List.cons.injEq, exists_and_left, and_assoc, exists_eq_left, N_101, C_101, B_101_0, bk_101_0, B_101_17, bk_101_17, B_101_33, bk_101_33, B_101_42, bk_101_42, h0, h1, h2, hru, o_cl, o_in, o_eq_l, vStr, if_neg, if_pos, if_pos, if_neg, not_true_eq_false, not_false_eq_true, or_true, true_or, or_false, false_or, false_and, and_false, Nat.reduceEqDiff, Nat.reduceLT, Nat.reduceMul, Nat.not_lt_zero, Nat.zero_le, Nat.le_refl, ne_eq, reduceIte, reduceCtorEq]
  · simp (disch := omega) only [e_iconst, e_bipush, e_sipush, e_iload_n, e_iload, e_aload_n, e_aload, e_istore_n, e_istore, e_astore_n, e_astore, e_iinc, e_iadd, e_isub, e_imul, e_iand, e_ishr, e_idiv, e_i2c, e_dup_i, e_dup_r, e_dup2, e_pop, e_goto, e_nop, e_if_eq, e_if_ne, e_if_lt, e_if_ge, e_if_gt, e_if_le, e_icmp_eq, e_icmp_ne, e_icmp_lt, e_icmp_ge, e_icmp_gt, e_icmp_le, e_tsw, e_ret0, e_ret1, e_retn, e_getI, e_getZ, e_getR, e_getV, e_getC, e_putI, e_putZ, e_putF, e_gst0, e_gst1, e_sld, e_iald, e_cald, e_bald, e_iast, e_cast, e_aald, e_aast, e_alen, e_slen, e_blen, e_newa, e_newq, e_new, e_oinit, e_ctor, e_virt, e_stat, e_min, e_copy, e_ldc, List.cons_append, List.nil_append, List.append_nil, List.length_cons, List.length_nil, List.replicate_succ, List.replicate_zero, List.getElem?_cons_zero, List.getElem?_cons_succ, List.set_cons_zero, List.set_cons_succ, List.take_succ_cons, List.take_zero, List.drop_succ_cons, List.drop_zero, List.reverse_cons, List.reverse_nil, Option.toList_some, Option.toList_none, Nat.reduceSub, Nat.reduceAdd, Nat.reduceLeDiff, true_and, and_true, and_self, Option.some.injEq, exists_eq_left', Nat.zero_add, Value.int.injEq, Value.ref.injEq, List.cons.injEq, exists_and_left, and_assoc, exists_eq_left, N_101, C_101, B_101_0, bk_101_0, B_101_17, bk_101_17, B_101_33, bk_101_33, B_101_42, bk_101_42, h0, h1, h2, hru, o_cl, o_in, o_eq_l, vStr, if_neg, if_pos, C_94, r_gaps h hs hf, if_pos, if_neg, not_true_eq_false, not_false_eq_true, or_true, true_or, or_false, false_or, false_and, and_false, Nat.reduceEqDiff, Nat.reduceLT, Nat.reduceMul, Nat.not_lt_zero, Nat.zero_le, Nat.le_refl, ne_eq, reduceIte, reduceCtorEq]
theorem r_punches {K : mK} {R : Nat → Nat → Option Nat} {I : Nat → Nat → Int32} {s g : Nat} {x : Int32} {Q : Option Value → mH → Prop} (h : zM K R) (hs : s < 6) (hg : g < 32) : EvM 99 [.ref 194, .int (nI s), .int (nI g), .int x] (K, R, I) Q ↔ Q none (K, R, rSet I 195 (vU (vU (vU (I 195) (98 * s + (4 + g)) x) (98 * s + (36 + g)) x) 591 (I 195 591 + x))) := by
  obtain ⟨h0, h1, h2, -⟩ := id h
  unfold EvM
  simp (disch := omega) only [e_iconst, e_bipush, e_sipush, e_iload_n, e_iload, e_aload_n, e_aload, e_istore_n, e_istore, e_astore_n, e_astore, e_iinc, e_iadd, e_isub, e_imul, e_iand, e_ishr, e_idiv, e_i2c, e_dup_i, e_dup_r, e_dup2, e_pop, e_goto, e_nop, e_if_eq, e_if_ne, e_if_lt, e_if_ge, e_if_gt, e_if_le, e_icmp_eq, e_icmp_ne, e_icmp_lt, e_icmp_ge, e_icmp_gt, e_icmp_le, e_tsw, e_ret0, e_ret1, e_retn, e_getI, e_getZ, e_getR, e_getV, e_getC, e_putI, e_putZ, e_putF, e_gst0, e_gst1, e_sld, e_iald, e_cald, e_bald, e_iast, e_cast, e_aald, e_aast, e_alen, e_slen, e_blen, e_newa, e_newq, e_new, e_oinit, e_ctor, e_virt, e_stat, e_min, e_copy, e_ldc, List.cons_append, List.nil_append, List.append_nil, List.length_cons, List.length_nil, List.replicate_succ, List.replicate_zero, List.getElem?_cons_zero, List.getElem?_cons_succ, List.set_cons_zero, List.set_cons_succ, List.take_succ_cons, List.take_zero, List.drop_succ_cons, List.drop_zero, List.reverse_cons, List.reverse_nil, Option.toList_some, Option.toList_none, Nat.reduceSub, Nat.reduceAdd, Nat.reduceLeDiff, true_and, and_true, and_self, Option.some.injEq, exists_eq_left', Nat.zero_add, Value.int.injEq, Value.ref.injEq, List.cons.injEq, exists_and_left, and_assoc, exists_eq_left, N_99, C_99, B_99_0, bk_99_0, h0, h1, h2, o_add_r, C_92, r_putsN h hs, o_cl, o_in, m_rs, rs_rs, rSet_s, rs_m, u_ne, if_pos, if_neg, not_true_eq_false, not_false_eq_true, or_true, true_or, or_false, false_or, false_and, and_false, Nat.reduceEqDiff, Nat.reduceLT, Nat.reduceMul, Nat.not_lt_zero, Nat.zero_le, Nat.le_refl, ne_eq, reduceIte, reduceCtorEq]
theorem r_copies {K : mK} {R : Nat → Nat → Option Nat} {I : Nat → Nat → Int32} {s t g q : Nat} {Q : Option Value → mH → Prop} (h : zM K R) (hs : s < 6) (ht : t < 6) (hg : g < 32) (hq : q < 32) : EvM 100 [.ref 194, .int (nI s), .int (nI g), .int (nI t), .int (nI q)] (K, R, I) Q ↔ Q none (K, R, rSet I 195 (vU (vU (I 195) (98 * t + (4 + q)) (I 195 (98 * s + (4 + g)))) (98 * t + (36 + q)) (I 195 (98 * s + (36 + g))))) := by
  obtain ⟨h0, h1, h2, -⟩ := id h
  unfold EvM
  simp (disch := omega) only [e_iconst, e_bipush, e_sipush, e_iload_n, e_iload, e_aload_n, e_aload, e_istore_n, e_istore, e_astore_n, e_astore, e_iinc, e_iadd, e_isub, e_imul, e_iand, e_ishr, e_idiv, e_i2c, e_dup_i, e_dup_r, e_dup2, e_pop, e_goto, e_nop, e_if_eq, e_if_ne, e_if_lt, e_if_ge, e_if_gt, e_if_le, e_icmp_eq, e_icmp_ne, e_icmp_lt, e_icmp_ge, e_icmp_gt, e_icmp_le, e_tsw, e_ret0, e_ret1, e_retn, e_getI, e_getZ, e_getR, e_getV, e_getC, e_putI, e_putZ, e_putF, e_gst0, e_gst1, e_sld, e_iald, e_cald, e_bald, e_iast, e_cast, e_aald, e_aast, e_alen, e_slen, e_blen, e_newa, e_newq, e_new, e_oinit, e_ctor, e_virt, e_stat, e_min, e_copy, e_ldc, List.cons_append, List.nil_append, List.append_nil, List.length_cons, List.length_nil, List.replicate_succ, List.replicate_zero, List.getElem?_cons_zero, List.getElem?_cons_succ, List.set_cons_zero, List.set_cons_succ, List.take_succ_cons, List.take_zero, List.drop_succ_cons, List.drop_zero, List.reverse_cons, List.reverse_nil, Option.toList_some, Option.toList_none, Nat.reduceSub, Nat.reduceAdd, Nat.reduceLeDiff, true_and, and_true, and_self, Option.some.injEq, exists_eq_left', Nat.zero_add, Value.int.injEq, Value.ref.injEq, List.cons.injEq, exists_and_left, and_assoc, exists_eq_left, N_100, C_100, B_100_0, bk_100_0, h0, h1, h2, o_add_r, C_92, C_91, r_putsN h ht, r_ofN h hs, m_rs, rs_rs, rSet_s, rs_m, u_ne, if_pos, if_neg, not_true_eq_false, not_false_eq_true, or_true, true_or, or_false, false_or, false_and, and_false, Nat.reduceEqDiff, Nat.reduceLT, Nat.reduceMul, Nat.not_lt_zero, Nat.zero_le, Nat.le_refl, ne_eq, reduceIte, reduceCtorEq]
end
section
/-! THE REFERENCE: record, one rewind -/
def vRec (H v : Nat → Int32) (n : Nat) : Nat → Int32 := fun x =>
  if n = 4 then (if x < 1878 then H (x + 626) else if x < 2504 then v (x - 1878) else H x) else (if 626 * n ≤ x ∧ x < 626 * n + 626 then v (x - 626 * n) else H x)
def rRec (I : Nat → Nat → Int32) (n : Nat) : Nat → Nat → Int32 := fun x j => if x = 194 ∧ j = 2 then nI (if n = 4 then 4 else n + 1) else if x = 196 then vRec (I 196) (I 195) n j else I x j
set_option maxHeartbeats 4000000 in
theorem r_record {K : mK} {R : Nat → Nat → Option Nat} {I : Nat → Nat → Int32} {n : Nat} {Q : Option Value → mH → Prop} (h : zM K R) (hn : I 194 2 = nI n) (hn2 : n ≤ 4) : EvM 95 [.ref 194] (K, R, I) Q ↔ Q none (K, R, rRec I n) := by
  obtain ⟨h0, h1, h2, h3, h4, -⟩ := id h
  refine EvM_iff ?_
  -- the copy behind the others
  have cp : ∀ (J : Nat → Nat → Int32) (q : Nat) (l1 : Value), q ≤ 3 → J 194 2 = nI q → ∀ (Q0 : Option Value → mH → Prop), Q0 none (K, R, mSet (rSet J 196 (fun x => if 626 * q ≤ x ∧ x < 626 * q + 626 then J 195 (x - 626 * q) else J 196 x)) 194 2 (nI (q + 1))) → Ev 95 (mB 95 49) [.ref 194, l1] [] (K, R, J) Q0 := by
    intro J q l1 hq hJ Q0 hQ
    rw [B_95_49]
    simp (disch := omega) only [e_iconst, e_bipush, e_sipush, e_iload_n, e_iload, e_aload_n, e_aload, e_istore_n, e_istore, e_astore_n, e_astore, e_iinc, e_iadd, e_isub, e_imul, e_iand, e_ishr, e_idiv, e_i2c, e_dup_i, e_dup_r, e_dup2, e_pop, e_goto, e_nop, e_if_eq, e_if_ne, e_if_lt, e_if_ge, e_if_gt, e_if_le, e_icmp_eq, e_icmp_ne, e_icmp_lt, e_icmp_ge, e_icmp_gt, e_icmp_le, e_tsw, e_ret0, e_ret1, e_retn, e_getI, e_getZ, e_getR, e_getV, e_getC, e_putI, e_putZ, e_putF, e_gst0, e_gst1, e_sld, e_iald, e_cald, e_bald, e_iast, e_cast, e_aald, e_aast, e_alen, e_slen, e_blen, e_newa, e_newq, e_new, e_oinit, e_ctor, e_virt, e_stat, e_min, e_copy, e_ldc, List.cons_append, List.nil_append, List.append_nil, List.length_cons, List.length_nil, List.replicate_succ, List.replicate_zero, List.getElem?_cons_zero, List.getElem?_cons_succ, List.set_cons_zero, List.set_cons_succ, List.take_succ_cons, List.take_zero, List.drop_succ_cons, List.drop_zero, List.reverse_cons, List.reverse_nil, Option.toList_some, Option.toList_none, Nat.reduceSub, Nat.reduceAdd, Nat.reduceLeDiff, true_and, and_true, and_self, Option.some.injEq, exists_eq_left', Nat.zero_add, Value.int.injEq, Value.ref.injEq, List.cons.injEq, exists_and_left, and_assoc, exists_eq_left, bk_95_49, if_pos, if_neg, not_true_eq_false, not_false_eq_true, or_true, true_or, or_false, false_or, false_and, and_false, Nat.reduceEqDiff, Nat.reduceLT, Nat.reduceMul, Nat.not_lt_zero, Nat.zero_le, Nat.le_refl, ne_eq, reduceIte, reduceCtorEq]
    have key := loop_dn (n := 626) (P := fun k => Ev 95 (mB 95 51) [.ref 194, .int (nI k)] [] (K, R, rSet J 196 (fun x => if 626 * q ≤ x ∧ x < 626 * q + k then J 195 (x - 626 * q) else J 196 x)) Q0) ?_ ?_
    · refine Ev_cg ?_ rfl key
      funext x j
      simp only [rSet]
      by_cases c : x = 196
      · rw [if_pos c, if_neg (by omega), c]
      · rw [if_neg c]
    · intro k hk hnext
      rw [B_95_51]
      have e1 : ∀ {w : Nat → Int32}, rSet J 196 w 194 2 = nI q := by intro w; rw [rSet_o (by omega)]; exact hJ
      have e2 : ∀ {w : Nat → Int32} {i : Nat}, rSet J 196 w 195 i = J 195 i := by intro w i; rw [rSet_o (by omega)]
      simp (disch := omega) only [e_iconst, e_bipush, e_sipush, e_iload_n, e_iload, e_aload_n, e_aload, e_istore_n, e_istore, e_astore_n, e_astore, e_iinc, e_iadd, e_isub, e_imul, e_iand, e_ishr, e_idiv, e_i2c, e_dup_i, e_dup_r, e_dup2, e_pop, e_goto, e_nop, e_if_eq, e_if_ne, e_if_lt, e_if_ge, e_if_gt, e_if_le, e_icmp_eq, e_icmp_ne, e_icmp_lt, e_icmp_ge, e_icmp_gt, e_icmp_le, e_tsw, e_ret0, e_ret1, e_retn, e_getI, e_getZ, e_getR, e_getV, e_getC, e_putI, e_putZ, e_putF, e_gst0, e_gst1, e_sld, e_iald, e_cald, e_bald, e_iast, e_cast, e_aald, e_aast, e_alen, e_slen, e_blen, e_newa, e_newq, e_new, e_oinit, e_ctor, e_virt, e_stat, e_min, e_copy, e_ldc, List.cons_append, List.nil_append, List.append_nil, List.length_cons, List.length_nil, List.replicate_succ, List.replicate_zero, List.getElem?_cons_zero, List.getElem?_cons_succ, List.set_cons_zero, List.set_cons_succ, List.take_succ_cons, List.take_zero, List.drop_succ_cons, List.drop_zero, List.reverse_cons, List.reverse_nil, Option.toList_some, Option.toList_none, Nat.reduceSub, Nat.reduceAdd, Nat.reduceLeDiff, true_and, and_true, and_self, Option.some.injEq, exists_eq_left', Nat.zero_add, Value.int.injEq, Value.ref.injEq, List.cons.injEq, exists_and_left, and_assoc, exists_eq_left, bk_95_51, h0, h1, h2, h3, h4, o_le_r, if_neg, n_in, n_cl, o_add_l, o_mul_r, n_add, e1, e2, rs_m, if_pos, if_neg, not_true_eq_false, not_false_eq_true, or_true, true_or, or_false, false_or, false_and, and_false, Nat.reduceEqDiff, Nat.reduceLT, Nat.reduceMul, Nat.not_lt_zero, Nat.zero_le, Nat.le_refl, ne_eq, reduceIte, reduceCtorEq]
      refine Ev_cg ?_ rfl hnext
      congr 1
      funext x
      simp only [vU]
      by_cases c : x = 626 * q + k
      · subst c
        rw [if_pos rfl, if_pos (by omega), show 626 * q + k - 626 * q = k by omega]
      · rw [if_neg c]
        by_cases c2 : 626 * q ≤ x ∧ x < 626 * q + k
        · rw [if_pos c2, if_pos (by omega)]
        · rw [if_neg c2, if_neg (by omega)]
    · rw [B_95_51]
      have e1 : ∀ {w : Nat → Int32}, rSet J 196 w 194 2 = nI q := by intro w; rw [rSet_o (by omega)]; exact hJ
      simp (disch := omega) only [e_iconst, e_bipush, e_sipush, e_iload_n, e_iload, e_aload_n, e_aload, e_istore_n, e_istore, e_astore_n, e_astore, e_iinc, e_iadd, e_isub, e_imul, e_iand, e_ishr, e_idiv, e_i2c, e_dup_i, e_dup_r, e_dup2, e_pop, e_goto, e_nop, e_if_eq, e_if_ne, e_if_lt, e_if_ge, e_if_gt, e_if_le, e_icmp_eq, e_icmp_ne, e_icmp_lt, e_icmp_ge, e_icmp_gt, e_icmp_le, e_tsw, e_ret0, e_ret1, e_retn, e_getI, e_getZ, e_getR, e_getV, e_getC, e_putI, e_putZ, e_putF, e_gst0, e_gst1, e_sld, e_iald, e_cald, e_bald, e_iast, e_cast, e_aald, e_aast, e_alen, e_slen, e_blen, e_newa, e_newq, e_new, e_oinit, e_ctor, e_virt, e_stat, e_min, e_copy, e_ldc, List.cons_append, List.nil_append, List.append_nil, List.length_cons, List.length_nil, List.replicate_succ, List.replicate_zero, List.getElem?_cons_zero, List.getElem?_cons_succ, List.set_cons_zero, List.set_cons_succ, List.take_succ_cons, List.take_zero, List.drop_succ_cons, List.drop_zero, List.reverse_cons, List.reverse_nil, Option.toList_some, Option.toList_none, Nat.reduceSub, Nat.reduceAdd, Nat.reduceLeDiff, true_and, and_true, and_self, Option.some.injEq, exists_eq_left', Nat.zero_add, Value.int.injEq, Value.ref.injEq, List.cons.injEq, exists_and_left, and_assoc, exists_eq_left, bk_95_51, B_95_85, bk_95_85, h0, o_le_r, if_pos, Nat.le_refl, e1, o_add_l, if_pos, if_neg, not_true_eq_false, not_false_eq_true, or_true, true_or, or_false, false_or, false_and, and_false, Nat.reduceEqDiff, Nat.reduceLT, Nat.reduceMul, Nat.not_lt_zero, Nat.zero_le, Nat.le_refl, ne_eq, reduceIte, reduceCtorEq]
      exact hQ
  unfold EvM
  by_cases e : n = 4
  · subst e
    rw [B_95_0]
    simp (disch := omega) only [e_iconst, e_bipush, e_sipush, e_iload_n, e_iload, e_aload_n, e_aload, e_istore_n, e_istore, e_astore_n, e_astore, e_iinc, e_iadd, e_isub, e_imul, e_iand, e_ishr, e_idiv, e_i2c, e_dup_i, e_dup_r, e_dup2, e_pop, e_goto, e_nop, e_if_eq, e_if_ne, e_if_lt, e_if_ge, e_if_gt, e_if_le, e_icmp_eq, e_icmp_ne, e_icmp_lt, e_icmp_ge, e_icmp_gt, e_icmp_le, e_tsw, e_ret0, e_ret1, e_retn, e_getI, e_getZ, e_getR, e_getV, e_getC, e_putI, e_putZ, e_putF, e_gst0, e_gst1, e_sld, e_iald, e_cald, e_bald, e_iast, e_cast, e_aald, e_aast, e_alen, e_slen, e_blen, e_newa, e_newq, e_new, e_oinit, e_ctor, e_virt, e_stat, e_min, e_copy, e_ldc, List.cons_append, List.nil_append, List.append_nil, List.length_cons, List.length_nil, List.replicate_succ, List.replicate_zero, List.getElem?_cons_zero, List.getElem?_cons_succ, List.set_cons_zero, List.set_cons_succ, List.take_succ_cons, List.take_zero, List.drop_succ_cons, List.drop_zero, List.reverse_cons, List.reverse_nil, Option.toList_some, Option.toList_none, Nat.reduceSub, Nat.reduceAdd, Nat.reduceLeDiff, true_and, and_true, and_self, Option.some.injEq, exists_eq_left', Nat.zero_add, Value.int.injEq, Value.ref.injEq, List.cons.injEq, exists_and_left, and_assoc, exists_eq_left, N_95, bk_95_0, h0, hn, o_eq_l, if_pos, if_neg, not_true_eq_false, not_false_eq_true, or_true, true_or, or_false, false_or, false_and, and_false, Nat.reduceEqDiff, Nat.reduceLT, Nat.reduceMul, Nat.not_lt_zero, Nat.zero_le, Nat.le_refl, ne_eq, reduceIte, reduceCtorEq]
    have key := loop_dn (n := 1878) (P := fun k => Ev 95 (mB 95 10) [.ref 194, .int (nI k)] [] (K, R, rSet I 196 (fun x => if x < k then I 196 (x + 626) else I 196 x)) (fun v k => v = none ∧ k = (K, R, rRec I 4))) ?_ ?_
    · refine Ev_cg ?_ rfl key
      funext x j
      simp only [rSet]
      by_cases c : x = 196
      · rw [if_pos c, if_neg (by omega), c]
      · rw [if_neg c]
    · intro k hk hnext
      rw [B_95_10]
      simp (disch := omega) only [e_iconst, e_bipush, e_sipush, e_iload_n, e_iload, e_aload_n, e_aload, e_istore_n, e_istore, e_astore_n, e_astore, e_iinc, e_iadd, e_isub, e_imul, e_iand, e_ishr, e_idiv, e_i2c, e_dup_i, e_dup_r, e_dup2, e_pop, e_goto, e_nop, e_if_eq, e_if_ne, e_if_lt, e_if_ge, e_if_gt, e_if_le, e_icmp_eq, e_icmp_ne, e_icmp_lt, e_icmp_ge, e_icmp_gt, e_icmp_le, e_tsw, e_ret0, e_ret1, e_retn, e_getI, e_getZ, e_getR, e_getV, e_getC, e_putI, e_putZ, e_putF, e_gst0, e_gst1, e_sld, e_iald, e_cald, e_bald, e_iast, e_cast, e_aald, e_aast, e_alen, e_slen, e_blen, e_newa, e_newq, e_new, e_oinit, e_ctor, e_virt, e_stat, e_min, e_copy, e_ldc, List.cons_append, List.nil_append, List.append_nil, List.length_cons, List.length_nil, List.replicate_succ, List.replicate_zero, List.getElem?_cons_zero, List.getElem?_cons_succ, List.set_cons_zero, List.set_cons_succ, List.take_succ_cons, List.take_zero, List.drop_succ_cons, List.drop_zero, List.reverse_cons, List.reverse_nil, Option.toList_some, Option.toList_none, Nat.reduceSub, Nat.reduceAdd, Nat.reduceLeDiff, true_and, and_true, and_self, Option.some.injEq, exists_eq_left', Nat.zero_add, Value.int.injEq, Value.ref.injEq, List.cons.injEq, exists_and_left, and_assoc, exists_eq_left, bk_95_10, h0, h3, h4, o_le_r, if_neg, n_in, n_cl, o_add_l, rSet_s, rs_m, if_pos, if_neg, not_true_eq_false, not_false_eq_true, or_true, true_or, or_false, false_or, false_and, and_false, Nat.reduceEqDiff, Nat.reduceLT, Nat.reduceMul, Nat.not_lt_zero, Nat.zero_le, Nat.le_refl, ne_eq, reduceIte, reduceCtorEq]
      refine Ev_cg ?_ rfl hnext
      congr 1
      funext x
      simp only [vU]
      by_cases c : x = k
      · subst c
        rw [if_pos rfl, if_pos (by omega)]
      · rw [if_neg c]
        by_cases c2 : x < k
        · rw [if_pos c2, if_pos (by omega)]
        · rw [if_neg c2, if_neg (by omega)]
    · rw [B_95_10]
      have e1 : ∀ {w : Nat → Int32}, rSet I 196 w 194 2 = nI 4 := by intro w; rw [rSet_o (by omega)]; exact hn
      simp (disch := omega) only [e_iconst, e_bipush, e_sipush, e_iload_n, e_iload, e_aload_n, e_aload, e_istore_n, e_istore, e_astore_n, e_astore, e_iinc, e_iadd, e_isub, e_imul, e_iand, e_ishr, e_idiv, e_i2c, e_dup_i, e_dup_r, e_dup2, e_pop, e_goto, e_nop, e_if_eq, e_if_ne, e_if_lt, e_if_ge, e_if_gt, e_if_le, e_icmp_eq, e_icmp_ne, e_icmp_lt, e_icmp_ge, e_icmp_gt, e_icmp_le, e_tsw, e_ret0, e_ret1, e_retn, e_getI, e_getZ, e_getR, e_getV, e_getC, e_putI, e_putZ, e_putF, e_gst0, e_gst1, e_sld, e_iald, e_cald, e_bald, e_iast, e_cast, e_aald, e_aast, e_alen, e_slen, e_blen, e_newa, e_newq, e_new, e_oinit, e_ctor, e_virt, e_stat, e_min, e_copy, e_ldc, List.cons_append, List.nil_append, List.append_nil, List.length_cons, List.length_nil, List.replicate_succ, List.replicate_zero, List.getElem?_cons_zero, List.getElem?_cons_succ, List.set_cons_zero, List.set_cons_succ, List.take_succ_cons, List.take_zero, List.drop_succ_cons, List.drop_zero, List.reverse_cons, List.reverse_nil, Option.toList_some, Option.toList_none, Nat.reduceSub, Nat.reduceAdd, Nat.reduceLeDiff, true_and, and_true, and_self, Option.some.injEq, exists_eq_left', Nat.zero_add, Value.int.injEq, Value.ref.injEq, List.cons.injEq, exists_and_left, and_assoc, exists_eq_left, bk_95_10, B_95_39, bk_95_39, h0, o_le_r, if_pos, Nat.le_refl, e1, o_sub_l, if_pos, if_neg, not_true_eq_false, not_false_eq_true, or_true, true_or, or_false, false_or, false_and, and_false, Nat.reduceEqDiff, Nat.reduceLT, Nat.reduceMul, Nat.not_lt_zero, Nat.zero_le, Nat.le_refl, ne_eq, reduceIte, reduceCtorEq]
      refine cp _ 3 _ (by omega) s_eq _ ⟨rfl, ?_⟩
      congr 2
      funext x j
      by_cases c1 : x = 194 ∧ j = 2
      · rw [rRec, if_pos c1, mSet, if_pos c1, if_pos rfl]
      · rw [rRec, if_neg c1, mSet, if_neg c1]
        by_cases c2 : x = 196
        · subst c2
          rw [rSet, if_pos rfl, if_pos rfl, vRec, if_pos rfl]
          by_cases c3 : j < 1878
          · rw [if_neg (by omega), if_pos c3, s_ne (by omega), rSet_s, if_pos c3]
          · rw [if_neg c3]
            by_cases c4 : j < 2504
            · rw [if_pos (by omega), if_pos c4, s_ne (by omega), rSet_o (by omega)]
            · rw [if_neg (by omega), if_neg c4, s_ne (by omega), rSet_s, if_neg c3]
        · rw [rSet, if_neg c2, if_neg c2, s_ne c1, rSet_o c2]
  · rw [B_95_0]
    simp (disch := omega) only [e_iconst, e_bipush, e_sipush, e_iload_n, e_iload, e_aload_n, e_aload, e_istore_n, e_istore, e_astore_n, e_astore, e_iinc, e_iadd, e_isub, e_imul, e_iand, e_ishr, e_idiv, e_i2c, e_dup_i, e_dup_r, e_dup2, e_pop, e_goto, e_nop, e_if_eq, e_if_ne, e_if_lt, e_if_ge, e_if_gt, e_if_le, e_icmp_eq, e_icmp_ne, e_icmp_lt, e_icmp_ge, e_icmp_gt, e_icmp_le, e_tsw, e_ret0, e_ret1, e_retn, e_getI, e_getZ, e_getR, e_getV, e_getC, e_putI, e_putZ, e_putF, e_gst0, e_gst1, e_sld, e_iald, e_cald, e_bald, e_iast, e_cast, e_aald, e_aast, e_alen, e_slen, e_blen, e_newa, e_newq, e_new, e_oinit, e_ctor, e_virt, e_stat, e_min, e_copy, e_ldc, List.cons_append, List.nil_append, List.append_nil, List.length_cons, List.length_nil, List.replicate_succ, List.replicate_zero, List.getElem?_cons_zero, List.getElem?_cons_succ, List.set_cons_zero, List.set_cons_succ, List.take_succ_cons, List.take_zero, List.drop_succ_cons, List.drop_zero, List.reverse_cons, List.reverse_nil, Option.toList_some, Option.toList_none, Nat.reduceSub, Nat.reduceAdd, Nat.reduceLeDiff, true_and, and_true, and_self, Option.some.injEq, exists_eq_left', Nat.zero_add, Value.int.injEq, Value.ref.injEq, List.cons.injEq, exists_and_left, and_assoc, exists_eq_left, N_95, bk_95_0, h0, hn, o_eq_l, if_pos, e, if_pos, if_neg, not_true_eq_false, not_false_eq_true, or_true, true_or, or_false, false_or, false_and, and_false, Nat.reduceEqDiff, Nat.reduceLT, Nat.reduceMul, Nat.not_lt_zero, Nat.zero_le, Nat.le_refl, ne_eq, reduceIte, reduceCtorEq]
    refine cp I n _ (by omega) hn _ ⟨rfl, ?_⟩
    congr 2
    funext x j
    simp only [rRec, vRec, rSet, mSet, if_neg e]
/-- a gap of the row, stretched; whether it is too long then; the row when m gaps are stretched -/
def vLn (v : Nat → Int32) (s : Nat) (pu : Int32) (n k : Nat) : Int32 := v (98 * s + (4 + k)) + v (98 * s + (4 + k)) * vStr (v 588) pu (nI k) (nI n) / 10000
def vBd (v : Nat → Int32) (s : Nat) (pu : Int32) (n k : Nat) : Bool := !decide (vLn v s pu n k * 100 ≤ v (98 * s + (36 + k)) * v 589)
def vSt (v : Nat → Int32) (s : Nat) (pu : Int32) (n m : Nat) : Nat → Int32 := fun x => if 98 * s + 4 ≤ x ∧ x < 98 * s + 4 + m then vLn v s pu n (x - (98 * s + 4)) else v x
/-- the row behind one rewind, as far as the event -/
def vR1 (v : Nat → Int32) (s : Nat) (pu : Int32) (n ln : Nat) : Nat → Int32 :=
  vTl (vU (vU (vU (vSt v s pu n n) (98 * s + 3) (v (98 * s + 3) + 1)) 590 (v 590 + (10 - pu))) 592 (v 592 + 1)) ln 1 (nI s) pu
def lnx (ln : Nat) : Nat := if ln = 10 then 10 else ln + 1
/-- and behind a break at the gap f -/
def vR2 (w : Nat → Int32) (s c cl f ln : Nat) : Nat → Int32 :=
  vU (vU (vU (vTl (vU (vU w 593 (w 593 + 1)) 594 (w 594 + (if f = c + cl ∧ cl = 1 then 0 else nI (c - (if f = 0 then 0 else f - 1))))) ln 2 (nI s) (nI (c + 1 + cl - f))) (98 * s) (if f = 0 then 0 else 1)) (98 * s + 1) 0) (98 * s + 2) (nI (if c < f then c else if f = 0 then 0 else f - 1))
theorem vTl_o {v : Nat → Int32} {n x : Nat} {kd sp nu : Int32} (h : x < 595) : vTl v n kd sp nu x = v x := by
  unfold vTl
  by_cases e : n = 10
  · rw [if_pos e, if_neg (by omega), if_neg (by omega), if_neg (by omega), if_neg (by omega)]
  · rw [if_neg e, if_neg (by omega), if_neg (by omega), if_neg (by omega), if_neg (by omega)]
theorem vTl_n {v : Nat → Int32} {n : Nat} {kd sp nu : Int32} (hn : v 595 = nI n) (h2 : n ≤ 10) : vTl v n kd sp nu 595 = nI (lnx n) := by
  unfold vTl lnx
  by_cases e : n = 10
  · rw [if_pos e, if_pos e, if_neg (by omega), if_neg (by omega), if_neg (by omega), if_neg (by omega), hn, e]
  · rw [if_neg e, if_neg e, if_neg (by omega), if_neg (by omega), if_neg (by omega), if_pos rfl]
theorem vSt_o {v : Nat → Int32} {s n m x : Nat} {pu : Int32} (h : ¬ (98 * s + 4 ≤ x ∧ x < 98 * s + 4 + m)) : vSt v s pu n m x = v x := if_neg h
set_option maxHeartbeats 8000000 in
theorem r_rewinds {K : mK} {R : Nat → Nat → Option Nat} {I : Nat → Nat → Int32} {s p cl c ru ln : Nat} {pu : Int32} {Q : Option Value → mH → Prop} (h : zM K R) (hs : s < 6) (hf : vF (I 195) s p cl c) (hru : I 195 588 = nI ru) (hru2 : ru ≤ 2) (hln : I 195 595 = nI ln) (hln2 : ln ≤ 10) :
    EvM 102 [.ref 194, .int (nI s), .int pu] (K, R, I) Q ↔ Q (some (.int (if fB (vBd (I 195) s pu (c + 1 + cl)) (c + 1 + cl) (c + 1 + cl) = c + 1 + cl then 0 else 1)))
      (K, R, rSet I 195 (if fB (vBd (I 195) s pu (c + 1 + cl)) (c + 1 + cl) (c + 1 + cl) = c + 1 + cl then vR1 (I 195) s pu (c + 1 + cl) ln else vR2 (vR1 (I 195) s pu (c + 1 + cl) ln) s c cl (fB (vBd (I 195) s pu (c + 1 + cl)) (c + 1 + cl) (c + 1 + cl)) (lnx ln))) := by
  obtain ⟨h0, h1, h2, -⟩ := id h
  obtain ⟨f1, f2, f3, f4, f5, f6⟩ := id hf
  refine EvM_iff ?_
  unfold EvM
  rw [B_102_0]
  simp (disch := omega) only [e_iconst, e_bipush, e_sipush, e_iload_n, e_iload, e_aload_n, e_aload, e_istore_n, e_istore, e_astore_n, e_astore, e_iinc, e_iadd, e_isub, e_imul, e_iand, e_ishr, e_idiv, e_i2c, e_dup_i, e_dup_r, e_dup2, e_pop, e_goto, e_nop, e_if_eq, e_if_ne, e_if_lt, e_if_ge, e_if_gt, e_if_le, e_icmp_eq, e_icmp_ne, e_icmp_lt, e_icmp_ge, e_icmp_gt, e_icmp_le, e_tsw, e_ret0, e_ret1, e_retn, e_getI, e_getZ, e_getR, e_getV, e_getC, e_putI, e_putZ, e_putF, e_gst0, e_gst1, e_sld, e_iald, e_cald, e_bald, e_iast, e_cast, e_aald, e_aast, e_alen, e_slen, e_blen, e_newa, e_newq, e_new, e_oinit, e_ctor, e_virt, e_stat, e_min, e_copy, e_ldc, List.cons_append, List.nil_append, List.append_nil, List.length_cons, List.length_nil, List.replicate_succ, List.replicate_zero, List.getElem?_cons_zero, List.getElem?_cons_succ, List.set_cons_zero, List.set_cons_succ, List.take_succ_cons, List.take_zero, List.drop_succ_cons, List.drop_zero, List.reverse_cons, List.reverse_nil, Option.toList_some, Option.toList_none, Nat.reduceSub, Nat.reduceAdd, Nat.reduceLeDiff, true_and, and_true, and_self, Option.some.injEq, exists_eq_left', Nat.zero_add, Value.int.injEq, Value.ref.injEq, List.cons.injEq, exists_and_left, and_assoc, exists_eq_left, N_102, bk_102_0, h0, C_94, r_gaps h hs hf, if_pos, if_neg, not_true_eq_false, not_false_eq_true, or_true, true_or, or_false, false_or, false_and, and_false, Nat.reduceEqDiff, Nat.reduceLT, Nat.reduceMul, Nat.not_lt_zero, Nat.zero_le, Nat.le_refl, ne_eq, reduceIte, reduceCtorEq]
  generalize hfi : fB (vBd (I 195) s pu (c + 1 + cl)) (c + 1 + cl) (c + 1 + cl) = fi
  generalize hQ : (fun (v : Option Value) (k : mH) => v = some (.int (if fi = c + 1 + cl then 0 else 1)) ∧ k = (K, R, rSet I 195 (if fi = c + 1 + cl then vR1 (I 195) s pu (c + 1 + cl) ln else vR2 (vR1 (I 195) s pu (c + 1 + cl) ln) s c cl fi (lnx ln)))) = Q0
  have key : ∀ (l6 : Value), Ev 102 (mB 102 12) [.ref 194, .int (nI s), .int pu, .int (nI (c + 1 + cl)), .int (nI (fB (vBd (I 195) s pu (c + 1 + cl)) (c + 1 + cl) 0)), .int (nI 0), l6] [] (K, R, rSet I 195 (vSt (I 195) s pu (c + 1 + cl) 0)) Q0 := by
    refine loop_dn (n := c + 1 + cl) (P := fun k => ∀ (l6 : Value), Ev 102 (mB 102 12) [.ref 194, .int (nI s), .int pu, .int (nI (c + 1 + cl)), .int (nI (fB (vBd (I 195) s pu (c + 1 + cl)) (c + 1 + cl) k)), .int (nI k), l6] [] (K, R, rSet I 195 (vSt (I 195) s pu (c + 1 + cl) k)) Q0) ?_ ?_
    · intro k hk hnext l6
      have hnext := hnext (.int (vLn (I 195) s pu (c + 1 + cl) k))
      have hb := (fB_le (vBd (I 195) s pu (c + 1 + cl)) (c + 1 + cl) k (by omega)).1
      have hI : rSet I 195 (vSt (I 195) s pu (c + 1 + cl) (k + 1)) = mSet (rSet I 195 (vSt (I 195) s pu (c + 1 + cl) k)) 195 (98 * s + (4 + k)) (vLn (I 195) s pu (c + 1 + cl) k) := by
        rw [rs_m]
        congr 1
        funext x
        simp only [vU]
        by_cases d : x = 98 * s + (4 + k)
        · subst d
          rw [if_pos rfl, vSt, if_pos (by omega), show 98 * s + (4 + k) - (98 * s + 4) = k by omega]
        · rw [if_neg d, vSt, vSt]
          by_cases d2 : 98 * s + 4 ≤ x ∧ x < 98 * s + 4 + k
          · rw [if_pos d2, if_pos (by omega)]
          · rw [if_neg d2, if_neg (by omega)]
      rw [hI] at hnext
      have g0 : ∀ x, ¬ (98 * s + 4 ≤ x ∧ x < 98 * s + 4 + k) → rSet I 195 (vSt (I 195) s pu (c + 1 + cl) k) 195 x = I 195 x := fun x hx => by rw [rSet_s, vSt_o hx]
      have hf' : vF (rSet I 195 (vSt (I 195) s pu (c + 1 + cl) k) 195) s p cl c := ⟨by rw [g0 _ (by omega)]; exact f1, by rw [g0 _ (by omega)]; exact f2, by rw [g0 _ (by omega)]; exact f3, f4, f5, f6⟩
      have hru' : rSet I 195 (vSt (I 195) s pu (c + 1 + cl) k) 195 588 = nI ru := by rw [g0 _ (by omega)]; exact hru
      have g1 : rSet I 195 (vSt (I 195) s pu (c + 1 + cl) k) 195 (98 * s + (4 + k)) = I 195 (98 * s + (4 + k)) := g0 _ (by omega)
      have g2 : rSet I 195 (vSt (I 195) s pu (c + 1 + cl) k) 195 (98 * s + (36 + k)) = I 195 (98 * s + (36 + k)) := g0 _ (by omega)
      have g3 : rSet I 195 (vSt (I 195) s pu (c + 1 + cl) k) 195 589 = I 195 589 := g0 _ (by omega)
      have g4 : rSet I 195 (vSt (I 195) s pu (c + 1 + cl) k) 195 588 = I 195 588 := g0 _ (by omega)
      generalize rSet I 195 (vSt (I 195) s pu (c + 1 + cl) k) = J at hnext hf' hru' g1 g2 g3 g4 ⊢
      obtain ⟨ff, hff⟩ : ∃ ff : Nat, fB (vBd (I 195) s pu (c + 1 + cl)) (c + 1 + cl) k = ff := ⟨_, rfl⟩
      rw [hff] at hb ⊢
      have hln' : vLn (I 195) s pu (c + 1 + cl) k = I 195 (98 * s + (4 + k)) + I 195 (98 * s + (4 + k)) * vStr (I 195 588) pu (nI k) (nI (c + 1 + cl)) / 10000 := rfl
      rw [B_102_12]
      simp (disch := omega) only [e_iconst, e_bipush, e_sipush, e_iload_n, e_iload, e_aload_n, e_aload, e_istore_n, e_istore, e_astore_n, e_astore, e_iinc, e_iadd, e_isub, e_imul, e_iand, e_ishr, e_idiv, e_i2c, e_dup_i, e_dup_r, e_dup2, e_pop, e_goto, e_nop, e_if_eq, e_if_ne, e_if_lt, e_if_ge, e_if_gt, e_if_le, e_icmp_eq, e_icmp_ne, e_icmp_lt, e_icmp_ge, e_icmp_gt, e_icmp_le, e_tsw, e_ret0, e_ret1, e_retn, e_getI, e_getZ, e_getR, e_getV, e_getC, e_putI, e_putZ, e_putF, e_gst0, e_gst1, e_sld, e_iald, e_cald, e_bald, e_iast, e_cast, e_aald, e_aast, e_alen, e_slen, e_blen, e_newa, e_newq, e_new, e_oinit, e_ctor, e_virt, e_stat, e_min, e_copy, e_ldc, List.cons_append, List.nil_append, List.append_nil, List.length_cons, List.length_nil, List.replicate_succ, List.replicate_zero, List.getElem?_cons_zero, List.getElem?_cons_succ, List.set_cons_zero, List.set_cons_succ, List.take_succ_cons, List.take_zero, List.drop_succ_cons, List.drop_zero, List.reverse_cons, List.reverse_nil, Option.toList_some, Option.toList_none, Nat.reduceSub, Nat.reduceAdd, Nat.reduceLeDiff, true_and, and_true, and_self, Option.some.injEq, exists_eq_left', Nat.zero_add, Value.int.injEq, Value.ref.injEq, List.cons.injEq, exists_and_left, and_assoc, exists_eq_left, bk_102_12, h0, h1, h2, n_le, if_neg, o_add_r, C_91, C_92, C_101, r_ofN h hs, r_putsN h hs, r_stretch h hs hf' hru' hru2, g1, g2, g3, g4, o_in, o_cl, s_ne, o_eq, n_eq, ← hln', if_pos, if_neg, not_true_eq_false, not_false_eq_true, or_true, true_or, or_false, false_or, false_and, and_false, Nat.reduceEqDiff, Nat.reduceLT, Nat.reduceMul, Nat.not_lt_zero, Nat.zero_le, Nat.le_refl, ne_eq, reduceIte, reduceCtorEq]
      by_cases e : ff = c + 1 + cl
      · rw [if_neg (by simp [e])]
        by_cases e2 : vLn (I 195) s pu (c + 1 + cl) k * 100 ≤ I 195 (98 * s + (36 + k)) * I 195 589
        · rw [if_pos e2, B_102_97]
          simp (disch := omega) only [e_iconst, e_bipush, e_sipush, e_iload_n, e_iload, e_aload_n, e_aload, e_istore_n, e_istore, e_astore_n, e_astore, e_iinc, e_iadd, e_isub, e_imul, e_iand, e_ishr, e_idiv, e_i2c, e_dup_i, e_dup_r, e_dup2, e_pop, e_goto, e_nop, e_if_eq, e_if_ne, e_if_lt, e_if_ge, e_if_gt, e_if_le, e_icmp_eq, e_icmp_ne, e_icmp_lt, e_icmp_ge, e_icmp_gt, e_icmp_le, e_tsw, e_ret0, e_ret1, e_retn, e_getI, e_getZ, e_getR, e_getV, e_getC, e_putI, e_putZ, e_putF, e_gst0, e_gst1, e_sld, e_iald, e_cald, e_bald, e_iast, e_cast, e_aald, e_aast, e_alen, e_slen, e_blen, e_newa, e_newq, e_new, e_oinit, e_ctor, e_virt, e_stat, e_min, e_copy, e_ldc, List.cons_append, List.nil_append, List.append_nil, List.length_cons, List.length_nil, List.replicate_succ, List.replicate_zero, List.getElem?_cons_zero, List.getElem?_cons_succ, List.set_cons_zero, List.set_cons_succ, List.take_succ_cons, List.take_zero, List.drop_succ_cons, List.drop_zero, List.reverse_cons, List.reverse_nil, Option.toList_some, Option.toList_none, Nat.reduceSub, Nat.reduceAdd, Nat.reduceLeDiff, true_and, and_true, and_self, Option.some.injEq, exists_eq_left', Nat.zero_add, Value.int.injEq, Value.ref.injEq, List.cons.injEq, exists_and_left, and_assoc, exists_eq_left, bk_102_97, o_add_l, if_pos, if_neg, not_true_eq_false, not_false_eq_true, or_true, true_or, or_false, false_or, false_and, and_false, Nat.reduceEqDiff, Nat.reduceLT, Nat.reduceMul, Nat.not_lt_zero, Nat.zero_le, Nat.le_refl, ne_eq, reduceIte, reduceCtorEq]
          refine Ev_cg rfl ?_ hnext
          simp [fB, hff, e, vBd, e2]
        · rw [if_neg e2, B_102_97]
          simp (disch := omega) only [e_iconst, e_bipush, e_sipush, e_iload_n, e_iload, e_aload_n, e_aload, e_istore_n, e_istore, e_astore_n, e_astore, e_iinc, e_iadd, e_isub, e_imul, e_iand, e_ishr, e_idiv, e_i2c, e_dup_i, e_dup_r, e_dup2, e_pop, e_goto, e_nop, e_if_eq, e_if_ne, e_if_lt, e_if_ge, e_if_gt, e_if_le, e_icmp_eq, e_icmp_ne, e_icmp_lt, e_icmp_ge, e_icmp_gt, e_icmp_le, e_tsw, e_ret0, e_ret1, e_retn, e_getI, e_getZ, e_getR, e_getV, e_getC, e_putI, e_putZ, e_putF, e_gst0, e_gst1, e_sld, e_iald, e_cald, e_bald, e_iast, e_cast, e_aald, e_aast, e_alen, e_slen, e_blen, e_newa, e_newq, e_new, e_oinit, e_ctor, e_virt, e_stat, e_min, e_copy, e_ldc, List.cons_append, List.nil_append, List.append_nil, List.length_cons, List.length_nil, List.replicate_succ, List.replicate_zero, List.getElem?_cons_zero, List.getElem?_cons_succ, List.set_cons_zero, List.set_cons_succ, List.take_succ_cons, List.take_zero, List.drop_succ_cons, List.drop_zero, List.reverse_cons, List.reverse_nil, Option.toList_some, Option.toList_none, Nat.reduceSub, Nat.reduceAdd, Nat.reduceLeDiff, true_and, and_true, and_self, Option.some.injEq, exists_eq_left', Nat.zero_add, Value.int.injEq, Value.ref.injEq, List.cons.injEq, exists_and_left, and_assoc, exists_eq_left, bk_102_97, o_add_l, if_pos, if_neg, not_true_eq_false, not_false_eq_true, or_true, true_or, or_false, false_or, false_and, and_false, Nat.reduceEqDiff, Nat.reduceLT, Nat.reduceMul, Nat.not_lt_zero, Nat.zero_le, Nat.le_refl, ne_eq, reduceIte, reduceCtorEq]
          refine Ev_cg rfl ?_ hnext
          simp [fB, hff, e, vBd, e2]
      · rw [if_pos (by simp [e]), B_102_97]
        simp (disch := omega) only [e_iconst, e_bipush, e_sipush, e_iload_n, e_iload, e_aload_n, e_aload, e_istore_n, e_istore, e_astore_n, e_astore, e_iinc, e_iadd, e_isub, e_imul, e_iand, e_ishr, e_idiv, e_i2c, e_dup_i, e_dup_r, e_dup2, e_pop, e_goto, e_nop, e_if_eq, e_if_ne, e_if_lt, e_if_ge, e_if_gt, e_if_le, e_icmp_eq, e_icmp_ne, e_icmp_lt, e_icmp_ge, e_icmp_gt, e_icmp_le, e_tsw, e_ret0, e_ret1, e_retn, e_getI, e_getZ, e_getR, e_getV, e_getC, e_putI, e_putZ, e_putF, e_gst0, e_gst1, e_sld, e_iald, e_cald, e_bald, e_iast, e_cast, e_aald, e_aast, e_alen, e_slen, e_blen, e_newa, e_newq, e_new, e_oinit, e_ctor, e_virt, e_stat, e_min, e_copy, e_ldc, List.cons_append, List.nil_append, List.append_nil, List.length_cons, List.length_nil, List.replicate_succ, List.replicate_zero, List.getElem?_cons_zero, List.getElem?_cons_succ, List.set_cons_zero, List.set_cons_succ, List.take_succ_cons, List.take_zero, List.drop_succ_cons, List.drop_zero, List.reverse_cons, List.reverse_nil, Option.toList_some, Option.toList_none, Nat.reduceSub, Nat.reduceAdd, Nat.reduceLeDiff, true_and, and_true, and_self, Option.some.injEq, exists_eq_left', Nat.zero_add, Value.int.injEq, Value.ref.injEq, List.cons.injEq, exists_and_left, and_assoc, exists_eq_left, bk_102_97, o_add_l, if_pos, if_neg, not_true_eq_false, not_false_eq_true, or_true, true_or, or_false, false_or, false_and, and_false, Nat.reduceEqDiff, Nat.reduceLT, Nat.reduceMul, Nat.not_lt_zero, Nat.zero_le, Nat.le_refl, ne_eq, reduceIte, reduceCtorEq]
        refine Ev_cg rfl ?_ hnext
        simp [fB, hff, e]
    · intro l6
      rw [hfi, B_102_12]
      have hb := (fB_le (vBd (I 195) s pu (c + 1 + cl)) (c + 1 + cl) (c + 1 + cl) (by omega))
      rw [hfi] at hb
      have hb1 := hb.1
      have g0 : ∀ x, ¬ (98 * s + 4 ≤ x ∧ x < 98 * s + 4 + (c + 1 + cl)) → vSt (I 195) s pu (c + 1 + cl) (c + 1 + cl) x = I 195 x := fun x hx => vSt_o hx
      have hR1 : vR1 (I 195) s pu (c + 1 + cl) ln = vTl (vU (vU (vU (vSt (I 195) s pu (c + 1 + cl) (c + 1 + cl)) (98 * s + 3) (I 195 (98 * s + 3) + 1)) 590 (I 195 590 + (10 - pu))) 592 (I 195 592 + 1)) ln 1 (nI s) pu := rfl
      have g1 := g0 (98 * s + 3) (by omega)
      have g2 := g0 590 (by omega)
      have g3 := g0 592 (by omega)
      have g4 : (vU (vU (vU (vSt (I 195) s pu (c + 1 + cl) (c + 1 + cl)) (98 * s + 3) (I 195 (98 * s + 3) + 1)) 590 (I 195 590 + (10 - pu))) 592 (I 195 592 + 1)) 595 = nI ln := by
        rw [u_ne (by omega), u_ne (by omega), u_ne (by omega), g0 _ (by omega)]; exact hln
      have hw : ∀ x, x < 595 → ¬ (98 * s + 4 ≤ x ∧ x < 98 * s + 4 + (c + 1 + cl)) → x ≠ 98 * s + 3 → x ≠ 590 → x ≠ 592 → vR1 (I 195) s pu (c + 1 + cl) ln x = I 195 x := by
        intro x x1 x2 x3 x4 x5
        rw [hR1, vTl_o x1, u_ne x5, u_ne x4, u_ne x3, g0 x x2]
      have hw5 : vR1 (I 195) s pu (c + 1 + cl) ln 595 = nI (lnx ln) := by rw [hR1]; exact vTl_n g4 hln2
      have hlx : lnx ln ≤ 10 := by unfold lnx; split <;> omega
      have tl : ∀ {Q1 : Option Value → mH → Prop}, EvM 96 [.ref 194, .int 1, .int (nI s), .int pu] (K, R, rSet I 195 (vU (vU (vU (vSt (I 195) s pu (c + 1 + cl) (c + 1 + cl)) (98 * s + 3) (I 195 (98 * s + 3) + 1)) 590 (I 195 590 + (10 - pu))) 592 (I 195 592 + 1))) Q1 ↔ Q1 none (K, R, rSet I 195 (vR1 (I 195) s pu (c + 1 + cl) ln)) := by
        intro Q1
        rw [r_tells (n := ln) h (by rw [rSet_s]; exact g4) hln2, rs_rs, rSet_s, hR1]
      simp (disch := omega) only [e_iconst, e_bipush, e_sipush, e_iload_n, e_iload, e_aload_n, e_aload, e_istore_n, e_istore, e_astore_n, e_astore, e_iinc, e_iadd, e_isub, e_imul, e_iand, e_ishr, e_idiv, e_i2c, e_dup_i, e_dup_r, e_dup2, e_pop, e_goto, e_nop, e_if_eq, e_if_ne, e_if_lt, e_if_ge, e_if_gt, e_if_le, e_icmp_eq, e_icmp_ne, e_icmp_lt, e_icmp_ge, e_icmp_gt, e_icmp_le, e_tsw, e_ret0, e_ret1, e_retn, e_getI, e_getZ, e_getR, e_getV, e_getC, e_putI, e_putZ, e_putF, e_gst0, e_gst1, e_sld, e_iald, e_cald, e_bald, e_iast, e_cast, e_aald, e_aast, e_alen, e_slen, e_blen, e_newa, e_newq, e_new, e_oinit, e_ctor, e_virt, e_stat, e_min, e_copy, e_ldc, List.cons_append, List.nil_append, List.append_nil, List.length_cons, List.length_nil, List.replicate_succ, List.replicate_zero, List.getElem?_cons_zero, List.getElem?_cons_succ, List.set_cons_zero, List.set_cons_succ, List.take_succ_cons, List.take_zero, List.drop_succ_cons, List.drop_zero, List.reverse_cons, List.reverse_nil, Option.toList_some, Option.toList_none, Nat.reduceSub, Nat.reduceAdd, Nat.reduceLeDiff, true_and, and_true, and_self, Option.some.injEq, exists_eq_left', Nat.zero_add, Value.int.injEq, Value.ref.injEq, List.cons.injEq, exists_and_left, and_assoc, exists_eq_left, bk_102_12, n_le, if_pos, Nat.le_refl, if_pos, if_neg, not_true_eq_false, not_false_eq_true, or_true, true_or, or_false, false_or, false_and, and_false, Nat.reduceEqDiff, Nat.reduceLT, Nat.reduceMul, Nat.not_lt_zero, Nat.zero_le, Nat.le_refl, ne_eq, reduceIte, reduceCtorEq]
      rw [B_102_103]
      simp (disch := omega) only [e_iconst, e_bipush, e_sipush, e_iload_n, e_iload, e_aload_n, e_aload, e_istore_n, e_istore, e_astore_n, e_astore, e_iinc, e_iadd, e_isub, e_imul, e_iand, e_ishr, e_idiv, e_i2c, e_dup_i, e_dup_r, e_dup2, e_pop, e_goto, e_nop, e_if_eq, e_if_ne, e_if_lt, e_if_ge, e_if_gt, e_if_le, e_icmp_eq, e_icmp_ne, e_icmp_lt, e_icmp_ge, e_icmp_gt, e_icmp_le, e_tsw, e_ret0, e_ret1, e_retn, e_getI, e_getZ, e_getR, e_getV, e_getC, e_putI, e_putZ, e_putF, e_gst0, e_gst1, e_sld, e_iald, e_cald, e_bald, e_iast, e_cast, e_aald, e_aast, e_alen, e_slen, e_blen, e_newa, e_newq, e_new, e_oinit, e_ctor, e_virt, e_stat, e_min, e_copy, e_ldc, List.cons_append, List.nil_append, List.append_nil, List.length_cons, List.length_nil, List.replicate_succ, List.replicate_zero, List.getElem?_cons_zero, List.getElem?_cons_succ, List.set_cons_zero, List.set_cons_succ, List.take_succ_cons, List.take_zero, List.drop_succ_cons, List.drop_zero, List.reverse_cons, List.reverse_nil, Option.toList_some, Option.toList_none, Nat.reduceSub, Nat.reduceAdd, Nat.reduceLeDiff, true_and, and_true, and_self, Option.some.injEq, exists_eq_left', Nat.zero_add, Value.int.injEq, Value.ref.injEq, List.cons.injEq, exists_and_left, and_assoc, exists_eq_left, bk_102_103, h0, h1, h2, C_91, C_92, C_96, r_ofL h hs, r_putsL h hs, o_in, o_cl, rSet_s, rs_m, u_ne, u_eq, g1, g2, g3, tl, n_eq, if_pos, if_neg, not_true_eq_false, not_false_eq_true, or_true, true_or, or_false, false_or, false_and, and_false, Nat.reduceEqDiff, Nat.reduceLT, Nat.reduceMul, Nat.not_lt_zero, Nat.zero_le, Nat.le_refl, ne_eq, reduceIte, reduceCtorEq]
      rw [← hQ]
      have hone : fi = c + 1 + cl ∨ fi < c + 1 + cl := by omega
      rcases hone with e | e
      · rw [if_neg (by simp [e])]
        exact ⟨by rw [if_pos e], by rw [if_pos e]⟩
      · rw [if_pos (by omega), B_102_159]
        have e' : ¬ fi = c + 1 + cl := by omega
        rw [if_neg e', if_neg e']
        generalize hW : vR1 (I 195) s pu (c + 1 + cl) ln = W at hw hw5 ⊢
        have w1 : W (98 * s + 1) = nI cl := by rw [hw _ (by omega) (by omega) (by omega) (by omega) (by omega)]; exact f2
        have w2 : W (98 * s + 2) = nI c := by rw [hw _ (by omega) (by omega) (by omega) (by omega) (by omega)]; exact f3
        obtain ⟨lf, hlf⟩ : ∃ lf : Nat, (if fi = 0 then 0 else fi - 1) = lf := ⟨_, rfl⟩
        have hlf2 : lf ≤ c := by rw [← hlf]; split <;> omega
        generalize hQ1 : (fun (v : Option Value) (k : mH) => v = some (Value.int 1) ∧ k = (K, R, rSet I 195 (vR2 W s c cl fi (lnx ln)))) = Q1
        have fin : ∀ (X : Int32), X = (if fi = c + cl ∧ cl = 1 then 0 else nI (c - lf)) → Ev 102 (mB 102 226) [.ref 194, .int (nI s), .int pu, .int (nI (c + 1 + cl)), .int (nI fi), .int (nI lf), l6] [.int X, .int (W 594), .int 594, .ref 195] (K, R, rSet I 195 (vU W 593 (W 593 + 1))) Q1 := by
          intro X hX
          have t1 : vU (vU W 593 (W 593 + 1)) 594 (W 594 + X) 595 = nI (lnx ln) := by rw [u_ne (by omega), u_ne (by omega)]; exact hw5
          have tl2 : ∀ {Q2 : Option Value → mH → Prop}, EvM 96 [.ref 194, .int 2, .int (nI s), .int (nI (c + 1 + cl - fi))] (K, R, rSet I 195 (vU (vU W 593 (W 593 + 1)) 594 (W 594 + X))) Q2 ↔ Q2 none (K, R, rSet I 195 (vTl (vU (vU W 593 (W 593 + 1)) 594 (W 594 + X)) (lnx ln) 2 (nI s) (nI (c + 1 + cl - fi)))) := by
            intro Q2
            rw [r_tells (n := lnx ln) h (by rw [rSet_s]; exact t1) hlx, rs_rs, rSet_s]
          have t2 : vTl (vU (vU W 593 (W 593 + 1)) 594 (W 594 + X)) (lnx ln) 2 (nI s) (nI (c + 1 + cl - fi)) (98 * s + 2) = nI c := by rw [vTl_o (by omega), u_ne (by omega), u_ne (by omega)]; exact w2
          rw [B_102_226]
          simp (disch := omega) only [e_iconst, e_bipush, e_sipush, e_iload_n, e_iload, e_aload_n, e_aload, e_istore_n, e_istore, e_astore_n, e_astore, e_iinc, e_iadd, e_isub, e_imul, e_iand, e_ishr, e_idiv, e_i2c, e_dup_i, e_dup_r, e_dup2, e_pop, e_goto, e_nop, e_if_eq, e_if_ne, e_if_lt, e_if_ge, e_if_gt, e_if_le, e_icmp_eq, e_icmp_ne, e_icmp_lt, e_icmp_ge, e_icmp_gt, e_icmp_le, e_tsw, e_ret0, e_ret1, e_retn, e_getI, e_getZ, e_getR, e_getV, e_getC, e_putI, e_putZ, e_putF, e_gst0, e_gst1, e_sld, e_iald, e_cald, e_bald, e_iast, e_cast, e_aald, e_aast, e_alen, e_slen, e_blen, e_newa, e_newq, e_new, e_oinit, e_ctor, e_virt, e_stat, e_min, e_copy, e_ldc, List.cons_append, List.nil_append, List.append_nil, List.length_cons, List.length_nil, List.replicate_succ, List.replicate_zero, List.getElem?_cons_zero, List.getElem?_cons_succ, List.set_cons_zero, List.set_cons_succ, List.take_succ_cons, List.take_zero, List.drop_succ_cons, List.drop_zero, List.reverse_cons, List.reverse_nil, Option.toList_some, Option.toList_none, Nat.reduceSub, Nat.reduceAdd, Nat.reduceLeDiff, true_and, and_true, and_self, Option.some.injEq, exists_eq_left', Nat.zero_add, Value.int.injEq, Value.ref.injEq, List.cons.injEq, exists_and_left, and_assoc, exists_eq_left, bk_102_226, h0, h1, h2, o_in, o_cl, rs_m, n_sub, C_91, C_92, C_96, tl2, o_eq_l, if_pos, if_neg, not_true_eq_false, not_false_eq_true, or_true, true_or, or_false, false_or, false_and, and_false, Nat.reduceEqDiff, Nat.reduceLT, Nat.reduceMul, Nat.not_lt_zero, Nat.zero_le, Nat.le_refl, ne_eq, reduceIte, reduceCtorEq]
          have en : Ev 102 (mB 102 251) [.ref 194, .int (nI s), .int pu, .int (nI (c + 1 + cl)), .int (nI fi), .int (nI lf), l6] [.int (if fi = 0 then 0 else 1), .int 0, .int (nI s), .ref 194] (K, R, rSet I 195 (vTl (vU (vU W 593 (W 593 + 1)) 594 (W 594 + X)) (lnx ln) 2 (nI s) (nI (c + 1 + cl - fi)))) Q1 := by
            rw [B_102_251]
            simp (disch := omega) only [e_iconst, e_bipush, e_sipush, e_iload_n, e_iload, e_aload_n, e_aload, e_istore_n, e_istore, e_astore_n, e_astore, e_iinc, e_iadd, e_isub, e_imul, e_iand, e_ishr, e_idiv, e_i2c, e_dup_i, e_dup_r, e_dup2, e_pop, e_goto, e_nop, e_if_eq, e_if_ne, e_if_lt, e_if_ge, e_if_gt, e_if_le, e_icmp_eq, e_icmp_ne, e_icmp_lt, e_icmp_ge, e_icmp_gt, e_icmp_le, e_tsw, e_ret0, e_ret1, e_retn, e_getI, e_getZ, e_getR, e_getV, e_getC, e_putI, e_putZ, e_putF, e_gst0, e_gst1, e_sld, e_iald, e_cald, e_bald, e_iast, e_cast, e_aald, e_aast, e_alen, e_slen, e_blen, e_newa, e_newq, e_new, e_oinit, e_ctor, e_virt, e_stat, e_min, e_copy, e_ldc, List.cons_append, List.nil_append, List.append_nil, List.length_cons, List.length_nil, List.replicate_succ, List.replicate_zero, List.getElem?_cons_zero, List.getElem?_cons_succ, List.set_cons_zero, List.set_cons_succ, List.take_succ_cons, List.take_zero, List.drop_succ_cons, List.drop_zero, List.reverse_cons, List.reverse_nil, Option.toList_some, Option.toList_none, Nat.reduceSub, Nat.reduceAdd, Nat.reduceLeDiff, true_and, and_true, and_self, Option.some.injEq, exists_eq_left', Nat.zero_add, Value.int.injEq, Value.ref.injEq, List.cons.injEq, exists_and_left, and_assoc, exists_eq_left, bk_102_251, h0, C_91, C_92, r_putsL h hs, r_ofL h hs, Nat.add_zero, rSet_s, rs_m, u_ne, u_eq, t2, n_le, if_pos, if_neg, not_true_eq_false, not_false_eq_true, or_true, true_or, or_false, false_or, false_and, and_false, Nat.reduceEqDiff, Nat.reduceLT, Nat.reduceMul, Nat.not_lt_zero, Nat.zero_le, Nat.le_refl, ne_eq, reduceIte, reduceCtorEq]
            by_cases d : fi ≤ c
            · rw [if_pos d, B_102_284]
              simp (disch := omega) only [e_iconst, e_bipush, e_sipush, e_iload_n, e_iload, e_aload_n, e_aload, e_istore_n, e_istore, e_astore_n, e_astore, e_iinc, e_iadd, e_isub, e_imul, e_iand, e_ishr, e_idiv, e_i2c, e_dup_i, e_dup_r, e_dup2, e_pop, e_goto, e_nop, e_if_eq, e_if_ne, e_if_lt, e_if_ge, e_if_gt, e_if_le, e_icmp_eq, e_icmp_ne, e_icmp_lt, e_icmp_ge, e_icmp_gt, e_icmp_le, e_tsw, e_ret0, e_ret1, e_retn, e_getI, e_getZ, e_getR, e_getV, e_getC, e_putI, e_putZ, e_putF, e_gst0, e_gst1, e_sld, e_iald, e_cald, e_bald, e_iast, e_cast, e_aald, e_aast, e_alen, e_slen, e_blen, e_newa, e_newq, e_new, e_oinit, e_ctor, e_virt, e_stat, e_min, e_copy, e_ldc, List.cons_append, List.nil_append, List.append_nil, List.length_cons, List.length_nil, List.replicate_succ, List.replicate_zero, List.getElem?_cons_zero, List.getElem?_cons_succ, List.set_cons_zero, List.set_cons_succ, List.take_succ_cons, List.take_zero, List.drop_succ_cons, List.drop_zero, List.reverse_cons, List.reverse_nil, Option.toList_some, Option.toList_none, Nat.reduceSub, Nat.reduceAdd, Nat.reduceLeDiff, true_and, and_true, and_self, Option.some.injEq, exists_eq_left', Nat.zero_add, Value.int.injEq, Value.ref.injEq, List.cons.injEq, exists_and_left, and_assoc, exists_eq_left, bk_102_284, if_pos, if_neg, not_true_eq_false, not_false_eq_true, or_true, true_or, or_false, false_or, false_and, and_false, Nat.reduceEqDiff, Nat.reduceLT, Nat.reduceMul, Nat.not_lt_zero, Nat.zero_le, Nat.le_refl, ne_eq, reduceIte, reduceCtorEq]
              rw [B_102_286]
              simp (disch := omega) only [e_iconst, e_bipush, e_sipush, e_iload_n, e_iload, e_aload_n, e_aload, e_istore_n, e_istore, e_astore_n, e_astore, e_iinc, e_iadd, e_isub, e_imul, e_iand, e_ishr, e_idiv, e_i2c, e_dup_i, e_dup_r, e_dup2, e_pop, e_goto, e_nop, e_if_eq, e_if_ne, e_if_lt, e_if_ge, e_if_gt, e_if_le, e_icmp_eq, e_icmp_ne, e_icmp_lt, e_icmp_ge, e_icmp_gt, e_icmp_le, e_tsw, e_ret0, e_ret1, e_retn, e_getI, e_getZ, e_getR, e_getV, e_getC, e_putI, e_putZ, e_putF, e_gst0, e_gst1, e_sld, e_iald, e_cald, e_bald, e_iast, e_cast, e_aald, e_aast, e_alen, e_slen, e_blen, e_newa, e_newq, e_new, e_oinit, e_ctor, e_virt, e_stat, e_min, e_copy, e_ldc, List.cons_append, List.nil_append, List.append_nil, List.length_cons, List.length_nil, List.replicate_succ, List.replicate_zero, List.getElem?_cons_zero, List.getElem?_cons_succ, List.set_cons_zero, List.set_cons_succ, List.take_succ_cons, List.take_zero, List.drop_succ_cons, List.drop_zero, List.reverse_cons, List.reverse_nil, Option.toList_some, Option.toList_none, Nat.reduceSub, Nat.reduceAdd, Nat.reduceLeDiff, true_and, and_true, and_self, Option.some.injEq, exists_eq_left', Nat.zero_add, Value.int.injEq, Value.ref.injEq, List.cons.injEq, exists_and_left, and_assoc, exists_eq_left, bk_102_286, h0, C_92, r_putsL h hs, rs_m, if_pos, if_neg, not_true_eq_false, not_false_eq_true, or_true, true_or, or_false, false_or, false_and, and_false, Nat.reduceEqDiff, Nat.reduceLT, Nat.reduceMul, Nat.not_lt_zero, Nat.zero_le, Nat.le_refl, ne_eq, reduceIte, reduceCtorEq]
              rw [← hQ1]
              refine ⟨rfl, ?_⟩
              rw [vR2, hlf, if_neg (show ¬ c < fi by omega), hX]
            · rw [if_neg d, B_102_286]
              simp (disch := omega) only [e_iconst, e_bipush, e_sipush, e_iload_n, e_iload, e_aload_n, e_aload, e_istore_n, e_istore, e_astore_n, e_astore, e_iinc, e_iadd, e_isub, e_imul, e_iand, e_ishr, e_idiv, e_i2c, e_dup_i, e_dup_r, e_dup2, e_pop, e_goto, e_nop, e_if_eq, e_if_ne, e_if_lt, e_if_ge, e_if_gt, e_if_le, e_icmp_eq, e_icmp_ne, e_icmp_lt, e_icmp_ge, e_icmp_gt, e_icmp_le, e_tsw, e_ret0, e_ret1, e_retn, e_getI, e_getZ, e_getR, e_getV, e_getC, e_putI, e_putZ, e_putF, e_gst0, e_gst1, e_sld, e_iald, e_cald, e_bald, e_iast, e_cast, e_aald, e_aast, e_alen, e_slen, e_blen, e_newa, e_newq, e_new, e_oinit, e_ctor, e_virt, e_stat, e_min, e_copy, e_ldc, List.cons_append, List.nil_append, List.append_nil, List.length_cons, List.length_nil, List.replicate_succ, List.replicate_zero, List.getElem?_cons_zero, List.getElem?_cons_succ, List.set_cons_zero, List.set_cons_succ, List.take_succ_cons, List.take_zero, List.drop_succ_cons, List.drop_zero, List.reverse_cons, List.reverse_nil, Option.toList_some, Option.toList_none, Nat.reduceSub, Nat.reduceAdd, Nat.reduceLeDiff, true_and, and_true, and_self, Option.some.injEq, exists_eq_left', Nat.zero_add, Value.int.injEq, Value.ref.injEq, List.cons.injEq, exists_and_left, and_assoc, exists_eq_left, bk_102_286, h0, C_92, r_putsL h hs, rs_m, if_pos, if_neg, not_true_eq_false, not_false_eq_true, or_true, true_or, or_false, false_or, false_and, and_false, Nat.reduceEqDiff, Nat.reduceLT, Nat.reduceMul, Nat.not_lt_zero, Nat.zero_le, Nat.le_refl, ne_eq, reduceIte, reduceCtorEq]
              rw [← hQ1]
              refine ⟨rfl, ?_⟩
              rw [vR2, hlf, if_pos (show c < fi by omega), hX, if_neg (show ¬ fi = 0 by omega)]
          by_cases d : fi = 0
          · rw [if_neg (by simp [d])]
            rw [if_pos d] at en
            exact en
          · rw [if_pos d, B_102_250]
            simp (disch := omega) only [e_iconst, e_bipush, e_sipush, e_iload_n, e_iload, e_aload_n, e_aload, e_istore_n, e_istore, e_astore_n, e_astore, e_iinc, e_iadd, e_isub, e_imul, e_iand, e_ishr, e_idiv, e_i2c, e_dup_i, e_dup_r, e_dup2, e_pop, e_goto, e_nop, e_if_eq, e_if_ne, e_if_lt, e_if_ge, e_if_gt, e_if_le, e_icmp_eq, e_icmp_ne, e_icmp_lt, e_icmp_ge, e_icmp_gt, e_icmp_le, e_tsw, e_ret0, e_ret1, e_retn, e_getI, e_getZ, e_getR, e_getV, e_getC, e_putI, e_putZ, e_putF, e_gst0, e_gst1, e_sld, e_iald, e_cald, e_bald, e_iast, e_cast, e_aald, e_aast, e_alen, e_slen, e_blen, e_newa, e_newq, e_new, e_oinit, e_ctor, e_virt, e_stat, e_min, e_copy, e_ldc, List.cons_append, List.nil_append, List.append_nil, List.length_cons, List.length_nil, List.replicate_succ, List.replicate_zero, List.getElem?_cons_zero, List.getElem?_cons_succ, List.set_cons_zero, List.set_cons_succ, List.take_succ_cons, List.take_zero, List.drop_succ_cons, List.drop_zero, List.reverse_cons, List.reverse_nil, Option.toList_some, Option.toList_none, Nat.reduceSub, Nat.reduceAdd, Nat.reduceLeDiff, true_and, and_true, and_self, Option.some.injEq, exists_eq_left', Nat.zero_add, Value.int.injEq, Value.ref.injEq, List.cons.injEq, exists_and_left, and_assoc, exists_eq_left, bk_102_250, if_pos, if_neg, not_true_eq_false, not_false_eq_true, or_true, true_or, or_false, false_or, false_and, and_false, Nat.reduceEqDiff, Nat.reduceLT, Nat.reduceMul, Nat.not_lt_zero, Nat.zero_le, Nat.le_refl, ne_eq, reduceIte, reduceCtorEq]
            rw [if_neg d] at en
            exact en
        have mid : ∀ (l5 : Value), Ev 102 (mB 102 172) [.ref 194, .int (nI s), .int pu, .int (nI (c + 1 + cl)), .int (nI fi), l5, l6] [.int (nI lf)] (K, R, rSet I 195 W) Q1 := by
          intro l5
          rw [B_102_172]
          simp (disch := omega) only [e_iconst, e_bipush, e_sipush, e_iload_n, e_iload, e_aload_n, e_aload, e_istore_n, e_istore, e_astore_n, e_astore, e_iinc, e_iadd, e_isub, e_imul, e_iand, e_ishr, e_idiv, e_i2c, e_dup_i, e_dup_r, e_dup2, e_pop, e_goto, e_nop, e_if_eq, e_if_ne, e_if_lt, e_if_ge, e_if_gt, e_if_le, e_icmp_eq, e_icmp_ne, e_icmp_lt, e_icmp_ge, e_icmp_gt, e_icmp_le, e_tsw, e_ret0, e_ret1, e_retn, e_getI, e_getZ, e_getR, e_getV, e_getC, e_putI, e_putZ, e_putF, e_gst0, e_gst1, e_sld, e_iald, e_cald, e_bald, e_iast, e_cast, e_aald, e_aast, e_alen, e_slen, e_blen, e_newa, e_newq, e_new, e_oinit, e_ctor, e_virt, e_stat, e_min, e_copy, e_ldc, List.cons_append, List.nil_append, List.append_nil, List.length_cons, List.length_nil, List.replicate_succ, List.replicate_zero, List.getElem?_cons_zero, List.getElem?_cons_succ, List.set_cons_zero, List.set_cons_succ, List.take_succ_cons, List.take_zero, List.drop_succ_cons, List.drop_zero, List.reverse_cons, List.reverse_nil, Option.toList_some, Option.toList_none, Nat.reduceSub, Nat.reduceAdd, Nat.reduceLeDiff, true_and, and_true, and_self, Option.some.injEq, exists_eq_left', Nat.zero_add, Value.int.injEq, Value.ref.injEq, List.cons.injEq, exists_and_left, and_assoc, exists_eq_left, bk_102_172, h0, h1, h2, o_in, o_cl, rSet_s, rs_m, u_ne, o_sub_l, n_eq, C_91, r_ofL h hs, w1, o_eq_l, if_pos, if_neg, not_true_eq_false, not_false_eq_true, or_true, true_or, or_false, false_or, false_and, and_false, Nat.reduceEqDiff, Nat.reduceLT, Nat.reduceMul, Nat.not_lt_zero, Nat.zero_le, Nat.le_refl, ne_eq, reduceIte, reduceCtorEq]
          by_cases d1 : fi = c + cl
          · rw [if_neg (by omega)]
            by_cases d2 : cl = 1
            · rw [if_neg (by simp [d2])]
              exact fin 0 (by rw [if_pos ⟨d1, d2⟩])
            · rw [if_pos d2, B_102_217]
              simp (disch := omega) only [e_iconst, e_bipush, e_sipush, e_iload_n, e_iload, e_aload_n, e_aload, e_istore_n, e_istore, e_astore_n, e_astore, e_iinc, e_iadd, e_isub, e_imul, e_iand, e_ishr, e_idiv, e_i2c, e_dup_i, e_dup_r, e_dup2, e_pop, e_goto, e_nop, e_if_eq, e_if_ne, e_if_lt, e_if_ge, e_if_gt, e_if_le, e_icmp_eq, e_icmp_ne, e_icmp_lt, e_icmp_ge, e_icmp_gt, e_icmp_le, e_tsw, e_ret0, e_ret1, e_retn, e_getI, e_getZ, e_getR, e_getV, e_getC, e_putI, e_putZ, e_putF, e_gst0, e_gst1, e_sld, e_iald, e_cald, e_bald, e_iast, e_cast, e_aald, e_aast, e_alen, e_slen, e_blen, e_newa, e_newq, e_new, e_oinit, e_ctor, e_virt, e_stat, e_min, e_copy, e_ldc, List.cons_append, List.nil_append, List.append_nil, List.length_cons, List.length_nil, List.replicate_succ, List.replicate_zero, List.getElem?_cons_zero, List.getElem?_cons_succ, List.set_cons_zero, List.set_cons_succ, List.take_succ_cons, List.take_zero, List.drop_succ_cons, List.drop_zero, List.reverse_cons, List.reverse_nil, Option.toList_some, Option.toList_none, Nat.reduceSub, Nat.reduceAdd, Nat.reduceLeDiff, true_and, and_true, and_self, Option.some.injEq, exists_eq_left', Nat.zero_add, Value.int.injEq, Value.ref.injEq, List.cons.injEq, exists_and_left, and_assoc, exists_eq_left, bk_102_217, h0, C_91, r_ofL h hs, rSet_s, u_ne, w2, n_sub, if_pos, if_neg, not_true_eq_false, not_false_eq_true, or_true, true_or, or_false, false_or, false_and, and_false, Nat.reduceEqDiff, Nat.reduceLT, Nat.reduceMul, Nat.not_lt_zero, Nat.zero_le, Nat.le_refl, ne_eq, reduceIte, reduceCtorEq]
              exact fin _ (by rw [if_neg (fun q => d2 q.2)])
          · rw [if_pos (by omega), B_102_217]
            simp (disch := omega) only [e_iconst, e_bipush, e_sipush, e_iload_n, e_iload, e_aload_n, e_aload, e_istore_n, e_istore, e_astore_n, e_astore, e_iinc, e_iadd, e_isub, e_imul, e_iand, e_ishr, e_idiv, e_i2c, e_dup_i, e_dup_r, e_dup2, e_pop, e_goto, e_nop, e_if_eq, e_if_ne, e_if_lt, e_if_ge, e_if_gt, e_if_le, e_icmp_eq, e_icmp_ne, e_icmp_lt, e_icmp_ge, e_icmp_gt, e_icmp_le, e_tsw, e_ret0, e_ret1, e_retn, e_getI, e_getZ, e_getR, e_getV, e_getC, e_putI, e_putZ, e_putF, e_gst0, e_gst1, e_sld, e_iald, e_cald, e_bald, e_iast, e_cast, e_aald, e_aast, e_alen, e_slen, e_blen, e_newa, e_newq, e_new, e_oinit, e_ctor, e_virt, e_stat, e_min, e_copy, e_ldc, List.cons_append, List.nil_append, List.append_nil, List.length_cons, List.length_nil, List.replicate_succ, List.replicate_zero, List.getElem?_cons_zero, List.getElem?_cons_succ, List.set_cons_zero, List.set_cons_succ, List.take_succ_cons, List.take_zero, List.drop_succ_cons, List.drop_zero, List.reverse_cons, List.reverse_nil, Option.toList_some, Option.toList_none, Nat.reduceSub, Nat.reduceAdd, Nat.reduceLeDiff, true_and, and_true, and_self, Option.some.injEq, exists_eq_left', Nat.zero_add, Value.int.injEq, Value.ref.injEq, List.cons.injEq, exists_and_left, and_assoc, exists_eq_left, bk_102_217, h0, C_91, r_ofL h hs, rSet_s, u_ne, w2, n_sub, if_pos, if_neg, not_true_eq_false, not_false_eq_true, or_true, true_or, or_false, false_or, false_and, and_false, Nat.reduceEqDiff, Nat.reduceLT, Nat.reduceMul, Nat.not_lt_zero, Nat.zero_le, Nat.le_refl, ne_eq, reduceIte, reduceCtorEq]
            exact fin _ (by rw [if_neg (fun q => d1 q.1)])
        simp (disch := omega) only [e_iconst, e_bipush, e_sipush, e_iload_n, e_iload, e_aload_n, e_aload, e_istore_n, e_istore, e_astore_n, e_astore, e_iinc, e_iadd, e_isub, e_imul, e_iand, e_ishr, e_idiv, e_i2c, e_dup_i, e_dup_r, e_dup2, e_pop, e_goto, e_nop, e_if_eq, e_if_ne, e_if_lt, e_if_ge, e_if_gt, e_if_le, e_icmp_eq, e_icmp_ne, e_icmp_lt, e_icmp_ge, e_icmp_gt, e_icmp_le, e_tsw, e_ret0, e_ret1, e_retn, e_getI, e_getZ, e_getR, e_getV, e_getC, e_putI, e_putZ, e_putF, e_gst0, e_gst1, e_sld, e_iald, e_cald, e_bald, e_iast, e_cast, e_aald, e_aast, e_alen, e_slen, e_blen, e_newa, e_newq, e_new, e_oinit, e_ctor, e_virt, e_stat, e_min, e_copy, e_ldc, List.cons_append, List.nil_append, List.append_nil, List.length_cons, List.length_nil, List.replicate_succ, List.replicate_zero, List.getElem?_cons_zero, List.getElem?_cons_succ, List.set_cons_zero, List.set_cons_succ, List.take_succ_cons, List.take_zero, List.drop_succ_cons, List.drop_zero, List.reverse_cons, List.reverse_nil, Option.toList_some, Option.toList_none, Nat.reduceSub, Nat.reduceAdd, Nat.reduceLeDiff, true_and, and_true, and_self, Option.some.injEq, exists_eq_left', Nat.zero_add, Value.int.injEq, Value.ref.injEq, List.cons.injEq, exists_and_left, and_assoc, exists_eq_left, bk_102_159, o_eq_l, if_pos, if_neg, not_true_eq_false, not_false_eq_true, or_true, true_or, or_false, false_or, false_and, and_false, Nat.reduceEqDiff, Nat.reduceLT, Nat.reduceMul, Nat.not_lt_zero, Nat.zero_le, Nat.le_refl, ne_eq, reduceIte, reduceCtorEq]
        by_cases d : fi = 0
        · rw [if_neg (by simp [d])]
          rw [if_pos d] at hlf
          subst hlf
          exact mid _
        · rw [if_pos d, B_102_168]
          simp (disch := omega) only [e_iconst, e_bipush, e_sipush, e_iload_n, e_iload, e_aload_n, e_aload, e_istore_n, e_istore, e_astore_n, e_astore, e_iinc, e_iadd, e_isub, e_imul, e_iand, e_ishr, e_idiv, e_i2c, e_dup_i, e_dup_r, e_dup2, e_pop, e_goto, e_nop, e_if_eq, e_if_ne, e_if_lt, e_if_ge, e_if_gt, e_if_le, e_icmp_eq, e_icmp_ne, e_icmp_lt, e_icmp_ge, e_icmp_gt, e_icmp_le, e_tsw, e_ret0, e_ret1, e_retn, e_getI, e_getZ, e_getR, e_getV, e_getC, e_putI, e_putZ, e_putF, e_gst0, e_gst1, e_sld, e_iald, e_cald, e_bald, e_iast, e_cast, e_aald, e_aast, e_alen, e_slen, e_blen, e_newa, e_newq, e_new, e_oinit, e_ctor, e_virt, e_stat, e_min, e_copy, e_ldc, List.cons_append, List.nil_append, List.append_nil, List.length_cons, List.length_nil, List.replicate_succ, List.replicate_zero, List.getElem?_cons_zero, List.getElem?_cons_succ, List.set_cons_zero, List.set_cons_succ, List.take_succ_cons, List.take_zero, List.drop_succ_cons, List.drop_zero, List.reverse_cons, List.reverse_nil, Option.toList_some, Option.toList_none, Nat.reduceSub, Nat.reduceAdd, Nat.reduceLeDiff, true_and, and_true, and_self, Option.some.injEq, exists_eq_left', Nat.zero_add, Value.int.injEq, Value.ref.injEq, List.cons.injEq, exists_and_left, and_assoc, exists_eq_left, bk_102_168, o_sub_l, if_pos, if_neg, not_true_eq_false, not_false_eq_true, or_true, true_or, or_false, false_or, false_and, and_false, Nat.reduceEqDiff, Nat.reduceLT, Nat.reduceMul, Nat.not_lt_zero, Nat.zero_le, Nat.le_refl, ne_eq, reduceIte, reduceCtorEq]
          rw [if_neg d] at hlf
          rw [hlf]
          exact mid _
  refine Ev_cg ?_ ?_ (key .null)
  · funext x j
    simp only [rSet]
    by_cases d : x = 195
    · rw [if_pos d, vSt_o (by omega), d]
    · rw [if_neg d]
  · rfl
end
section
/-! THE RELATION of a class state with a row of the reference; the class's states -/
def okG (x y : Int32) : Prop := ∃ m n : Nat, x = nI m ∧ y = nI n ∧ 2000 ≤ n ∧ n ≤ 9000 ∧ n ≤ m ∧ m ≤ 2 * n
def rW (I : Nat → Nat → Int32) (a : Nat) (v : Nat → Int32) (s p cl c : Nat) : Prop :=
  wF I a p cl c ∧ vF v s p cl c ∧ (p = 0 → cl = 0 ∧ c = 0) ∧ (p = 1 → I a 6 = v (98 * s + 3)) ∧ (p = 1 → I (a + 3) 0 = -1) ∧
  (∀ k, k < ngp p cl c → I (a + 1) k = v (98 * s + (4 + k)) ∧ I (a + 2) k = v (98 * s + (36 + k)) ∧ okG (v (98 * s + (4 + k))) (v (98 * s + (36 + k)))) ∧
  (∀ i, i < c → I (a + 3) (i + 1) = v (98 * s + (68 + i)) ∧ ∃ t, t < 8 ∧ v (98 * s + (68 + i)) = nI t) ∧ (cl = 1 → I (a + 3) (c + 1) = -1)
theorem rW_cong {I I' : Nat → Nat → Int32} {a a' s p cl c : Nat} {v v' : Nat → Int32} (h : rW I a v s p cl c) (hI : ∀ d j, d < 4 → (d = 0 → 3 ≤ j ∧ j ≤ 6) → j < 32 → I' (a' + d) j = I (a + d) j) (hv : ∀ x, 98 * s ≤ x → x < 98 * s + 98 → v' x = v x) : rW I' a' v' s p cl c := by
  obtain ⟨⟨f1, f2, f3, f4, f5, f6⟩, ⟨g1, g2, g3, -⟩, h3, h4, h5, h6, h7, h8⟩ := h
  have i0 : ∀ j, 3 ≤ j → j ≤ 6 → I' a' j = I a j := fun j j1 j2 => hI 0 j (by omega) (fun _ => ⟨j1, j2⟩) (by omega)
  have i1 : ∀ d j, d < 4 → d ≠ 0 → j < 32 → I' (a' + d) j = I (a + d) j := fun d j d1 d2 j1 => hI d j d1 (fun q => absurd q d2) j1
  have hn := ngp_le (p := p) f5 f6
  refine ⟨⟨by rw [i0 3 (by omega) (by omega)]; exact f1, by rw [i0 4 (by omega) (by omega)]; exact f2, by rw [i0 5 (by omega) (by omega)]; exact f3, f4, f5, f6⟩, ⟨by rw [hv _ (by omega) (by omega)]; exact g1, by rw [hv _ (by omega) (by omega)]; exact g2, by rw [hv _ (by omega) (by omega)]; exact g3, f4, f5, f6⟩, h3, fun q => ?_, fun q => ?_, fun k hk => ?_, fun i hi => ?_, fun q => ?_⟩
  · rw [i0 6 (by omega) (by omega), hv _ (by omega) (by omega)]; exact h4 q
  · rw [i1 3 0 (by omega) (by omega) (by omega)]; exact h5 q
  · rw [i1 1 k (by omega) (by omega) (by omega), i1 2 k (by omega) (by omega) (by omega), hv _ (by omega) (by omega), hv _ (by omega) (by omega)]; exact h6 k hk
  · rw [i1 3 (i + 1) (by omega) (by omega) (by omega), hv _ (by omega) (by omega)]; exact h7 i hi
  · rw [i1 3 (c + 1) (by omega) (by omega) (by omega)]; exact h8 q
/-- all but the wires -/
def rE (I : Nat → Nat → Int32) (a : Nat) (v : Nat → Int32) : Prop :=
  I a 2 = v 588 ∧ I a 3 = v 589 ∧ I a 4 = v 590 ∧ I a 5 = v 591 ∧ I a 6 = v 592 ∧ I a 7 = v 593 ∧ I a 8 = v 594 ∧ (∃ ru, ru ≤ 2 ∧ v 588 = nI ru) ∧ (∃ lm, 101 ≤ lm ∧ lm ≤ 200 ∧ v 589 = nI lm) ∧
  ∃ n, n ≤ 10 ∧ I (a + 2) 3 = nI n ∧ v 595 = nI n ∧ ∀ e, e < n → I (a + 3) e = v (596 + 3 * e) ∧ I (a + 4) e = v (597 + 3 * e) ∧ I (a + 5) e = v (598 + 3 * e)
def RC (I : Nat → Nat → Int32) (a : Nat) (v : Nat → Int32) : Prop := (∀ s, s < 6 → ∃ p cl c, rW I (a + 6 + 4 * s) v s p cl c) ∧ rE I a v
/-- which fields and places count, by the offset of the cell in its state -/
def vd (d j : Nat) : Prop := (d = 0 ∧ 2 ≤ j ∧ j ≤ 8) ∨ (d = 2 ∧ j = 3) ∨ (3 ≤ d ∧ d ≤ 5 ∧ j < 10) ∨ (6 ≤ d ∧ d < 30 ∧ d % 4 = 2 ∧ 3 ≤ j ∧ j ≤ 6) ∨ (6 ≤ d ∧ d < 30 ∧ d % 4 ≠ 2 ∧ j < 32)
theorem rE_cong {I I' : Nat → Nat → Int32} {a a' : Nat} {v v' : Nat → Int32} (h : rE I a v) (hI : ∀ d j, d < 6 → vd d j → I' (a' + d) j = I (a + d) j) (hv : ∀ x, 588 ≤ x → x < 626 → v' x = v x) : rE I' a' v' := by
  obtain ⟨h1, h2, h3, h4, h5, h6, h7, ⟨ru, h8, h9⟩, ⟨lm, h10, h11, h12⟩, n, h13, h14, h15, h16⟩ := h
  have i0 : ∀ j, 2 ≤ j → j ≤ 8 → I' a' j = I a j := fun j j1 j2 => hI 0 j (by omega) (Or.inl ⟨rfl, j1, j2⟩)
  have i2 : I' (a' + 2) 3 = I (a + 2) 3 := hI 2 3 (by omega) (Or.inr (Or.inl ⟨rfl, rfl⟩))
  have i3 : ∀ d j, 3 ≤ d → d ≤ 5 → j < 10 → I' (a' + d) j = I (a + d) j := fun d j d1 d2 j1 => hI d j (by omega) (Or.inr (Or.inr (Or.inl ⟨d1, d2, j1⟩)))
  refine ⟨by rw [i0 2 (by omega) (by omega), hv _ (by omega) (by omega)]; exact h1, by rw [i0 3 (by omega) (by omega), hv _ (by omega) (by omega)]; exact h2, by rw [i0 4 (by omega) (by omega), hv _ (by omega) (by omega)]; exact h3, by rw [i0 5 (by omega) (by omega), hv _ (by omega) (by omega)]; exact h4, by rw [i0 6 (by omega) (by omega), hv _ (by omega) (by omega)]; exact h5, by rw [i0 7 (by omega) (by omega), hv _ (by omega) (by omega)]; exact h6, by rw [i0 8 (by omega) (by omega), hv _ (by omega) (by omega)]; exact h7, ⟨ru, h8, by rw [hv _ (by omega) (by omega)]; exact h9⟩, ⟨lm, h10, h11, by rw [hv _ (by omega) (by omega)]; exact h12⟩, n, h13, by rw [i2]; exact h14, by rw [hv _ (by omega) (by omega)]; exact h15, fun e he => ?_⟩
  rw [i3 3 e (by omega) (by omega) (by omega), i3 4 e (by omega) (by omega) (by omega), i3 5 e (by omega) (by omega) (by omega), hv _ (by omega) (by omega), hv _ (by omega) (by omega), hv _ (by omega) (by omega)]
  exact h16 e he
theorem RC_cong {I I' : Nat → Nat → Int32} {a a' : Nat} {v v' : Nat → Int32} (h : RC I a v) (hI : ∀ d j, d < 30 → vd d j → I' (a' + d) j = I (a + d) j) (hv : ∀ x, x < 626 → v' x = v x) : RC I' a' v' := by
  refine ⟨fun s hs => ?_, rE_cong h.2 (fun d j hd => hI d j (by omega)) (fun x _ hx => hv x hx)⟩
  obtain ⟨p, cl, c, hw⟩ := h.1 s hs
  refine ⟨p, cl, c, rW_cong hw (fun d j hd hd0 hj => ?_) (fun x _ hx => hv x (by omega))⟩
  have := hI (6 + 4 * s + d) j (by omega) (by
    rcases Nat.eq_zero_or_pos d with q | q
    · exact Or.inr (Or.inr (Or.inr (Or.inl ⟨by omega, by omega, by omega, hd0 q⟩)))
    · exact Or.inr (Or.inr (Or.inr (Or.inr ⟨by omega, by omega, by omega, hj⟩))))
  rw [show a' + 6 + 4 * s + d = a' + (6 + 4 * s + d) by omega, show a + 6 + 4 * s + d = a + (6 + 4 * s + d) by omega]
  exact this
def zS (K : mK) (R : Nat → Nat → Option Nat) (a : Nat) : Prop := K.2.2.1 a = (1, 4) ∧ R a 0 = some (a + 1) ∧ K.2.2.1 (a + 1) = (4, 6) ∧ R a 1 = some (a + 2) ∧ zL K R (a + 2) ∧ a < 900 ∧ ∀ s, s < 6 → R (a + 1) s = some (a + 6 + 4 * s) ∧ zW K R (a + 6 + 4 * s)
/-- the state b on the state a -/
def sCp (I : Nat → Nat → Int32) (a b : Nat) : Nat → Nat → Int32 := fun x j =>
  if x = a ∧ 2 ≤ j ∧ j ≤ 8 then I b j else if x = a + 2 ∧ j = 3 then I (b + 2) j else if (x = a + 3 ∨ x = a + 4 ∨ x = a + 5) ∧ j < 10 then I (b + (x - a)) j
  else if a + 6 ≤ x ∧ x < a + 30 ∧ ((x - a) % 4 = 2 ∧ 3 ≤ j ∧ j ≤ 6 ∨ (x - a) % 4 ≠ 2 ∧ j < 32) then I (b + (x - a)) j else I x j
theorem sCp_in {I : Nat → Nat → Int32} {a b d j : Nat} (hd : d < 30) (h : vd d j) : sCp I a b (a + d) j = I (b + d) j := by
  unfold sCp
  rcases h with ⟨rfl, h⟩ | ⟨rfl, rfl⟩ | ⟨h1, h2, h3⟩ | ⟨h1, h2, h3, h4⟩ | ⟨h1, h2, h3, h4⟩
  · rw [if_pos ⟨rfl, h⟩]; rfl
  · rw [if_neg (by omega), if_pos ⟨rfl, rfl⟩]
  · rw [if_neg (by omega), if_neg (by omega), if_pos (by omega), show a + d - a = d by omega]
  · rw [if_neg (by omega), if_neg (by omega), if_neg (by omega), if_pos (by omega), show a + d - a = d by omega]
  · rw [if_neg (by omega), if_neg (by omega), if_neg (by omega), if_pos (by omega), show a + d - a = d by omega]
theorem sCp_o {I : Nat → Nat → Int32} {a b x j : Nat} (h : x < a ∨ a + 30 ≤ x) : sCp I a b x j = I x j := by
  unfold sCp
  rw [if_neg (by omega), if_neg (by omega), if_neg (by omega), if_neg (by omega)]
def sCw (I : Nat → Nat → Int32) (a b s : Nat) : Nat → Nat → Int32 := fun x j =>
  if a + 6 ≤ x ∧ x < a + 6 + 4 * s ∧ ((x - a) % 4 = 2 ∧ 3 ≤ j ∧ j ≤ 6 ∨ (x - a) % 4 ≠ 2 ∧ j < 32) then I (b + (x - a)) j else I x j
theorem sCw_o {I : Nat → Nat → Int32} {a b s x j : Nat} (h : x < a + 6 ∨ a + 6 + 4 * s ≤ x) : sCw I a b s x j = I x j := if_neg (by omega)
theorem sCw_s {I : Nat → Nat → Int32} {a b s : Nat} (hab : a + 30 ≤ b ∨ b + 30 ≤ a) (hs : s < 6) : wCp (sCw I a b s) (a + 6 + 4 * s) (b + 6 + 4 * s) = sCw I a b (s + 1) := by
  have e : ∀ d j, d < 4 → sCw I a b s (b + 6 + 4 * s + d) j = I (b + 6 + 4 * s + d) j := fun d j hd => sCw_o (by omega)
  have e0 : ∀ j, sCw I a b s (b + 6 + 4 * s) j = I (b + 6 + 4 * s) j := fun j => e 0 j (by omega)
  funext x j
  simp only [wCp]
  rw [e0, e 1 j (by omega), e 2 j (by omega), e 3 j (by omega)]
  simp only [sCw]
  by_cases c1 : x = a + 6 + 4 * s ∧ 3 ≤ j ∧ j ≤ 6
  · rw [if_pos c1, if_pos (by omega), show b + (x - a) = b + 6 + 4 * s by omega]
  · rw [if_neg c1]
    by_cases c2 : x = a + 6 + 4 * s + 1 ∧ j < 32
    · rw [if_pos c2, if_pos (by omega), show b + (x - a) = b + 6 + 4 * s + 1 by omega]
    · rw [if_neg c2]
      by_cases c3 : x = a + 6 + 4 * s + 2 ∧ j < 32
      · rw [if_pos c3, if_pos (by omega), show b + (x - a) = b + 6 + 4 * s + 2 by omega]
      · rw [if_neg c3]
        by_cases c4 : x = a + 6 + 4 * s + 3 ∧ j < 32
        · rw [if_pos c4, if_pos (by omega), show b + (x - a) = b + 6 + 4 * s + 3 by omega]
        · rw [if_neg c4]
          by_cases c5 : a + 6 ≤ x ∧ x < a + 6 + 4 * s ∧ ((x - a) % 4 = 2 ∧ 3 ≤ j ∧ j ≤ 6 ∨ (x - a) % 4 ≠ 2 ∧ j < 32)
          · rw [if_pos c5, if_pos (by omega)]
          · rw [if_neg c5, if_neg (by omega)]
set_option maxHeartbeats 4000000 in
theorem m_scopy {K : mK} {R : Nat → Nat → Option Nat} {I : Nat → Nat → Int32} {a b : Nat} {Q : Option Value → mH → Prop} (h : zS K R a) (h' : zS K R b) (hab : a + 30 ≤ b ∨ b + 30 ≤ a) (hb : ∀ s, s < 6 → ∃ p cl, p ≤ 1 ∧ cl ≤ 1 ∧ I (b + 6 + 4 * s) 3 = nI p ∧ I (b + 6 + 4 * s) 4 = nI cl) :
    EvM 25 [.ref a, .ref b] (K, R, I) Q ↔ Q none (K, R, sCp I a b) := by
  obtain ⟨h0, h1, h2, h3, h4, h5, h6⟩ := id h
  obtain ⟨h0', h1', h2', h3', h4', h5', h6'⟩ := id h'
  refine EvM_iff ?_
  unfold EvM
  rw [B_25_0]
  simp (disch := omega) only [e_iconst, e_bipush, e_sipush, e_iload_n, e_iload, e_aload_n, e_aload, e_istore_n, e_istore, e_astore_n, e_astore, e_iinc, e_iadd, e_isub, e_imul, e_iand, e_ishr, e_idiv, e_i2c, e_dup_i, e_dup_r, e_dup2, e_pop, e_goto, e_nop, e_if_eq, e_if_ne, e_if_lt, e_if_ge, e_if_gt, e_if_le, e_icmp_eq, e_icmp_ne, e_icmp_lt, e_icmp_ge, e_icmp_gt, e_icmp_le, e_tsw, e_ret0, e_ret1, e_retn, e_getI, e_getZ, e_getR, e_getV, e_getC, e_putI, e_putZ, e_putF, e_gst0, e_gst1, e_sld, e_iald, e_cald, e_bald, e_iast, e_cast, e_aald, e_aast, e_alen, e_slen, e_blen, e_newa, e_newq, e_new, e_oinit, e_ctor, e_virt, e_stat, e_min, e_copy, e_ldc, List.cons_append, List.nil_append, List.append_nil, List.length_cons, List.length_nil, List.replicate_succ, List.replicate_zero, List.getElem?_cons_zero, List.getElem?_cons_succ, List.set_cons_zero, List.set_cons_succ, List.take_succ_cons, List.take_zero, List.drop_succ_cons, List.drop_zero, List.reverse_cons, List.reverse_nil, Option.toList_some, Option.toList_none, Nat.reduceSub, Nat.reduceAdd, Nat.reduceLeDiff, true_and, and_true, and_self, Option.some.injEq, exists_eq_left', Nat.zero_add, Value.int.injEq, Value.ref.injEq, List.cons.injEq, exists_and_left, and_assoc, exists_eq_left, N_25, bk_25_0, if_pos, if_neg, not_true_eq_false, not_false_eq_true, or_true, true_or, or_false, false_or, false_and, and_false, Nat.reduceEqDiff, Nat.reduceLT, Nat.reduceMul, Nat.not_lt_zero, Nat.zero_le, Nat.le_refl, ne_eq, reduceIte, reduceCtorEq]
  have key := loop_dn (n := 6) (P := fun k => Ev 25 (mB 25 2) [.ref a, .ref b, .int (nI k)] [] (K, R, sCw I a b k) (fun v k => v = none ∧ k = (K, R, sCp I a b))) ?_ ?_
  · refine Ev_cg ?_ rfl key
    funext x j; rw [sCw_o (by omega)]
  · intro k hk hnext
    obtain ⟨e1, e2⟩ := h6 k hk
    obtain ⟨e1', e2'⟩ := h6' k hk
    obtain ⟨p, cl, p1, p2, p3, p4⟩ := hb k hk
    have hz := e2.1
    rw [B_25_2]
    simp (disch := omega) only [e_iconst, e_bipush, e_sipush, e_iload_n, e_iload, e_aload_n, e_aload, e_istore_n, e_istore, e_astore_n, e_astore, e_iinc, e_iadd, e_isub, e_imul, e_iand, e_ishr, e_idiv, e_i2c, e_dup_i, e_dup_r, e_dup2, e_pop, e_goto, e_nop, e_if_eq, e_if_ne, e_if_lt, e_if_ge, e_if_gt, e_if_le, e_icmp_eq, e_icmp_ne, e_icmp_lt, e_icmp_ge, e_icmp_gt, e_icmp_le, e_tsw, e_ret0, e_ret1, e_retn, e_getI, e_getZ, e_getR, e_getV, e_getC, e_putI, e_putZ, e_putF, e_gst0, e_gst1, e_sld, e_iald, e_cald, e_bald, e_iast, e_cast, e_aald, e_aast, e_alen, e_slen, e_blen, e_newa, e_newq, e_new, e_oinit, e_ctor, e_virt, e_stat, e_min, e_copy, e_ldc, List.cons_append, List.nil_append, List.append_nil, List.length_cons, List.length_nil, List.replicate_succ, List.replicate_zero, List.getElem?_cons_zero, List.getElem?_cons_succ, List.set_cons_zero, List.set_cons_succ, List.take_succ_cons, List.take_zero, List.drop_succ_cons, List.drop_zero, List.reverse_cons, List.reverse_nil, Option.toList_some, Option.toList_none, Nat.reduceSub, Nat.reduceAdd, Nat.reduceLeDiff, true_and, and_true, and_self, Option.some.injEq, exists_eq_left', Nat.zero_add, Value.int.injEq, Value.ref.injEq, List.cons.injEq, exists_and_left, and_assoc, exists_eq_left, bk_25_2, h0, h1, h2, h0', h1', h2', e1, e1', hz, o_le_r, if_neg, n_in, n_cl, o_add_l, true_or, or_true, C_36, m_wcopy (I := sCw I a b k) e2 e2' (by omega) (by rw [sCw_o (by omega)]; exact p3) p1 (by rw [sCw_o (by omega)]; exact p4) p2, sCw_s hab hk, if_pos, if_neg, not_true_eq_false, not_false_eq_true, or_true, true_or, or_false, false_or, false_and, and_false, Nat.reduceEqDiff, Nat.reduceLT, Nat.reduceMul, Nat.not_lt_zero, Nat.zero_le, Nat.le_refl, ne_eq, reduceIte, reduceCtorEq]
    exact hnext
  · have hz := h4.1
    rw [B_25_2]
    simp (disch := omega) only [e_iconst, e_bipush, e_sipush, e_iload_n, e_iload, e_aload_n, e_aload, e_istore_n, e_istore, e_astore_n, e_astore, e_iinc, e_iadd, e_isub, e_imul, e_iand, e_ishr, e_idiv, e_i2c, e_dup_i, e_dup_r, e_dup2, e_pop, e_goto, e_nop, e_if_eq, e_if_ne, e_if_lt, e_if_ge, e_if_gt, e_if_le, e_icmp_eq, e_icmp_ne, e_icmp_lt, e_icmp_ge, e_icmp_gt, e_icmp_le, e_tsw, e_ret0, e_ret1, e_retn, e_getI, e_getZ, e_getR, e_getV, e_getC, e_putI, e_putZ, e_putF, e_gst0, e_gst1, e_sld, e_iald, e_cald, e_bald, e_iast, e_cast, e_aald, e_aast, e_alen, e_slen, e_blen, e_newa, e_newq, e_new, e_oinit, e_ctor, e_virt, e_stat, e_min, e_copy, e_ldc, List.cons_append, List.nil_append, List.append_nil, List.length_cons, List.length_nil, List.replicate_succ, List.replicate_zero, List.getElem?_cons_zero, List.getElem?_cons_succ, List.set_cons_zero, List.set_cons_succ, List.take_succ_cons, List.take_zero, List.drop_succ_cons, List.drop_zero, List.reverse_cons, List.reverse_nil, Option.toList_some, Option.toList_none, Nat.reduceSub, Nat.reduceAdd, Nat.reduceLeDiff, true_and, and_true, and_self, Option.some.injEq, exists_eq_left', Nat.zero_add, Value.int.injEq, Value.ref.injEq, List.cons.injEq, exists_and_left, and_assoc, exists_eq_left, bk_25_2, o_le_r, if_pos, Nat.le_refl, if_pos, if_neg, not_true_eq_false, not_false_eq_true, or_true, true_or, or_false, false_or, false_and, and_false, Nat.reduceEqDiff, Nat.reduceLT, Nat.reduceMul, Nat.not_lt_zero, Nat.zero_le, Nat.le_refl, ne_eq, reduceIte, reduceCtorEq]
    rw [B_25_29]
    simp (disch := omega) only [e_iconst, e_bipush, e_sipush, e_iload_n, e_iload, e_aload_n, e_aload, e_istore_n, e_istore, e_astore_n, e_astore, e_iinc, e_iadd, e_isub, e_imul, e_iand, e_ishr, e_idiv, e_i2c, e_dup_i, e_dup_r, e_dup2, e_pop, e_goto, e_nop, e_if_eq, e_if_ne, e_if_lt, e_if_ge, e_if_gt, e_if_le, e_icmp_eq, e_icmp_ne, e_icmp_lt, e_icmp_ge, e_icmp_gt, e_icmp_le, e_tsw, e_ret0, e_ret1, e_retn, e_getI, e_getZ, e_getR, e_getV, e_getC, e_putI, e_putZ, e_putF, e_gst0, e_gst1, e_sld, e_iald, e_cald, e_bald, e_iast, e_cast, e_aald, e_aast, e_alen, e_slen, e_blen, e_newa, e_newq, e_new, e_oinit, e_ctor, e_virt, e_stat, e_min, e_copy, e_ldc, List.cons_append, List.nil_append, List.append_nil, List.length_cons, List.length_nil, List.replicate_succ, List.replicate_zero, List.getElem?_cons_zero, List.getElem?_cons_succ, List.set_cons_zero, List.set_cons_succ, List.take_succ_cons, List.take_zero, List.drop_succ_cons, List.drop_zero, List.reverse_cons, List.reverse_nil, Option.toList_some, Option.toList_none, Nat.reduceSub, Nat.reduceAdd, Nat.reduceLeDiff, true_and, and_true, and_self, Option.some.injEq, exists_eq_left', Nat.zero_add, Value.int.injEq, Value.ref.injEq, List.cons.injEq, exists_and_left, and_assoc, exists_eq_left, bk_25_29, h0, h3, h0', h3', hz, C_13, m_logCopy h4 h4' (by omega), s_ne, lCp_o, sCw_o, if_pos, if_neg, not_true_eq_false, not_false_eq_true, or_true, true_or, or_false, false_or, false_and, and_false, Nat.reduceEqDiff, Nat.reduceLT, Nat.reduceMul, Nat.not_lt_zero, Nat.zero_le, Nat.le_refl, ne_eq, reduceIte, reduceCtorEq]
    congr 2
    funext x j
    by_cases c1 : x = a
    · subst c1
      by_cases c2 : 2 ≤ j ∧ j ≤ 8
      · rw [sCp, if_pos ⟨rfl, c2⟩]
        rcases (show j = 2 ∨ j = 3 ∨ j = 4 ∨ j = 5 ∨ j = 6 ∨ j = 7 ∨ j = 8 by omega) with rfl | rfl | rfl | rfl | rfl | rfl | rfl <;> simp (disch := omega) only [s_ne, s_eq]
      · simp (disch := omega) only [s_ne, lCp_o, sCw_o]
        rw [sCp, if_neg (by omega), if_neg (by omega), if_neg (by omega), if_neg (by omega)]
    · simp (disch := omega) only [s_ne]
      have e : ∀ i, i < 4 → ∀ j, sCw I a b 6 (b + 2 + i) j = I (b + 2 + i) j := fun i hi j => sCw_o (by omega)
      have e0 : ∀ j, sCw I a b 6 (b + 2) j = I (b + 2) j := fun j => e 0 (by omega) j
      simp only [lCp, e0]
      rw [e 1 (by omega), e 2 (by omega), e 3 (by omega), sCp, if_neg (show ¬ (x = a ∧ 2 ≤ j ∧ j ≤ 8) from fun q => c1 q.1)]
      by_cases c2 : x = a + 2 ∧ j = 3
      · rw [if_pos c2, if_pos c2, c2.2]
      · rw [if_neg c2, if_neg c2]
        by_cases c3 : (x = a + 3 ∨ x = a + 4 ∨ x = a + 5) ∧ j < 10
        · rw [if_pos c3]
          obtain ⟨c3, c4⟩ := c3
          rcases c3 with rfl | rfl | rfl
          · rw [if_pos ⟨by omega, c4⟩, show b + (a + 3 - a) = b + 2 + 1 by omega]
          · rw [if_neg (by omega), if_pos ⟨by omega, c4⟩, show b + (a + 4 - a) = b + 2 + 2 by omega]
          · rw [if_neg (by omega), if_neg (by omega), if_pos ⟨by omega, c4⟩, show b + (a + 5 - a) = b + 2 + 3 by omega]
        · rw [if_neg c3, if_neg (by omega), if_neg (by omega), if_neg (by omega), sCw]
end
section
/-! THE CLASS's STATES, further; the history -/
theorem m_spools {K : mK} {R : Nat → Nat → Option Nat} {I : Nat → Nat → Int32} {a : Nat} {Q : Option Value → mH → Prop} (h : zS K R a) : EvM 26 [.ref a] (K, R, I) Q ↔ Q (some (.int (nI (cnt (fun s => !(I (a + 6 + 4 * s) 3 == 0)) 6)))) (K, R, I) := by
  obtain ⟨h0, h1, h2, h3, h4, h5, h6⟩ := id h
  refine EvM_iff ?_
  unfold EvM
  rw [B_26_0]
  simp (disch := omega) only [e_iconst, e_bipush, e_sipush, e_iload_n, e_iload, e_aload_n, e_aload, e_istore_n, e_istore, e_astore_n, e_astore, e_iinc, e_iadd, e_isub, e_imul, e_iand, e_ishr, e_idiv, e_i2c, e_dup_i, e_dup_r, e_dup2, e_pop, e_goto, e_nop, e_if_eq, e_if_ne, e_if_lt, e_if_ge, e_if_gt, e_if_le, e_icmp_eq, e_icmp_ne, e_icmp_lt, e_icmp_ge, e_icmp_gt, e_icmp_le, e_tsw, e_ret0, e_ret1, e_retn, e_getI, e_getZ, e_getR, e_getV, e_getC, e_putI, e_putZ, e_putF, e_gst0, e_gst1, e_sld, e_iald, e_cald, e_bald, e_iast, e_cast, e_aald, e_aast, e_alen, e_slen, e_blen, e_newa, e_newq, e_new, e_oinit, e_ctor, e_virt, e_stat, e_min, e_copy, e_ldc, List.cons_append, List.nil_append, List.append_nil, List.length_cons, List.length_nil, List.replicate_succ, List.replicate_zero, List.getElem?_cons_zero, List.getElem?_cons_succ, List.set_cons_zero, List.set_cons_succ, List.take_succ_cons, List.take_zero, List.drop_succ_cons, List.drop_zero, List.reverse_cons, List.reverse_nil, Option.toList_some, Option.toList_none, Nat.reduceSub, Nat.reduceAdd, Nat.reduceLeDiff, true_and, and_true, and_self, Option.some.injEq, exists_eq_left', Nat.zero_add, Value.int.injEq, Value.ref.injEq, List.cons.injEq, exists_and_left, and_assoc, exists_eq_left, N_26, bk_26_0, if_pos, if_neg, not_true_eq_false, not_false_eq_true, or_true, true_or, or_false, false_or, false_and, and_false, Nat.reduceEqDiff, Nat.reduceLT, Nat.reduceMul, Nat.not_lt_zero, Nat.zero_le, Nat.le_refl, ne_eq, reduceIte, reduceCtorEq]
  have key := loop_dn (n := 6) (P := fun k => Ev 26 (mB 26 4) [.ref a, .int (nI (cnt (fun s => !(I (a + 6 + 4 * s) 3 == 0)) k)), .int (nI k)] [] (K, R, I) (fun v k => v = some (.int (nI (cnt (fun s => !(I (a + 6 + 4 * s) 3 == 0)) 6))) ∧ k = (K, R, I))) ?_ ?_
  · exact key
  · intro k hk hnext
    obtain ⟨e1, e2⟩ := h6 k hk
    have hz := e2.1
    rw [B_26_4]
    simp (disch := omega) only [e_iconst, e_bipush, e_sipush, e_iload_n, e_iload, e_aload_n, e_aload, e_istore_n, e_istore, e_astore_n, e_astore, e_iinc, e_iadd, e_isub, e_imul, e_iand, e_ishr, e_idiv, e_i2c, e_dup_i, e_dup_r, e_dup2, e_pop, e_goto, e_nop, e_if_eq, e_if_ne, e_if_lt, e_if_ge, e_if_gt, e_if_le, e_icmp_eq, e_icmp_ne, e_icmp_lt, e_icmp_ge, e_icmp_gt, e_icmp_le, e_tsw, e_ret0, e_ret1, e_retn, e_getI, e_getZ, e_getR, e_getV, e_getC, e_putI, e_putZ, e_putF, e_gst0, e_gst1, e_sld, e_iald, e_cald, e_bald, e_iast, e_cast, e_aald, e_aast, e_alen, e_slen, e_blen, e_newa, e_newq, e_new, e_oinit, e_ctor, e_virt, e_stat, e_min, e_copy, e_ldc, List.cons_append, List.nil_append, List.append_nil, List.length_cons, List.length_nil, List.replicate_succ, List.replicate_zero, List.getElem?_cons_zero, List.getElem?_cons_succ, List.set_cons_zero, List.set_cons_succ, List.take_succ_cons, List.take_zero, List.drop_succ_cons, List.drop_zero, List.reverse_cons, List.reverse_nil, Option.toList_some, Option.toList_none, Nat.reduceSub, Nat.reduceAdd, Nat.reduceLeDiff, true_and, and_true, and_self, Option.some.injEq, exists_eq_left', Nat.zero_add, Value.int.injEq, Value.ref.injEq, List.cons.injEq, exists_and_left, and_assoc, exists_eq_left, bk_26_4, h0, h1, h2, e1, hz, o_le_r, if_neg, n_in, n_cl, true_or, or_true, if_pos, if_neg, not_true_eq_false, not_false_eq_true, or_true, true_or, or_false, false_or, false_and, and_false, Nat.reduceEqDiff, Nat.reduceLT, Nat.reduceMul, Nat.not_lt_zero, Nat.zero_le, Nat.le_refl, ne_eq, reduceIte, reduceCtorEq]
    by_cases c : I (a + 6 + 4 * k) 3 = 0
    · rw [if_pos c, B_26_25]
      simp (disch := omega) only [e_iconst, e_bipush, e_sipush, e_iload_n, e_iload, e_aload_n, e_aload, e_istore_n, e_istore, e_astore_n, e_astore, e_iinc, e_iadd, e_isub, e_imul, e_iand, e_ishr, e_idiv, e_i2c, e_dup_i, e_dup_r, e_dup2, e_pop, e_goto, e_nop, e_if_eq, e_if_ne, e_if_lt, e_if_ge, e_if_gt, e_if_le, e_icmp_eq, e_icmp_ne, e_icmp_lt, e_icmp_ge, e_icmp_gt, e_icmp_le, e_tsw, e_ret0, e_ret1, e_retn, e_getI, e_getZ, e_getR, e_getV, e_getC, e_putI, e_putZ, e_putF, e_gst0, e_gst1, e_sld, e_iald, e_cald, e_bald, e_iast, e_cast, e_aald, e_aast, e_alen, e_slen, e_blen, e_newa, e_newq, e_new, e_oinit, e_ctor, e_virt, e_stat, e_min, e_copy, e_ldc, List.cons_append, List.nil_append, List.append_nil, List.length_cons, List.length_nil, List.replicate_succ, List.replicate_zero, List.getElem?_cons_zero, List.getElem?_cons_succ, List.set_cons_zero, List.set_cons_succ, List.take_succ_cons, List.take_zero, List.drop_succ_cons, List.drop_zero, List.reverse_cons, List.reverse_nil, Option.toList_some, Option.toList_none, Nat.reduceSub, Nat.reduceAdd, Nat.reduceLeDiff, true_and, and_true, and_self, Option.some.injEq, exists_eq_left', Nat.zero_add, Value.int.injEq, Value.ref.injEq, List.cons.injEq, exists_and_left, and_assoc, exists_eq_left, bk_26_25, o_add_l, if_pos, if_neg, not_true_eq_false, not_false_eq_true, or_true, true_or, or_false, false_or, false_and, and_false, Nat.reduceEqDiff, Nat.reduceLT, Nat.reduceMul, Nat.not_lt_zero, Nat.zero_le, Nat.le_refl, ne_eq, reduceIte, reduceCtorEq]
      refine Ev_cg rfl ?_ hnext
      simp [cnt, c]
    · rw [if_neg c, B_26_25]
      simp (disch := omega) only [e_iconst, e_bipush, e_sipush, e_iload_n, e_iload, e_aload_n, e_aload, e_istore_n, e_istore, e_astore_n, e_astore, e_iinc, e_iadd, e_isub, e_imul, e_iand, e_ishr, e_idiv, e_i2c, e_dup_i, e_dup_r, e_dup2, e_pop, e_goto, e_nop, e_if_eq, e_if_ne, e_if_lt, e_if_ge, e_if_gt, e_if_le, e_icmp_eq, e_icmp_ne, e_icmp_lt, e_icmp_ge, e_icmp_gt, e_icmp_le, e_tsw, e_ret0, e_ret1, e_retn, e_getI, e_getZ, e_getR, e_getV, e_getC, e_putI, e_putZ, e_putF, e_gst0, e_gst1, e_sld, e_iald, e_cald, e_bald, e_iast, e_cast, e_aald, e_aast, e_alen, e_slen, e_blen, e_newa, e_newq, e_new, e_oinit, e_ctor, e_virt, e_stat, e_min, e_copy, e_ldc, List.cons_append, List.nil_append, List.append_nil, List.length_cons, List.length_nil, List.replicate_succ, List.replicate_zero, List.getElem?_cons_zero, List.getElem?_cons_succ, List.set_cons_zero, List.set_cons_succ, List.take_succ_cons, List.take_zero, List.drop_succ_cons, List.drop_zero, List.reverse_cons, List.reverse_nil, Option.toList_some, Option.toList_none, Nat.reduceSub, Nat.reduceAdd, Nat.reduceLeDiff, true_and, and_true, and_self, Option.some.injEq, exists_eq_left', Nat.zero_add, Value.int.injEq, Value.ref.injEq, List.cons.injEq, exists_and_left, and_assoc, exists_eq_left, bk_26_25, o_add_l, if_pos, if_neg, not_true_eq_false, not_false_eq_true, or_true, true_or, or_false, false_or, false_and, and_false, Nat.reduceEqDiff, Nat.reduceLT, Nat.reduceMul, Nat.not_lt_zero, Nat.zero_le, Nat.le_refl, ne_eq, reduceIte, reduceCtorEq]
      refine Ev_cg rfl ?_ hnext
      simp [cnt, c]
  · rw [B_26_4]
    simp (disch := omega) only [e_iconst, e_bipush, e_sipush, e_iload_n, e_iload, e_aload_n, e_aload, e_istore_n, e_istore, e_astore_n, e_astore, e_iinc, e_iadd, e_isub, e_imul, e_iand, e_ishr, e_idiv, e_i2c, e_dup_i, e_dup_r, e_dup2, e_pop, e_goto, e_nop, e_if_eq, e_if_ne, e_if_lt, e_if_ge, e_if_gt, e_if_le, e_icmp_eq, e_icmp_ne, e_icmp_lt, e_icmp_ge, e_icmp_gt, e_icmp_le, e_tsw, e_ret0, e_ret1, e_retn, e_getI, e_getZ, e_getR, e_getV, e_getC, e_putI, e_putZ, e_putF, e_gst0, e_gst1, e_sld, e_iald, e_cald, e_bald, e_iast, e_cast, e_aald, e_aast, e_alen, e_slen, e_blen, e_newa, e_newq, e_new, e_oinit, e_ctor, e_virt, e_stat, e_min, e_copy, e_ldc, List.cons_append, List.nil_append, List.append_nil, List.length_cons, List.length_nil, List.replicate_succ, List.replicate_zero, List.getElem?_cons_zero, List.getElem?_cons_succ, List.set_cons_zero, List.set_cons_succ, List.take_succ_cons, List.take_zero, List.drop_succ_cons, List.drop_zero, List.reverse_cons, List.reverse_nil, Option.toList_some, Option.toList_none, Nat.reduceSub, Nat.reduceAdd, Nat.reduceLeDiff, true_and, and_true, and_self, Option.some.injEq, exists_eq_left', Nat.zero_add, Value.int.injEq, Value.ref.injEq, List.cons.injEq, exists_and_left, and_assoc, exists_eq_left, bk_26_4, B_26_31, bk_26_31, o_le_r, if_pos, Nat.le_refl, if_pos, if_neg, not_true_eq_false, not_false_eq_true, or_true, true_or, or_false, false_or, false_and, and_false, Nat.reduceEqDiff, Nat.reduceLT, Nat.reduceMul, Nat.not_lt_zero, Nat.zero_le, Nat.le_refl, ne_eq, reduceIte, reduceCtorEq]
theorem m_letters {K : mK} {R : Nat → Nat → Option Nat} {I : Nat → Nat → Int32} {a : Nat} {Q : Option Value → mH → Prop} (h : zS K R a) : EvM 27 [.ref a] (K, R, I) Q ↔ Q (some (.int (sm (fun s => I (a + 6 + 4 * s) 5) 6))) (K, R, I) := by
  obtain ⟨h0, h1, h2, h3, h4, h5, h6⟩ := id h
  refine EvM_iff ?_
  unfold EvM
  rw [B_27_0]
  simp (disch := omega) only [e_iconst, e_bipush, e_sipush, e_iload_n, e_iload, e_aload_n, e_aload, e_istore_n, e_istore, e_astore_n, e_astore, e_iinc, e_iadd, e_isub, e_imul, e_iand, e_ishr, e_idiv, e_i2c, e_dup_i, e_dup_r, e_dup2, e_pop, e_goto, e_nop, e_if_eq, e_if_ne, e_if_lt, e_if_ge, e_if_gt, e_if_le, e_icmp_eq, e_icmp_ne, e_icmp_lt, e_icmp_ge, e_icmp_gt, e_icmp_le, e_tsw, e_ret0, e_ret1, e_retn, e_getI, e_getZ, e_getR, e_getV, e_getC, e_putI, e_putZ, e_putF, e_gst0, e_gst1, e_sld, e_iald, e_cald, e_bald, e_iast, e_cast, e_aald, e_aast, e_alen, e_slen, e_blen, e_newa, e_newq, e_new, e_oinit, e_ctor, e_virt, e_stat, e_min, e_copy, e_ldc, List.cons_append, List.nil_append, List.append_nil, List.length_cons, List.length_nil, List.replicate_succ, List.replicate_zero, List.getElem?_cons_zero, List.getElem?_cons_succ, List.set_cons_zero, List.set_cons_succ, List.take_succ_cons, List.take_zero, List.drop_succ_cons, List.drop_zero, List.reverse_cons, List.reverse_nil, Option.toList_some, Option.toList_none, Nat.reduceSub, Nat.reduceAdd, Nat.reduceLeDiff, true_and, and_true, and_self, Option.some.injEq, exists_eq_left', Nat.zero_add, Value.int.injEq, Value.ref.injEq, List.cons.injEq, exists_and_left, and_assoc, exists_eq_left, N_27, bk_27_0, if_pos, if_neg, not_true_eq_false, not_false_eq_true, or_true, true_or, or_false, false_or, false_and, and_false, Nat.reduceEqDiff, Nat.reduceLT, Nat.reduceMul, Nat.not_lt_zero, Nat.zero_le, Nat.le_refl, ne_eq, reduceIte, reduceCtorEq]
  have key := loop_dn (n := 6) (P := fun k => Ev 27 (mB 27 4) [.ref a, .int (sm (fun s => I (a + 6 + 4 * s) 5) k), .int (nI k)] [] (K, R, I) (fun v k => v = some (.int (sm (fun s => I (a + 6 + 4 * s) 5) 6)) ∧ k = (K, R, I))) ?_ ?_
  · exact key
  · intro k hk hnext
    obtain ⟨e1, e2⟩ := h6 k hk
    have hz := e2.1
    rw [B_27_4]
    simp (disch := omega) only [e_iconst, e_bipush, e_sipush, e_iload_n, e_iload, e_aload_n, e_aload, e_istore_n, e_istore, e_astore_n, e_astore, e_iinc, e_iadd, e_isub, e_imul, e_iand, e_ishr, e_idiv, e_i2c, e_dup_i, e_dup_r, e_dup2, e_pop, e_goto, e_nop, e_if_eq, e_if_ne, e_if_lt, e_if_ge, e_if_gt, e_if_le, e_icmp_eq, e_icmp_ne, e_icmp_lt, e_icmp_ge, e_icmp_gt, e_icmp_le, e_tsw, e_ret0, e_ret1, e_retn, e_getI, e_getZ, e_getR, e_getV, e_getC, e_putI, e_putZ, e_putF, e_gst0, e_gst1, e_sld, e_iald, e_cald, e_bald, e_iast, e_cast, e_aald, e_aast, e_alen, e_slen, e_blen, e_newa, e_newq, e_new, e_oinit, e_ctor, e_virt, e_stat, e_min, e_copy, e_ldc, List.cons_append, List.nil_append, List.append_nil, List.length_cons, List.length_nil, List.replicate_succ, List.replicate_zero, List.getElem?_cons_zero, List.getElem?_cons_succ, List.set_cons_zero, List.set_cons_succ, List.take_succ_cons, List.take_zero, List.drop_succ_cons, List.drop_zero, List.reverse_cons, List.reverse_nil, Option.toList_some, Option.toList_none, Nat.reduceSub, Nat.reduceAdd, Nat.reduceLeDiff, true_and, and_true, and_self, Option.some.injEq, exists_eq_left', Nat.zero_add, Value.int.injEq, Value.ref.injEq, List.cons.injEq, exists_and_left, and_assoc, exists_eq_left, bk_27_4, h0, h1, h2, e1, hz, o_le_r, if_neg, n_in, n_cl, o_add_l, true_or, or_true, if_pos, if_neg, not_true_eq_false, not_false_eq_true, or_true, true_or, or_false, false_or, false_and, and_false, Nat.reduceEqDiff, Nat.reduceLT, Nat.reduceMul, Nat.not_lt_zero, Nat.zero_le, Nat.le_refl, ne_eq, reduceIte, reduceCtorEq]
    exact hnext
  · rw [B_27_4]
    simp (disch := omega) only [e_iconst, e_bipush, e_sipush, e_iload_n, e_iload, e_aload_n, e_aload, e_istore_n, e_istore, e_astore_n, e_astore, e_iinc, e_iadd, e_isub, e_imul, e_iand, e_ishr, e_idiv, e_i2c, e_dup_i, e_dup_r, e_dup2, e_pop, e_goto, e_nop, e_if_eq, e_if_ne, e_if_lt, e_if_ge, e_if_gt, e_if_le, e_icmp_eq, e_icmp_ne, e_icmp_lt, e_icmp_ge, e_icmp_gt, e_icmp_le, e_tsw, e_ret0, e_ret1, e_retn, e_getI, e_getZ, e_getR, e_getV, e_getC, e_putI, e_putZ, e_putF, e_gst0, e_gst1, e_sld, e_iald, e_cald, e_bald, e_iast, e_cast, e_aald, e_aast, e_alen, e_slen, e_blen, e_newa, e_newq, e_new, e_oinit, e_ctor, e_virt, e_stat, e_min, e_copy, e_ldc, List.cons_append, List.nil_append, List.append_nil, List.length_cons, List.length_nil, List.replicate_succ, List.replicate_zero, List.getElem?_cons_zero, List.getElem?_cons_succ, List.set_cons_zero, List.set_cons_succ, List.take_succ_cons, List.take_zero, List.drop_succ_cons, List.drop_zero, List.reverse_cons, List.reverse_nil, Option.toList_some, Option.toList_none, Nat.reduceSub, Nat.reduceAdd, Nat.reduceLeDiff, true_and, and_true, and_self, Option.some.injEq, exists_eq_left', Nat.zero_add, Value.int.injEq, Value.ref.injEq, List.cons.injEq, exists_and_left, and_assoc, exists_eq_left, bk_27_4, B_27_28, bk_27_28, o_le_r, if_pos, Nat.le_refl, if_pos, if_neg, not_true_eq_false, not_false_eq_true, or_true, true_or, or_false, false_or, false_and, and_false, Nat.reduceEqDiff, Nat.reduceLT, Nat.reduceMul, Nat.not_lt_zero, Nat.zero_le, Nat.le_refl, ne_eq, reduceIte, reduceCtorEq]
theorem m_lowest {K : mK} {R : Nat → Nat → Option Nat} {I : Nat → Nat → Int32} {a : Nat} {Q : Option Value → mH → Prop} (h : zS K R a) : EvM 28 [.ref a] (K, R, I) Q ↔ Q (some (.int (nI (fB (fun s => I (a + 6 + 4 * s) 3 == 0) 6 6)))) (K, R, I) := by
  obtain ⟨h0, h1, h2, h3, h4, h5, h6⟩ := id h
  refine EvM_iff ?_
  unfold EvM
  rw [B_28_0]
  simp (disch := omega) only [e_iconst, e_bipush, e_sipush, e_iload_n, e_iload, e_aload_n, e_aload, e_istore_n, e_istore, e_astore_n, e_astore, e_iinc, e_iadd, e_isub, e_imul, e_iand, e_ishr, e_idiv, e_i2c, e_dup_i, e_dup_r, e_dup2, e_pop, e_goto, e_nop, e_if_eq, e_if_ne, e_if_lt, e_if_ge, e_if_gt, e_if_le, e_icmp_eq, e_icmp_ne, e_icmp_lt, e_icmp_ge, e_icmp_gt, e_icmp_le, e_tsw, e_ret0, e_ret1, e_retn, e_getI, e_getZ, e_getR, e_getV, e_getC, e_putI, e_putZ, e_putF, e_gst0, e_gst1, e_sld, e_iald, e_cald, e_bald, e_iast, e_cast, e_aald, e_aast, e_alen, e_slen, e_blen, e_newa, e_newq, e_new, e_oinit, e_ctor, e_virt, e_stat, e_min, e_copy, e_ldc, List.cons_append, List.nil_append, List.append_nil, List.length_cons, List.length_nil, List.replicate_succ, List.replicate_zero, List.getElem?_cons_zero, List.getElem?_cons_succ, List.set_cons_zero, List.set_cons_succ, List.take_succ_cons, List.take_zero, List.drop_succ_cons, List.drop_zero, List.reverse_cons, List.reverse_nil, Option.toList_some, Option.toList_none, Nat.reduceSub, Nat.reduceAdd, Nat.reduceLeDiff, true_and, and_true, and_self, Option.some.injEq, exists_eq_left', Nat.zero_add, Value.int.injEq, Value.ref.injEq, List.cons.injEq, exists_and_left, and_assoc, exists_eq_left, N_28, bk_28_0, if_pos, if_neg, not_true_eq_false, not_false_eq_true, or_true, true_or, or_false, false_or, false_and, and_false, Nat.reduceEqDiff, Nat.reduceLT, Nat.reduceMul, Nat.not_lt_zero, Nat.zero_le, Nat.le_refl, ne_eq, reduceIte, reduceCtorEq]
  have key := loop_dn (n := 6) (P := fun k => fB (fun s => I (a + 6 + 4 * s) 3 == 0) 6 k = 6 → Ev 28 (mB 28 2) [.ref a, .int (nI k)] [] (K, R, I) (fun v k => v = some (.int (nI (fB (fun s => I (a + 6 + 4 * s) 3 == 0) 6 6))) ∧ k = (K, R, I))) ?_ ?_
  · exact key rfl
  · intro k hk hnext hfb
    obtain ⟨e1, e2⟩ := h6 k hk
    have hz := e2.1
    rw [B_28_2]
    simp (disch := omega) only [e_iconst, e_bipush, e_sipush, e_iload_n, e_iload, e_aload_n, e_aload, e_istore_n, e_istore, e_astore_n, e_astore, e_iinc, e_iadd, e_isub, e_imul, e_iand, e_ishr, e_idiv, e_i2c, e_dup_i, e_dup_r, e_dup2, e_pop, e_goto, e_nop, e_if_eq, e_if_ne, e_if_lt, e_if_ge, e_if_gt, e_if_le, e_icmp_eq, e_icmp_ne, e_icmp_lt, e_icmp_ge, e_icmp_gt, e_icmp_le, e_tsw, e_ret0, e_ret1, e_retn, e_getI, e_getZ, e_getR, e_getV, e_getC, e_putI, e_putZ, e_putF, e_gst0, e_gst1, e_sld, e_iald, e_cald, e_bald, e_iast, e_cast, e_aald, e_aast, e_alen, e_slen, e_blen, e_newa, e_newq, e_new, e_oinit, e_ctor, e_virt, e_stat, e_min, e_copy, e_ldc, List.cons_append, List.nil_append, List.append_nil, List.length_cons, List.length_nil, List.replicate_succ, List.replicate_zero, List.getElem?_cons_zero, List.getElem?_cons_succ, List.set_cons_zero, List.set_cons_succ, List.take_succ_cons, List.take_zero, List.drop_succ_cons, List.drop_zero, List.reverse_cons, List.reverse_nil, Option.toList_some, Option.toList_none, Nat.reduceSub, Nat.reduceAdd, Nat.reduceLeDiff, true_and, and_true, and_self, Option.some.injEq, exists_eq_left', Nat.zero_add, Value.int.injEq, Value.ref.injEq, List.cons.injEq, exists_and_left, and_assoc, exists_eq_left, bk_28_2, h0, h1, h2, e1, hz, o_le_r, if_neg, n_in, n_cl, o_add_l, true_or, or_true, if_pos, if_neg, not_true_eq_false, not_false_eq_true, or_true, true_or, or_false, false_or, false_and, and_false, Nat.reduceEqDiff, Nat.reduceLT, Nat.reduceMul, Nat.not_lt_zero, Nat.zero_le, Nat.le_refl, ne_eq, reduceIte, reduceCtorEq]
    by_cases c : I (a + 6 + 4 * k) 3 = 0
    · rw [if_neg (by simp [c])]
      have hs : fB (fun s => I (a + 6 + 4 * s) 3 == 0) 6 (k + 1) = k := by simp [fB, hfb, c]
      have hst : ∀ j, k + 1 ≤ j → j ≤ 6 → fB (fun s => I (a + 6 + 4 * s) 3 == 0) 6 j = k := by
        intro j
        induction j with
        | zero => intro h; omega
        | succ j ih =>
          intro hj1 hj2
          rcases Nat.lt_or_ge j (k + 1) with z | z
          · rw [show j = k by omega]; exact hs
          · rw [fB, ih z (by omega), if_neg (by omega)]
      rw [hst 6 (by omega) (Nat.le_refl _)]
    · rw [if_pos c, B_28_22]
      simp (disch := omega) only [e_iconst, e_bipush, e_sipush, e_iload_n, e_iload, e_aload_n, e_aload, e_istore_n, e_istore, e_astore_n, e_astore, e_iinc, e_iadd, e_isub, e_imul, e_iand, e_ishr, e_idiv, e_i2c, e_dup_i, e_dup_r, e_dup2, e_pop, e_goto, e_nop, e_if_eq, e_if_ne, e_if_lt, e_if_ge, e_if_gt, e_if_le, e_icmp_eq, e_icmp_ne, e_icmp_lt, e_icmp_ge, e_icmp_gt, e_icmp_le, e_tsw, e_ret0, e_ret1, e_retn, e_getI, e_getZ, e_getR, e_getV, e_getC, e_putI, e_putZ, e_putF, e_gst0, e_gst1, e_sld, e_iald, e_cald, e_bald, e_iast, e_cast, e_aald, e_aast, e_alen, e_slen, e_blen, e_newa, e_newq, e_new, e_oinit, e_ctor, e_virt, e_stat, e_min, e_copy, e_ldc, List.cons_append, List.nil_append, List.append_nil, List.length_cons, List.length_nil, List.replicate_succ, List.replicate_zero, List.getElem?_cons_zero, List.getElem?_cons_succ, List.set_cons_zero, List.set_cons_succ, List.take_succ_cons, List.take_zero, List.drop_succ_cons, List.drop_zero, List.reverse_cons, List.reverse_nil, Option.toList_some, Option.toList_none, Nat.reduceSub, Nat.reduceAdd, Nat.reduceLeDiff, true_and, and_true, and_self, Option.some.injEq, exists_eq_left', Nat.zero_add, Value.int.injEq, Value.ref.injEq, List.cons.injEq, exists_and_left, and_assoc, exists_eq_left, bk_28_22, o_add_l, if_pos, if_neg, not_true_eq_false, not_false_eq_true, or_true, true_or, or_false, false_or, false_and, and_false, Nat.reduceEqDiff, Nat.reduceLT, Nat.reduceMul, Nat.not_lt_zero, Nat.zero_le, Nat.le_refl, ne_eq, reduceIte, reduceCtorEq]
      exact hnext (by simp [fB, hfb, c])
  · intro hfb
    rw [B_28_2]
    simp (disch := omega) only [e_iconst, e_bipush, e_sipush, e_iload_n, e_iload, e_aload_n, e_aload, e_istore_n, e_istore, e_astore_n, e_astore, e_iinc, e_iadd, e_isub, e_imul, e_iand, e_ishr, e_idiv, e_i2c, e_dup_i, e_dup_r, e_dup2, e_pop, e_goto, e_nop, e_if_eq, e_if_ne, e_if_lt, e_if_ge, e_if_gt, e_if_le, e_icmp_eq, e_icmp_ne, e_icmp_lt, e_icmp_ge, e_icmp_gt, e_icmp_le, e_tsw, e_ret0, e_ret1, e_retn, e_getI, e_getZ, e_getR, e_getV, e_getC, e_putI, e_putZ, e_putF, e_gst0, e_gst1, e_sld, e_iald, e_cald, e_bald, e_iast, e_cast, e_aald, e_aast, e_alen, e_slen, e_blen, e_newa, e_newq, e_new, e_oinit, e_ctor, e_virt, e_stat, e_min, e_copy, e_ldc, List.cons_append, List.nil_append, List.append_nil, List.length_cons, List.length_nil, List.replicate_succ, List.replicate_zero, List.getElem?_cons_zero, List.getElem?_cons_succ, List.set_cons_zero, List.set_cons_succ, List.take_succ_cons, List.take_zero, List.drop_succ_cons, List.drop_zero, List.reverse_cons, List.reverse_nil, Option.toList_some, Option.toList_none, Nat.reduceSub, Nat.reduceAdd, Nat.reduceLeDiff, true_and, and_true, and_self, Option.some.injEq, exists_eq_left', Nat.zero_add, Value.int.injEq, Value.ref.injEq, List.cons.injEq, exists_and_left, and_assoc, exists_eq_left, bk_28_2, B_28_28, bk_28_28, o_le_r, if_pos, Nat.le_refl, if_pos, if_neg, not_true_eq_false, not_false_eq_true, or_true, true_or, or_false, false_or, false_and, and_false, Nat.reduceEqDiff, Nat.reduceLT, Nat.reduceMul, Nat.not_lt_zero, Nat.zero_le, Nat.le_refl, ne_eq, reduceIte, reduceCtorEq, hfb]
    exact rfl
/-- the history's array of states: four of the four places, in some order -/
def zH (K : mK) (R : Nat → Nat → Option Nat) (f : Nat → Nat) : Prop := K.2.2.1 31 = (1, 1) ∧ R 31 0 = some 32 ∧ K.2.2.1 32 = (5, 4) ∧ (∀ j, j < 4 → R 32 j = some (33 + 30 * f j)) ∧ (∀ j, j < 4 → f j < 4) ∧ (∀ i j, i < 4 → j < 4 → f i = f j → i = j) ∧ ∀ q, q < 4 → zS K R (33 + 30 * q)
theorem mSetR_ne {R : Nat → Nat → Option Nat} {a k b j : Nat} {x : Option Nat} (h : b ≠ a) : mSetR R a k x b j = R b j := if_neg (fun q => h q.1)
theorem zW_R {K : mK} {R : Nat → Nat → Option Nat} {a k : Nat} {x : Option Nat} {b : Nat} (h : zW K R b) (hab : a ≠ b) : zW K (mSetR R a k x) b := by
  obtain ⟨h0, h1, h2, h3, h4, h5, h6, h7⟩ := h
  exact ⟨h0, h1, h2, h3, by rw [mSetR_ne (Ne.symm hab)]; exact h4, by rw [mSetR_ne (Ne.symm hab)]; exact h5, by rw [mSetR_ne (Ne.symm hab)]; exact h6, h7⟩
theorem zL_R {K : mK} {R : Nat → Nat → Option Nat} {a k : Nat} {x : Option Nat} {b : Nat} (h : zL K R b) (hab : a ≠ b) : zL K (mSetR R a k x) b := by
  obtain ⟨h0, h1, h2, h3, h4, h5, h6, h7⟩ := h
  exact ⟨h0, h1, h2, h3, by rw [mSetR_ne (Ne.symm hab)]; exact h4, by rw [mSetR_ne (Ne.symm hab)]; exact h5, by rw [mSetR_ne (Ne.symm hab)]; exact h6, h7⟩
theorem zS_R {K : mK} {R : Nat → Nat → Option Nat} {k : Nat} {x : Option Nat} {b : Nat} (h : zS K R b) (hb : b + 30 ≤ 32 ∨ 32 < b) : zS K (mSetR R 32 k x) b := by
  obtain ⟨h0, h1, h2, h3, h4, h5, h6⟩ := h
  refine ⟨h0, by rw [mSetR_ne (by omega)]; exact h1, h2, by rw [mSetR_ne (by omega)]; exact h3, zL_R h4 (by omega), h5, fun s hs => ⟨by rw [mSetR_ne (by omega)]; exact (h6 s hs).1, zW_R (h6 s hs).2 (by omega)⟩⟩
/-- the references behind a turn of the history -/
def rTu (R : Nat → Nat → Option Nat) (k : Nat) : Nat → Nat → Option Nat := fun x j => if x = 32 ∧ j + 1 < k then R 32 (j + 1) else R x j
def rTt (R : Nat → Nat → Option Nat) : Nat → Nat → Option Nat := fun x j => if x = 32 ∧ j < 3 then R 32 (j + 1) else if x = 32 ∧ j = 3 then R 32 0 else R x j
theorem m_turn {K : mK} {R : Nat → Nat → Option Nat} {I : Nat → Nat → Int32} {f : Nat → Nat} {Q : Option Value → mH → Prop} (h : zH K R f) : EvM 10 [.ref 31] (K, R, I) Q ↔ Q none (K, rTt R, mSet I 31 1 3) := by
  obtain ⟨h0, h1, h2, h3, h4, h5, h6⟩ := id h
  have s0 := (h6 (f 0) (h4 0 (by omega))).1
  have s1 := (h6 (f 1) (h4 1 (by omega))).1
  have s2 := (h6 (f 2) (h4 2 (by omega))).1
  have s3 := (h6 (f 3) (h4 3 (by omega))).1
  have r0 := h3 0 (by omega)
  have r1 := h3 1 (by omega)
  have r2 := h3 2 (by omega)
  have r3 := h3 3 (by omega)
  refine EvM_iff ?_
  unfold EvM
  rw [B_10_0]
  have a1 : ∀ {Z : Nat → Nat → Option Nat} {k : Nat} {x : Option Nat}, mSetR Z 32 k x 31 0 = Z 31 0 := by intro Z k x; exact mSetR_ne (by omega)
  have a2 : ∀ {Z : Nat → Nat → Option Nat} {k j : Nat} {x : Option Nat}, j ≠ k → mSetR Z 32 k x 32 j = Z 32 j := by intro Z k j x hj; exact if_neg (fun q => hj q.2)
  simp (disch := omega) only [e_iconst, e_bipush, e_sipush, e_iload_n, e_iload, e_aload_n, e_aload, e_istore_n, e_istore, e_astore_n, e_astore, e_iinc, e_iadd, e_isub, e_imul, e_iand, e_ishr, e_idiv, e_i2c, e_dup_i, e_dup_r, e_dup2, e_pop, e_goto, e_nop, e_if_eq, e_if_ne, e_if_lt, e_if_ge, e_if_gt, e_if_le, e_icmp_eq, e_icmp_ne, e_icmp_lt, e_icmp_ge, e_icmp_gt, e_icmp_le, e_tsw, e_ret0, e_ret1, e_retn, e_getI, e_getZ, e_getR, e_getV, e_getC, e_putI, e_putZ, e_putF, e_gst0, e_gst1, e_sld, e_iald, e_cald, e_bald, e_iast, e_cast, e_aald, e_aast, e_alen, e_slen, e_blen, e_newa, e_newq, e_new, e_oinit, e_ctor, e_virt, e_stat, e_min, e_copy, e_ldc, List.cons_append, List.nil_append, List.append_nil, List.length_cons, List.length_nil, List.replicate_succ, List.replicate_zero, List.getElem?_cons_zero, List.getElem?_cons_succ, List.set_cons_zero, List.set_cons_succ, List.take_succ_cons, List.take_zero, List.drop_succ_cons, List.drop_zero, List.reverse_cons, List.reverse_nil, Option.toList_some, Option.toList_none, Nat.reduceSub, Nat.reduceAdd, Nat.reduceLeDiff, true_and, and_true, and_self, Option.some.injEq, exists_eq_left', Nat.zero_add, Value.int.injEq, Value.ref.injEq, List.cons.injEq, exists_and_left, and_assoc, exists_eq_left, N_10, bk_10_0, h0, h1, h2, r0, o_in, o_cl, true_or, or_true, if_pos, if_neg, not_true_eq_false, not_false_eq_true, or_true, true_or, or_false, false_or, false_and, and_false, Nat.reduceEqDiff, Nat.reduceLT, Nat.reduceMul, Nat.not_lt_zero, Nat.zero_le, Nat.le_refl, ne_eq, reduceIte, reduceCtorEq]
  rw [B_10_9]
  simp (disch := omega) only [e_iconst, e_bipush, e_sipush, e_iload_n, e_iload, e_aload_n, e_aload, e_istore_n, e_istore, e_astore_n, e_astore, e_iinc, e_iadd, e_isub, e_imul, e_iand, e_ishr, e_idiv, e_i2c, e_dup_i, e_dup_r, e_dup2, e_pop, e_goto, e_nop, e_if_eq, e_if_ne, e_if_lt, e_if_ge, e_if_gt, e_if_le, e_icmp_eq, e_icmp_ne, e_icmp_lt, e_icmp_ge, e_icmp_gt, e_icmp_le, e_tsw, e_ret0, e_ret1, e_retn, e_getI, e_getZ, e_getR, e_getV, e_getC, e_putI, e_putZ, e_putF, e_gst0, e_gst1, e_sld, e_iald, e_cald, e_bald, e_iast, e_cast, e_aald, e_aast, e_alen, e_slen, e_blen, e_newa, e_newq, e_new, e_oinit, e_ctor, e_virt, e_stat, e_min, e_copy, e_ldc, List.cons_append, List.nil_append, List.append_nil, List.length_cons, List.length_nil, List.replicate_succ, List.replicate_zero, List.getElem?_cons_zero, List.getElem?_cons_succ, List.set_cons_zero, List.set_cons_succ, List.take_succ_cons, List.take_zero, List.drop_succ_cons, List.drop_zero, List.reverse_cons, List.reverse_nil, Option.toList_some, Option.toList_none, Nat.reduceSub, Nat.reduceAdd, Nat.reduceLeDiff, true_and, and_true, and_self, Option.some.injEq, exists_eq_left', Nat.zero_add, Value.int.injEq, Value.ref.injEq, List.cons.injEq, exists_and_left, and_assoc, exists_eq_left, bk_10_9, h0, h1, h2, s1, r1, o_in, o_cl, o_le, o_sub_l, if_neg, Int32.reduceSub, Int32.reduceAdd, true_or, or_true, a1, if_pos, if_neg, not_true_eq_false, not_false_eq_true, or_true, true_or, or_false, false_or, false_and, and_false, Nat.reduceEqDiff, Nat.reduceLT, Nat.reduceMul, Nat.not_lt_zero, Nat.zero_le, Nat.le_refl, ne_eq, reduceIte, reduceCtorEq]
  rw [B_10_9]
  simp (disch := omega) only [e_iconst, e_bipush, e_sipush, e_iload_n, e_iload, e_aload_n, e_aload, e_istore_n, e_istore, e_astore_n, e_astore, e_iinc, e_iadd, e_isub, e_imul, e_iand, e_ishr, e_idiv, e_i2c, e_dup_i, e_dup_r, e_dup2, e_pop, e_goto, e_nop, e_if_eq, e_if_ne, e_if_lt, e_if_ge, e_if_gt, e_if_le, e_icmp_eq, e_icmp_ne, e_icmp_lt, e_icmp_ge, e_icmp_gt, e_icmp_le, e_tsw, e_ret0, e_ret1, e_retn, e_getI, e_getZ, e_getR, e_getV, e_getC, e_putI, e_putZ, e_putF, e_gst0, e_gst1, e_sld, e_iald, e_cald, e_bald, e_iast, e_cast, e_aald, e_aast, e_alen, e_slen, e_blen, e_newa, e_newq, e_new, e_oinit, e_ctor, e_virt, e_stat, e_min, e_copy, e_ldc, List.cons_append, List.nil_append, List.append_nil, List.length_cons, List.length_nil, List.replicate_succ, List.replicate_zero, List.getElem?_cons_zero, List.getElem?_cons_succ, List.set_cons_zero, List.set_cons_succ, List.take_succ_cons, List.take_zero, List.drop_succ_cons, List.drop_zero, List.reverse_cons, List.reverse_nil, Option.toList_some, Option.toList_none, Nat.reduceSub, Nat.reduceAdd, Nat.reduceLeDiff, true_and, and_true, and_self, Option.some.injEq, exists_eq_left', Nat.zero_add, Value.int.injEq, Value.ref.injEq, List.cons.injEq, exists_and_left, and_assoc, exists_eq_left, bk_10_9, h0, h1, h2, s2, r2, o_in, o_cl, o_le, if_neg, Int32.reduceSub, Int32.reduceAdd, true_or, or_true, a1, a2, if_pos, if_neg, not_true_eq_false, not_false_eq_true, or_true, true_or, or_false, false_or, false_and, and_false, Nat.reduceEqDiff, Nat.reduceLT, Nat.reduceMul, Nat.not_lt_zero, Nat.zero_le, Nat.le_refl, ne_eq, reduceIte, reduceCtorEq]
  rw [B_10_9]
  simp (disch := omega) only [e_iconst, e_bipush, e_sipush, e_iload_n, e_iload, e_aload_n, e_aload, e_istore_n, e_istore, e_astore_n, e_astore, e_iinc, e_iadd, e_isub, e_imul, e_iand, e_ishr, e_idiv, e_i2c, e_dup_i, e_dup_r, e_dup2, e_pop, e_goto, e_nop, e_if_eq, e_if_ne, e_if_lt, e_if_ge, e_if_gt, e_if_le, e_icmp_eq, e_icmp_ne, e_icmp_lt, e_icmp_ge, e_icmp_gt, e_icmp_le, e_tsw, e_ret0, e_ret1, e_retn, e_getI, e_getZ, e_getR, e_getV, e_getC, e_putI, e_putZ, e_putF, e_gst0, e_gst1, e_sld, e_iald, e_cald, e_bald, e_iast, e_cast, e_aald, e_aast, e_alen, e_slen, e_blen, e_newa, e_newq, e_new, e_oinit, e_ctor, e_virt, e_stat, e_min, e_copy, e_ldc, List.cons_append, List.nil_append, List.append_nil, List.length_cons, List.length_nil, List.replicate_succ, List.replicate_zero, List.getElem?_cons_zero, List.getElem?_cons_succ, List.set_cons_zero, List.set_cons_succ, List.take_succ_cons, List.take_zero, List.drop_succ_cons, List.drop_zero, List.reverse_cons, List.reverse_nil, Option.toList_some, Option.toList_none, Nat.reduceSub, Nat.reduceAdd, Nat.reduceLeDiff, true_and, and_true, and_self, Option.some.injEq, exists_eq_left', Nat.zero_add, Value.int.injEq, Value.ref.injEq, List.cons.injEq, exists_and_left, and_assoc, exists_eq_left, bk_10_9, h0, h1, h2, s3, r3, o_in, o_cl, o_le, if_neg, Int32.reduceSub, Int32.reduceAdd, true_or, or_true, a1, a2, if_pos, if_neg, not_true_eq_false, not_false_eq_true, or_true, true_or, or_false, false_or, false_and, and_false, Nat.reduceEqDiff, Nat.reduceLT, Nat.reduceMul, Nat.not_lt_zero, Nat.zero_le, Nat.le_refl, ne_eq, reduceIte, reduceCtorEq]
  rw [B_10_9]
  simp (disch := omega) only [e_iconst, e_bipush, e_sipush, e_iload_n, e_iload, e_aload_n, e_aload, e_istore_n, e_istore, e_astore_n, e_astore, e_iinc, e_iadd, e_isub, e_imul, e_iand, e_ishr, e_idiv, e_i2c, e_dup_i, e_dup_r, e_dup2, e_pop, e_goto, e_nop, e_if_eq, e_if_ne, e_if_lt, e_if_ge, e_if_gt, e_if_le, e_icmp_eq, e_icmp_ne, e_icmp_lt, e_icmp_ge, e_icmp_gt, e_icmp_le, e_tsw, e_ret0, e_ret1, e_retn, e_getI, e_getZ, e_getR, e_getV, e_getC, e_putI, e_putZ, e_putF, e_gst0, e_gst1, e_sld, e_iald, e_cald, e_bald, e_iast, e_cast, e_aald, e_aast, e_alen, e_slen, e_blen, e_newa, e_newq, e_new, e_oinit, e_ctor, e_virt, e_stat, e_min, e_copy, e_ldc, List.cons_append, List.nil_append, List.append_nil, List.length_cons, List.length_nil, List.replicate_succ, List.replicate_zero, List.getElem?_cons_zero, List.getElem?_cons_succ, List.set_cons_zero, List.set_cons_succ, List.take_succ_cons, List.take_zero, List.drop_succ_cons, List.drop_zero, List.reverse_cons, List.reverse_nil, Option.toList_some, Option.toList_none, Nat.reduceSub, Nat.reduceAdd, Nat.reduceLeDiff, true_and, and_true, and_self, Option.some.injEq, exists_eq_left', Nat.zero_add, Value.int.injEq, Value.ref.injEq, List.cons.injEq, exists_and_left, and_assoc, exists_eq_left, bk_10_9, B_10_34, bk_10_34, h0, h1, h2, s0, o_in, o_cl, o_le, if_pos, Int32.reduceSub, Int32.reduceAdd, true_or, or_true, a1, a2, if_pos, if_neg, not_true_eq_false, not_false_eq_true, or_true, true_or, or_false, false_or, false_and, and_false, Nat.reduceEqDiff, Nat.reduceLT, Nat.reduceMul, Nat.not_lt_zero, Nat.zero_le, Nat.le_refl, ne_eq, reduceIte, reduceCtorEq]
  congr 2
  funext x j
  simp only [mSetR, rTt]
  by_cases c : x = 32
  · subst c
    rcases (show j = 0 ∨ j = 1 ∨ j = 2 ∨ j = 3 ∨ 4 ≤ j by omega) with rfl | rfl | rfl | rfl | hj
    · simp [r1]
    · simp [r2]
    · simp [r3]
    · simp [r0]
    · rw [if_neg (by omega), if_neg (by omega), if_neg (by omega), if_neg (by omega), if_neg (by omega), if_neg (by omega)]
  · rw [if_neg (by omega), if_neg (by omega), if_neg (by omega), if_neg (by omega), if_neg (by omega), if_neg (by omega)]
/-- what a change of the row 32 keeps -/
theorem zW_c {K : mK} {R R' : Nat → Nat → Option Nat} {b : Nat} (hR : ∀ x, x ≠ 32 → R' x = R x) (h : zW K R b) (hb : b ≠ 32) : zW K R' b := by
  obtain ⟨h0, h1, h2, h3, h4, h5, h6, h7⟩ := h
  exact ⟨h0, h1, h2, h3, by rw [hR b hb]; exact h4, by rw [hR b hb]; exact h5, by rw [hR b hb]; exact h6, h7⟩
theorem zL_c {K : mK} {R R' : Nat → Nat → Option Nat} {b : Nat} (hR : ∀ x, x ≠ 32 → R' x = R x) (h : zL K R b) (hb : b ≠ 32) : zL K R' b := by
  obtain ⟨h0, h1, h2, h3, h4, h5, h6, h7⟩ := h
  exact ⟨h0, h1, h2, h3, by rw [hR b hb]; exact h4, by rw [hR b hb]; exact h5, by rw [hR b hb]; exact h6, h7⟩
theorem zS_c {K : mK} {R R' : Nat → Nat → Option Nat} {b : Nat} (hR : ∀ x, x ≠ 32 → R' x = R x) (h : zS K R b) (hb : b + 30 ≤ 32 ∨ 32 < b) : zS K R' b := by
  obtain ⟨h0, h1, h2, h3, h4, h5, h6⟩ := h
  exact ⟨h0, by rw [hR _ (by omega)]; exact h1, h2, by rw [hR _ (by omega)]; exact h3, zL_c hR h4 (by omega), h5, fun s hs => ⟨by rw [hR _ (by omega)]; exact (h6 s hs).1, zW_c hR (h6 s hs).2 (by omega)⟩⟩
theorem rTt_o {R : Nat → Nat → Option Nat} : ∀ x, x ≠ 32 → rTt R x = R x := by
  intro x hx
  funext j
  rw [rTt, if_neg (fun q => hx q.1), if_neg (fun q => hx q.1)]
def fTu (f : Nat → Nat) : Nat → Nat := fun j => if j = 3 then f 0 else f (j + 1)
theorem zH_turn {K : mK} {R : Nat → Nat → Option Nat} {f : Nat → Nat} (h : zH K R f) : zH K (rTt R) (fTu f) := by
  obtain ⟨h0, h1, h2, h3, h4, h5, h6⟩ := id h
  refine ⟨h0, by rw [rTt_o 31 (by omega)]; exact h1, h2, fun j hj => ?_, fun j hj => ?_, fun i j hi hj e => ?_, fun q hq => zS_c rTt_o (h6 q hq) (by omega)⟩
  · unfold rTt fTu
    by_cases c : j = 3
    · rw [if_neg (by omega), if_pos ⟨rfl, c⟩, if_pos c]; exact h3 0 (by omega)
    · rw [if_pos ⟨rfl, by omega⟩, if_neg c]; exact h3 (j + 1) (by omega)
  · unfold fTu
    split
    · exact h4 0 (by omega)
    · exact h4 (j + 1) (by omega)
  · unfold fTu at e
    by_cases c : i = 3 <;> by_cases c2 : j = 3
    · omega
    · rw [if_pos c, if_neg c2] at e
      have := h5 _ _ (by omega) (by omega) e
      omega
    · rw [if_neg c, if_pos c2] at e
      have := h5 _ _ (by omega) (by omega) e
      omega
    · rw [if_neg c, if_neg c2] at e
      have := h5 _ _ (by omega) (by omega) e
      omega
/-- the cells behind a remembering of the state 1 in the place q -/
def hRm (I : Nat → Nat → Int32) (q n : Nat) : Nat → Nat → Int32 := mSet (sCp I (33 + 30 * q) 1) 31 1 (nI (if n = 4 then 4 else n + 1))
theorem m_remember {K : mK} {R : Nat → Nat → Option Nat} {I : Nat → Nat → Int32} {f : Nat → Nat} {n : Nat} {Q : Option Value → mH → Prop} (h : zH K R f) (hs : zS K R 1) (hn : I 31 1 = nI n) (hn2 : n ≤ 4) (hb : ∀ s, s < 6 → ∃ p cl, p ≤ 1 ∧ cl ≤ 1 ∧ I (1 + 6 + 4 * s) 3 = nI p ∧ I (1 + 6 + 4 * s) 4 = nI cl) :
    EvM 9 [.ref 31, .ref 1] (K, R, I) Q ↔ Q none (K, (if n = 4 then rTt R else R), hRm I (if n = 4 then f 0 else f n) n) := by
  obtain ⟨h0, h1, h2, h3, h4, h5, h6⟩ := id h
  refine EvM_iff ?_
  unfold EvM
  rw [B_9_0]
  by_cases e : n = 4
  · subst e
    have q4 := h4 0 (by omega)
    have t0 := zH_turn h
    obtain ⟨g0, g1, g2, g3, g4, g5, g6⟩ := id t0
    have e3 : rTt R 32 3 = some (33 + 30 * f 0) := g3 3 (by omega)
    have hs' : zS K (rTt R) 1 := zS_c rTt_o hs (by omega)
    have hz := (g6 (f 0) q4).1
    simp (disch := omega) only [e_iconst, e_bipush, e_sipush, e_iload_n, e_iload, e_aload_n, e_aload, e_istore_n, e_istore, e_astore_n, e_astore, e_iinc, e_iadd, e_isub, e_imul, e_iand, e_ishr, e_idiv, e_i2c, e_dup_i, e_dup_r, e_dup2, e_pop, e_goto, e_nop, e_if_eq, e_if_ne, e_if_lt, e_if_ge, e_if_gt, e_if_le, e_icmp_eq, e_icmp_ne, e_icmp_lt, e_icmp_ge, e_icmp_gt, e_icmp_le, e_tsw, e_ret0, e_ret1, e_retn, e_getI, e_getZ, e_getR, e_getV, e_getC, e_putI, e_putZ, e_putF, e_gst0, e_gst1, e_sld, e_iald, e_cald, e_bald, e_iast, e_cast, e_aald, e_aast, e_alen, e_slen, e_blen, e_newa, e_newq, e_new, e_oinit, e_ctor, e_virt, e_stat, e_min, e_copy, e_ldc, List.cons_append, List.nil_append, List.append_nil, List.length_cons, List.length_nil, List.replicate_succ, List.replicate_zero, List.getElem?_cons_zero, List.getElem?_cons_succ, List.set_cons_zero, List.set_cons_succ, List.take_succ_cons, List.take_zero, List.drop_succ_cons, List.drop_zero, List.reverse_cons, List.reverse_nil, Option.toList_some, Option.toList_none, Nat.reduceSub, Nat.reduceAdd, Nat.reduceLeDiff, true_and, and_true, and_self, Option.some.injEq, exists_eq_left', Nat.zero_add, Value.int.injEq, Value.ref.injEq, List.cons.injEq, exists_and_left, and_assoc, exists_eq_left, N_9, bk_9_0, h0, hn, o_eq_l, C_10, m_turn h, if_pos, if_neg, not_true_eq_false, not_false_eq_true, or_true, true_or, or_false, false_or, false_and, and_false, Nat.reduceEqDiff, Nat.reduceLT, Nat.reduceMul, Nat.not_lt_zero, Nat.zero_le, Nat.le_refl, ne_eq, reduceIte, reduceCtorEq]
    rw [B_9_12]
    simp (disch := omega) only [e_iconst, e_bipush, e_sipush, e_iload_n, e_iload, e_aload_n, e_aload, e_istore_n, e_istore, e_astore_n, e_astore, e_iinc, e_iadd, e_isub, e_imul, e_iand, e_ishr, e_idiv, e_i2c, e_dup_i, e_dup_r, e_dup2, e_pop, e_goto, e_nop, e_if_eq, e_if_ne, e_if_lt, e_if_ge, e_if_gt, e_if_le, e_icmp_eq, e_icmp_ne, e_icmp_lt, e_icmp_ge, e_icmp_gt, e_icmp_le, e_tsw, e_ret0, e_ret1, e_retn, e_getI, e_getZ, e_getR, e_getV, e_getC, e_putI, e_putZ, e_putF, e_gst0, e_gst1, e_sld, e_iald, e_cald, e_bald, e_iast, e_cast, e_aald, e_aast, e_alen, e_slen, e_blen, e_newa, e_newq, e_new, e_oinit, e_ctor, e_virt, e_stat, e_min, e_copy, e_ldc, List.cons_append, List.nil_append, List.append_nil, List.length_cons, List.length_nil, List.replicate_succ, List.replicate_zero, List.getElem?_cons_zero, List.getElem?_cons_succ, List.set_cons_zero, List.set_cons_succ, List.take_succ_cons, List.take_zero, List.drop_succ_cons, List.drop_zero, List.reverse_cons, List.reverse_nil, Option.toList_some, Option.toList_none, Nat.reduceSub, Nat.reduceAdd, Nat.reduceLeDiff, true_and, and_true, and_self, Option.some.injEq, exists_eq_left', Nat.zero_add, Value.int.injEq, Value.ref.injEq, List.cons.injEq, exists_and_left, and_assoc, exists_eq_left, bk_9_12, g0, g1, g2, e3, hz, s_eq, o_in, o_cl, true_or, or_true, C_25, m_scopy (I := mSet I 31 1 3) (g6 (f 0) q4) hs' (by omega) (by intro s hs1; obtain ⟨p, cl, p1, p2, p3, p4⟩ := hb s hs1; exact ⟨p, cl, p1, p2, by rw [s_ne (by omega)]; exact p3, by rw [s_ne (by omega)]; exact p4⟩), if_pos, if_neg, not_true_eq_false, not_false_eq_true, or_true, true_or, or_false, false_or, false_and, and_false, Nat.reduceEqDiff, Nat.reduceLT, Nat.reduceMul, Nat.not_lt_zero, Nat.zero_le, Nat.le_refl, ne_eq, reduceIte, reduceCtorEq]
    have e4 : sCp (mSet I 31 1 3) (33 + 30 * f 0) 1 31 1 = 3 := by rw [sCp_o (by omega), s_eq]
    rw [e4]
    congr 2
    funext x j
    by_cases c : x = 31 ∧ j = 1
    · rw [hRm, s_eqj c, s_eqj c, if_pos rfl]; rfl
    · rw [hRm, s_ne c, s_ne c]
      simp only [sCp]
      have z1 : ∀ y, y < 31 → ∀ i, mSet I 31 1 3 y i = I y i := fun y hy i => s_ne (by omega)
      (repeat' split) <;> first | (exact z1 _ (by omega) _) | (exact s_ne c)
  · have q4 := h4 n (by omega)
    have e3 := h3 n (by omega)
    have hz := (h6 (f n) q4).1
    simp (disch := omega) only [e_iconst, e_bipush, e_sipush, e_iload_n, e_iload, e_aload_n, e_aload, e_istore_n, e_istore, e_astore_n, e_astore, e_iinc, e_iadd, e_isub, e_imul, e_iand, e_ishr, e_idiv, e_i2c, e_dup_i, e_dup_r, e_dup2, e_pop, e_goto, e_nop, e_if_eq, e_if_ne, e_if_lt, e_if_ge, e_if_gt, e_if_le, e_icmp_eq, e_icmp_ne, e_icmp_lt, e_icmp_ge, e_icmp_gt, e_icmp_le, e_tsw, e_ret0, e_ret1, e_retn, e_getI, e_getZ, e_getR, e_getV, e_getC, e_putI, e_putZ, e_putF, e_gst0, e_gst1, e_sld, e_iald, e_cald, e_bald, e_iast, e_cast, e_aald, e_aast, e_alen, e_slen, e_blen, e_newa, e_newq, e_new, e_oinit, e_ctor, e_virt, e_stat, e_min, e_copy, e_ldc, List.cons_append, List.nil_append, List.append_nil, List.length_cons, List.length_nil, List.replicate_succ, List.replicate_zero, List.getElem?_cons_zero, List.getElem?_cons_succ, List.set_cons_zero, List.set_cons_succ, List.take_succ_cons, List.take_zero, List.drop_succ_cons, List.drop_zero, List.reverse_cons, List.reverse_nil, Option.toList_some, Option.toList_none, Nat.reduceSub, Nat.reduceAdd, Nat.reduceLeDiff, true_and, and_true, and_self, Option.some.injEq, exists_eq_left', Nat.zero_add, Value.int.injEq, Value.ref.injEq, List.cons.injEq, exists_and_left, and_assoc, exists_eq_left, N_9, bk_9_0, h0, hn, o_eq_l, if_pos, e, if_pos, if_neg, not_true_eq_false, not_false_eq_true, or_true, true_or, or_false, false_or, false_and, and_false, Nat.reduceEqDiff, Nat.reduceLT, Nat.reduceMul, Nat.not_lt_zero, Nat.zero_le, Nat.le_refl, ne_eq, reduceIte, reduceCtorEq]
    rw [B_9_12]
    have e4 : sCp I (33 + 30 * f n) 1 31 1 = nI n := by rw [sCp_o (by omega)]; exact hn
    simp (disch := omega) only [e_iconst, e_bipush, e_sipush, e_iload_n, e_iload, e_aload_n, e_aload, e_istore_n, e_istore, e_astore_n, e_astore, e_iinc, e_iadd, e_isub, e_imul, e_iand, e_ishr, e_idiv, e_i2c, e_dup_i, e_dup_r, e_dup2, e_pop, e_goto, e_nop, e_if_eq, e_if_ne, e_if_lt, e_if_ge, e_if_gt, e_if_le, e_icmp_eq, e_icmp_ne, e_icmp_lt, e_icmp_ge, e_icmp_gt, e_icmp_le, e_tsw, e_ret0, e_ret1, e_retn, e_getI, e_getZ, e_getR, e_getV, e_getC, e_putI, e_putZ, e_putF, e_gst0, e_gst1, e_sld, e_iald, e_cald, e_bald, e_iast, e_cast, e_aald, e_aast, e_alen, e_slen, e_blen, e_newa, e_newq, e_new, e_oinit, e_ctor, e_virt, e_stat, e_min, e_copy, e_ldc, List.cons_append, List.nil_append, List.append_nil, List.length_cons, List.length_nil, List.replicate_succ, List.replicate_zero, List.getElem?_cons_zero, List.getElem?_cons_succ, List.set_cons_zero, List.set_cons_succ, List.take_succ_cons, List.take_zero, List.drop_succ_cons, List.drop_zero, List.reverse_cons, List.reverse_nil, Option.toList_some, Option.toList_none, Nat.reduceSub, Nat.reduceAdd, Nat.reduceLeDiff, true_and, and_true, and_self, Option.some.injEq, exists_eq_left', Nat.zero_add, Value.int.injEq, Value.ref.injEq, List.cons.injEq, exists_and_left, and_assoc, exists_eq_left, bk_9_12, h0, h1, h2, hn, e3, hz, n_in, n_cl, true_or, or_true, C_25, m_scopy (h6 (f n) q4) hs (by omega) hb, e4, o_add_l, if_pos, if_neg, not_true_eq_false, not_false_eq_true, or_true, true_or, or_false, false_or, false_and, and_false, Nat.reduceEqDiff, Nat.reduceLT, Nat.reduceMul, Nat.not_lt_zero, Nat.zero_le, Nat.le_refl, ne_eq, reduceIte, reduceCtorEq]
    rw [hRm, if_neg e]
theorem m_takeBack {K : mK} {R : Nat → Nat → Option Nat} {I : Nat → Nat → Int32} {f : Nat → Nat} {n : Nat} {Q : Option Value → mH → Prop} (h : zH K R f) (hs : zS K R 1) (hn : I 31 1 = nI n) (hn2 : n ≤ 4) (hb : 0 < n → ∀ s, s < 6 → ∃ p cl, p ≤ 1 ∧ cl ≤ 1 ∧ I (33 + 30 * f (n - 1) + 6 + 4 * s) 3 = nI p ∧ I (33 + 30 * f (n - 1) + 6 + 4 * s) 4 = nI cl) :
    EvM 11 [.ref 31, .ref 1] (K, R, I) Q ↔ Q (some (.int (if n = 0 then 0 else 1))) (K, R, if n = 0 then I else sCp (mSet I 31 1 (nI (n - 1))) 1 (33 + 30 * f (n - 1))) := by
  obtain ⟨h0, h1, h2, h3, h4, h5, h6⟩ := id h
  refine EvM_iff ?_
  unfold EvM
  rw [B_11_0]
  by_cases e : n = 0
  · subst e
    simp (disch := omega) only [e_iconst, e_bipush, e_sipush, e_iload_n, e_iload, e_aload_n, e_aload, e_istore_n, e_istore, e_astore_n, e_astore, e_iinc, e_iadd, e_isub, e_imul, e_iand, e_ishr, e_idiv, e_i2c, e_dup_i, e_dup_r, e_dup2, e_pop, e_goto, e_nop, e_if_eq, e_if_ne, e_if_lt, e_if_ge, e_if_gt, e_if_le, e_icmp_eq, e_icmp_ne, e_icmp_lt, e_icmp_ge, e_icmp_gt, e_icmp_le, e_tsw, e_ret0, e_ret1, e_retn, e_getI, e_getZ, e_getR, e_getV, e_getC, e_putI, e_putZ, e_putF, e_gst0, e_gst1, e_sld, e_iald, e_cald, e_bald, e_iast, e_cast, e_aald, e_aast, e_alen, e_slen, e_blen, e_newa, e_newq, e_new, e_oinit, e_ctor, e_virt, e_stat, e_min, e_copy, e_ldc, List.cons_append, List.nil_append, List.append_nil, List.length_cons, List.length_nil, List.replicate_succ, List.replicate_zero, List.getElem?_cons_zero, List.getElem?_cons_succ, List.set_cons_zero, List.set_cons_succ, List.take_succ_cons, List.take_zero, List.drop_succ_cons, List.drop_zero, List.reverse_cons, List.reverse_nil, Option.toList_some, Option.toList_none, Nat.reduceSub, Nat.reduceAdd, Nat.reduceLeDiff, true_and, and_true, and_self, Option.some.injEq, exists_eq_left', Nat.zero_add, Value.int.injEq, Value.ref.injEq, List.cons.injEq, exists_and_left, and_assoc, exists_eq_left, N_11, bk_11_0, h0, hn, o_eq_l, o_eq, if_pos, if_neg, not_true_eq_false, not_false_eq_true, or_true, true_or, or_false, false_or, false_and, and_false, Nat.reduceEqDiff, Nat.reduceLT, Nat.reduceMul, Nat.not_lt_zero, Nat.zero_le, Nat.le_refl, ne_eq, reduceIte, reduceCtorEq]
  · have q4 := h4 (n - 1) (by omega)
    have e3 := h3 (n - 1) (by omega)
    have hz := hs.1
    simp (disch := omega) only [e_iconst, e_bipush, e_sipush, e_iload_n, e_iload, e_aload_n, e_aload, e_istore_n, e_istore, e_astore_n, e_astore, e_iinc, e_iadd, e_isub, e_imul, e_iand, e_ishr, e_idiv, e_i2c, e_dup_i, e_dup_r, e_dup2, e_pop, e_goto, e_nop, e_if_eq, e_if_ne, e_if_lt, e_if_ge, e_if_gt, e_if_le, e_icmp_eq, e_icmp_ne, e_icmp_lt, e_icmp_ge, e_icmp_gt, e_icmp_le, e_tsw, e_ret0, e_ret1, e_retn, e_getI, e_getZ, e_getR, e_getV, e_getC, e_putI, e_putZ, e_putF, e_gst0, e_gst1, e_sld, e_iald, e_cald, e_bald, e_iast, e_cast, e_aald, e_aast, e_alen, e_slen, e_blen, e_newa, e_newq, e_new, e_oinit, e_ctor, e_virt, e_stat, e_min, e_copy, e_ldc, List.cons_append, List.nil_append, List.append_nil, List.length_cons, List.length_nil, List.replicate_succ, List.replicate_zero, List.getElem?_cons_zero, List.getElem?_cons_succ, List.set_cons_zero, List.set_cons_succ, List.take_succ_cons, List.take_zero, List.drop_succ_cons, List.drop_zero, List.reverse_cons, List.reverse_nil, Option.toList_some, Option.toList_none, Nat.reduceSub, Nat.reduceAdd, Nat.reduceLeDiff, true_and, and_true, and_self, Option.some.injEq, exists_eq_left', Nat.zero_add, Value.int.injEq, Value.ref.injEq, List.cons.injEq, exists_and_left, and_assoc, exists_eq_left, N_11, bk_11_0, h0, hn, o_eq_l, if_pos, e, if_pos, if_neg, not_true_eq_false, not_false_eq_true, or_true, true_or, or_false, false_or, false_and, and_false, Nat.reduceEqDiff, Nat.reduceLT, Nat.reduceMul, Nat.not_lt_zero, Nat.zero_le, Nat.le_refl, ne_eq, reduceIte, reduceCtorEq]
    rw [B_11_9]
    simp (disch := omega) only [e_iconst, e_bipush, e_sipush, e_iload_n, e_iload, e_aload_n, e_aload, e_istore_n, e_istore, e_astore_n, e_astore, e_iinc, e_iadd, e_isub, e_imul, e_iand, e_ishr, e_idiv, e_i2c, e_dup_i, e_dup_r, e_dup2, e_pop, e_goto, e_nop, e_if_eq, e_if_ne, e_if_lt, e_if_ge, e_if_gt, e_if_le, e_icmp_eq, e_icmp_ne, e_icmp_lt, e_icmp_ge, e_icmp_gt, e_icmp_le, e_tsw, e_ret0, e_ret1, e_retn, e_getI, e_getZ, e_getR, e_getV, e_getC, e_putI, e_putZ, e_putF, e_gst0, e_gst1, e_sld, e_iald, e_cald, e_bald, e_iast, e_cast, e_aald, e_aast, e_alen, e_slen, e_blen, e_newa, e_newq, e_new, e_oinit, e_ctor, e_virt, e_stat, e_min, e_copy, e_ldc, List.cons_append, List.nil_append, List.append_nil, List.length_cons, List.length_nil, List.replicate_succ, List.replicate_zero, List.getElem?_cons_zero, List.getElem?_cons_succ, List.set_cons_zero, List.set_cons_succ, List.take_succ_cons, List.take_zero, List.drop_succ_cons, List.drop_zero, List.reverse_cons, List.reverse_nil, Option.toList_some, Option.toList_none, Nat.reduceSub, Nat.reduceAdd, Nat.reduceLeDiff, true_and, and_true, and_self, Option.some.injEq, exists_eq_left', Nat.zero_add, Value.int.injEq, Value.ref.injEq, List.cons.injEq, exists_and_left, and_assoc, exists_eq_left, bk_11_9, h0, h1, h2, hn, e3, hz, n_in, n_cl, o_sub_l, s_eq, true_or, or_true, o_eq, C_25, m_scopy (I := mSet I 31 1 (nI (n - 1))) hs (h6 (f (n - 1)) q4) (by omega) (by intro s hs1; obtain ⟨p, cl, p1, p2, p3, p4⟩ := hb (by omega) s hs1; exact ⟨p, cl, p1, p2, by rw [s_ne (by omega)]; exact p3, by rw [s_ne (by omega)]; exact p4⟩), if_pos, if_neg, not_true_eq_false, not_false_eq_true, or_true, true_or, or_false, false_or, false_and, and_false, Nat.reduceEqDiff, Nat.reduceLT, Nat.reduceMul, Nat.not_lt_zero, Nat.zero_le, Nat.le_refl, ne_eq, reduceIte, reduceCtorEq]
end
section
/-! THE WHOLE RELATION, and what an act does to it -/
def zG (K : mK) (R : Nat → Nat → Option Nat) (f : Nat → Nat) : Prop :=
  zM K R ∧ zS K R 1 ∧ zS K R 153 ∧ zH K R f ∧ zW K R 190 ∧ zR K R 186 ∧ zR K R 188 ∧
  (K.2.2.1 0 = (1, 7) ∧ R 0 0 = some 1 ∧ R 0 1 = some 31 ∧ R 0 2 = some 153 ∧ R 0 4 = some 183 ∧ R 0 5 = some 185 ∧ R 0 6 = some 186 ∧ R 0 7 = some 188 ∧ R 0 8 = some 190) ∧
  (K.2.2.1 183 = (1, 5) ∧ R 183 0 = some 184 ∧ K.2.2.1 184 = (3, 50)) ∧ K.2.2.1 185 = (1, 0)
def rH (I : Nat → Nat → Int32) (f : Nat → Nat) (n : Nat) (H : Nat → Int32) : Prop := ∀ j, j < n → RC I (33 + 30 * f j) (fun x => H (626 * j + x))
def rP (I : Nat → Nat → Int32) : Prop := (I 0 3 = 0 ∧ I 194 4 = 0) ∨ (I 0 3 = 1 ∧ I 194 4 = 1 ∧ RC I 153 (I 197))
def rT (I : Nat → Nat → Int32) : Prop := ∃ t, t ≤ 50 ∧ I 183 1 = nI t ∧ I 194 7 = nI t ∧ ∀ k, k < t → I 184 k = I 200 k ∧ ∃ ch, ch < 65536 ∧ I 200 k = nI ch
def REL (K : mK) (R : Nat → Nat → Option Nat) (I : Nat → Nat → Int32) : Prop :=
  ∃ f n, zG K R f ∧ RC I 1 (I 195) ∧ n ≤ 4 ∧ I 31 1 = nI n ∧ I 194 2 = nI n ∧ rH I f n (I 196) ∧ rP I ∧ rT I
theorem zG_turn {K : mK} {R : Nat → Nat → Option Nat} {f : Nat → Nat} (h : zG K R f) : zG K (rTt R) (fTu f) := by
  obtain ⟨h1, h2, h3, h4, h5, ⟨q1, q2, q3, q4⟩, ⟨p1, p2, p3, p4⟩, ⟨a0, a1, a2, a3, a4, a5, a6, a7, a8⟩, ⟨b0, b1, b2⟩, c0⟩ := h
  have e : ∀ x, x ≠ 32 → rTt R x = R x := rTt_o
  refine ⟨?_, zS_c e h2 (by omega), zS_c e h3 (by omega), zH_turn h4, zW_c e h5 (by omega), ⟨q1, q2, by rw [e _ (by omega)]; exact q3, q4⟩, ⟨p1, p2, by rw [e _ (by omega)]; exact p3, p4⟩, ⟨a0, ?_⟩, ⟨b0, by rw [e _ (by omega)]; exact b1, b2⟩, c0⟩
  · unfold zM at h1 ⊢
    rw [e 194 (by omega)]
    exact h1
  · rw [e 0 (by omega)]
    exact ⟨a1, a2, a3, a4, a5, a6, a7, a8⟩
def gTu (f : Nat → Nat) (n : Nat) : Nat → Nat := if n = 4 then fTu f else f
def nTu (n : Nat) : Nat := if n = 4 then 4 else n + 1
def RTu (R : Nat → Nat → Option Nat) (n : Nat) : Nat → Nat → Option Nat := if n = 4 then rTt R else R
def qTu (f : Nat → Nat) (n : Nat) : Nat := if n = 4 then f 0 else f n
theorem zG_tu {K : mK} {R : Nat → Nat → Option Nat} {f : Nat → Nat} {n : Nat} (h : zG K R f) : zG K (RTu R n) (gTu f n) := by
  unfold RTu gTu
  split
  · exact zG_turn h
  · exact h
theorem RC_fl {I : Nat → Nat → Int32} {a : Nat} {v : Nat → Int32} (h : RC I a v) : ∀ s, s < 6 → ∃ p cl, p ≤ 1 ∧ cl ≤ 1 ∧ I (a + 6 + 4 * s) 3 = nI p ∧ I (a + 6 + 4 * s) 4 = nI cl := by
  intro s hs
  obtain ⟨p, cl, c, ⟨f1, f2, f3, f4, f5, f6⟩, -⟩ := h.1 s hs
  exact ⟨p, cl, f4, f5, f1, f2⟩
/-- the class's remembering, with the relation -/
theorem a_remember {K : mK} {R : Nat → Nat → Option Nat} {I : Nat → Nat → Int32} {f : Nat → Nat} {n : Nat} {v : Nat → Int32} {Q : Option Value → mH → Prop} (g : zG K R f) (hv : RC I 1 v) (hn : I 31 1 = nI n) (hn2 : n ≤ 4) :
    EvM 9 [.ref 31, .ref 1] (K, R, I) Q ↔ Q none (K, RTu R n, hRm I (qTu f n) n) := m_remember g.2.2.2.1 g.2.1 hn hn2 (RC_fl hv)
theorem qTu_lt {K : mK} {R : Nat → Nat → Option Nat} {f : Nat → Nat} {n : Nat} (g : zG K R f) (hn2 : n ≤ 4) : qTu f n < 4 := by
  have h := g.2.2.2.1.2.2.2.2.1
  unfold qTu
  split
  · exact h 0 (by omega)
  · exact h n (by omega)
theorem hRm_o {I : Nat → Nat → Int32} {q n x j : Nat} (h : x < 33 + 30 * q ∨ 33 + 30 * q + 30 ≤ x) (h2 : x ≠ 31) : hRm I q n x j = I x j := by
  rw [hRm, s_ne (by omega), sCp_o h]
theorem hRm_31 {I : Nat → Nat → Int32} {q n : Nat} : hRm I q n 31 1 = nI (nTu n) := s_eq
theorem a_hist {K : mK} {R : Nat → Nat → Option Nat} {I : Nat → Nat → Int32} {f : Nat → Nat} {n : Nat} {H v : Nat → Int32} (g : zG K R f) (hv : RC I 1 v) (hn2 : n ≤ 4) (hH : rH I f n H) : rH (hRm I (qTu f n) n) (gTu f n) (nTu n) (vRec H v n) := by
  obtain ⟨-, -, -, ⟨-, -, -, -, z4, z5, -⟩, -⟩ := g
  intro j hj
  have old : ∀ i, i < n → (n = 4 → i ≠ 0) → ∀ w : Nat → Int32, (∀ x, x < 626 → w x = H (626 * i + x)) → RC (hRm I (qTu f n) n) (33 + 30 * f i) w := by
    intro i hi hi0 w hw
    refine RC_cong (hH i hi) (fun d j hd _ => ?_) hw
    have h1 := z4 i (by omega)
    have h2 : f i ≠ qTu f n := by
      unfold qTu
      split
      · rename_i e; intro q; exact hi0 e (z5 _ _ (by omega) (by omega) q)
      · rename_i e; intro q; have := z5 _ _ (by omega) (by omega) q; omega
    rw [hRm_o (by omega) (by omega)]
  have new : ∀ w : Nat → Int32, (∀ x, x < 626 → w x = v x) → RC (hRm I (qTu f n) n) (33 + 30 * qTu f n) w := by
    intro w hw
    refine RC_cong hv (fun d j hd hvd => ?_) hw
    rw [hRm, s_ne (by omega), sCp_in hd hvd]
  by_cases e : n = 4
  · subst e
    simp only [nTu, if_true] at hj
    simp only [gTu, if_true]
    by_cases e3 : j = 3
    · subst e3
      rw [show fTu f 3 = qTu f 4 by simp [fTu, qTu]]
      refine new _ (fun x hx => ?_)
      show vRec H v 4 (626 * 3 + x) = v x
      rw [vRec, if_pos rfl, if_neg (by omega), if_pos (by omega), show 626 * 3 + x - 1878 = x by omega]
    · rw [show fTu f j = f (j + 1) by simp [fTu, e3]]
      refine old (j + 1) (by omega) (by omega) _ (fun x hx => ?_)
      show vRec H v 4 (626 * j + x) = _
      rw [vRec, if_pos rfl, if_pos (by omega), show 626 * j + x + 626 = 626 * (j + 1) + x by omega]
  · simp only [nTu, if_neg e] at hj
    simp only [gTu, if_neg e]
    by_cases e3 : j = n
    · subst e3
      have q0 := new (fun x => vRec H v j (626 * j + x)) (fun x hx => by
        show vRec H v j (626 * j + x) = v x
        rw [vRec, if_neg e, if_pos (by omega), show 626 * j + x - 626 * j = x by omega])
      rw [show qTu f j = f j by simp [qTu, e]] at q0
      rw [show qTu f j = f j by simp [qTu, e]]
      exact q0
    · refine old j (by omega) (fun q => absurd q e) _ (fun x hx => ?_)
      show vRec H v n (626 * j + x) = _
      rw [vRec, if_neg e, if_neg (by omega)]
theorem RC_out {I I' : Nat → Nat → Int32} {a : Nat} {v : Nat → Int32} (h : RC I a v) (hI : ∀ x, a ≤ x → x < a + 30 → I' x = I x) : RC I' a v := RC_cong h (fun d j hd _ => by rw [hI _ (by omega) (by omega)]) (fun _ _ => rfl)
/-- the relation behind an act -/
theorem REL_act {K : mK} {R : Nat → Nat → Option Nat} {I I2 I3 : Nat → Nat → Int32} {f : Nat → Nat} {n : Nat} {v' : Nat → Int32} (g : zG K R f) (hv : RC I 1 (I 195)) (hn2 : n ≤ 4) (hH : rH I f n (I 196)) (hP : rP I) (hT : rT I)
    (h2 : ∀ x, 31 ≤ x → x < 185 → I2 x = hRm I (qTu f n) n x) (h20 : I2 0 = I 0) (h2v : RC I2 1 v')
    (h3 : ∀ x, x < 185 → I3 x = I2 x) (h3v : I3 195 = v') (h3h : I3 196 = vRec (I 196) (I 195) n) (h3k : I3 194 2 = nI (nTu n)) (h34 : I3 194 4 = I 194 4) (h37 : I3 194 7 = I 194 7) (h3s : I3 197 = I 197) (h3t : I3 200 = I 200) : REL K (RTu R n) I3 := by
  have hq := qTu_lt g hn2
  have z4 := (zG_tu (n := n) g).2.2.2.1.2.2.2.2.1
  have i2 : ∀ x, 31 ≤ x → x < 185 → I3 x = hRm I (qTu f n) n x := fun x x1 x2 => by rw [h3 x (by omega), h2 x x1 x2]
  refine ⟨gTu f n, nTu n, zG_tu g, ?_, ?_, ?_, h3k, ?_, ?_, ?_⟩
  · rw [h3v]; exact RC_out h2v (fun x _ hx => h3 x (by omega))
  · unfold nTu; split <;> omega
  · rw [i2 31 (by omega) (by omega)]; exact hRm_31
  · rw [h3h]
    intro j hj
    have hj4 : j < 4 := by unfold nTu at hj; split at hj <;> omega
    have := z4 j hj4
    exact RC_out (a_hist g hv hn2 hH j hj) (fun x x1 x2 => i2 x (by omega) (by omega))
  · unfold rP
    rw [h3 0 (by omega), h20, h34, h3s]
    rcases hP with q | ⟨q1, q2, q3⟩
    · exact Or.inl q
    · refine Or.inr ⟨q1, q2, RC_out q3 (fun x x1 x2 => ?_)⟩
      rw [i2 x (by omega) (by omega)]
      funext j
      rw [hRm_o (by omega) (by omega)]
  · obtain ⟨t, t1, t2, t3, t4⟩ := hT
    refine ⟨t, t1, ?_, by rw [h37]; exact t3, fun k hk => ?_⟩
    · rw [i2 183 (by omega) (by omega), hRm_o (by omega) (by omega)]; exact t2
    · rw [i2 184 (by omega) (by omega), hRm_o (by omega) (by omega), h3t]; exact t4 k hk
end
section
/-! THE OPS, one by one: class and reference side by side. What they share -/
theorem in_rng {x : Int32} {n : Nat} (hn : n + 1 < 1000000) (h1 : ¬ x < 0) (h2 : ¬ nI n < x) : ∃ k, k ≤ n ∧ x = nI k := by
  rcases sp_cases x (n := n + 1) (by omega) with ⟨k, hk, rfl⟩ | q | q
  · exact ⟨k, by omega, rfl⟩
  · exact absurd q h1
  · refine absurd ?_ h2
    rw [Int32.lt_iff_toInt_lt, nI_toInt (by omega)]
    rw [Int32.le_iff_toInt_le, nI_toInt (by omega)] at q
    omega
theorem E_in (z : Nat) {as : List Value} {h : mH} {Q : Option Value → mH → Prop} : EvM z as h Q = Ev z (mB z 0) (as ++ List.replicate (mN z - as.length) .null) [] h Q := rfl
theorem rRec_o {I : Nat → Nat → Int32} {n x : Nat} (h : x ≠ 194 ∧ x ≠ 196) : rRec I n x = I x := by
  funext j
  rw [rRec, if_neg (by omega), if_neg (by omega)]
theorem rRec_k {I : Nat → Nat → Int32} {n : Nat} : rRec I n 194 2 = nI (nTu n) := if_pos ⟨rfl, rfl⟩
theorem rRec_4 {I : Nat → Nat → Int32} {n j : Nat} (h : j ≠ 2) : rRec I n 194 j = I 194 j := by
  rw [rRec, if_neg (by omega), if_neg (by omega)]
theorem rRec_h {I : Nat → Nat → Int32} {n : Nat} : rRec I n 196 = vRec (I 196) (I 195) n := by
  funext j
  rw [rRec, if_neg (by omega), if_pos rfl]
theorem s_no {I : Nat → Nat → Int32} {a k b : Nat} {x : Int32} (h : b ≠ a) : mSet I a k x b = I b := by
  funext j; exact if_neg (fun q => h q.1)
theorem s_row {I : Nat → Nat → Int32} {a k : Nat} {x : Int32} : mSet I a k x a = vU (I a) k x := by
  funext j
  simp [mSet, vU]
theorem hRm_w {I : Nat → Nat → Int32} {q n x : Nat} (h : x < 33 + 30 * q ∨ 33 + 30 * q + 30 ≤ x) (h2 : x ≠ 31) : hRm I q n x = I x := by
  funext j; exact hRm_o h h2
/-- cells that nobody looks at between the calls -/
def SC (x j : Nat) : Prop := (185 ≤ x ∧ x ≤ 193) ∨ (x = 194 ∧ 9 ≤ j ∧ j ≤ 13) ∨ x = 198 ∨ x = 199 ∨ x = 201
def SCR (I J : Nat → Nat → Int32) : Prop := ∀ x j, SC x j ∨ J x j = I x j
theorem SCR_id {I : Nat → Nat → Int32} : SCR I I := fun _ _ => Or.inr rfl
theorem SCR_tr {I J L : Nat → Nat → Int32} (h : SCR I J) (h2 : SCR J L) : SCR I L := fun x j => by
  rcases h2 x j with q | q
  · exact Or.inl q
  · rcases h x j with q2 | q2
    · exact Or.inl q2
    · exact Or.inr (q.trans q2)
theorem SCR_row {I J : Nat → Nat → Int32} (h : SCR I J) {x : Nat} (hx : x < 185 ∨ (195 ≤ x ∧ x ≠ 198 ∧ x ≠ 199 ∧ x ≠ 201)) : J x = I x := by
  funext j
  rcases h x j with q | q
  · exfalso; unfold SC at q; omega
  · exact q
theorem SCR_m {I J : Nat → Nat → Int32} (h : SCR I J) {j : Nat} (hj : j < 9 ∨ 13 < j) : J 194 j = I 194 j := by
  rcases h 194 j with q | q
  · exfalso; unfold SC at q; omega
  · exact q
theorem SCR_row' {I : Nat → Nat → Int32} {a : Nat} {v : Nat → Int32} (h : SC a 0) (h2 : a ≠ 194) : SCR I (rSet I a v) := fun x j => by
  by_cases c : x = a
  · left; subst c; unfold SC at h ⊢; omega
  · right; simp [rSet, c]
theorem SCR_set {I : Nat → Nat → Int32} {a k : Nat} {v : Int32} (h : SC a k) : SCR I (mSet I a k v) := fun x j => by
  by_cases c : x = a ∧ j = k
  · obtain ⟨rfl, rfl⟩ := c; exact Or.inl h
  · exact Or.inr (s_ne c)
theorem REL_scr {K : mK} {R : Nat → Nat → Option Nat} {I J : Nat → Nat → Int32} (h : REL K R I) (hs : SCR I J) : REL K R J := by
  obtain ⟨f, n, g, hv, hn2, hn, hk, hH, hP, t, t1, t2, t3, t4⟩ := h
  have z4 := g.2.2.2.1.2.2.2.2.1
  refine ⟨f, n, g, ?_, hn2, ?_, ?_, ?_, ?_, t, t1, ?_, ?_, ?_⟩
  · rw [SCR_row hs (x := 195) (by omega)]; exact RC_out hv (fun x x1 x2 => SCR_row hs (by omega))
  · rw [SCR_row hs (x := 31) (by omega)]; exact hn
  · rw [SCR_m hs (by omega)]; exact hk
  · rw [SCR_row hs (x := 196) (by omega)]
    intro j hj
    have := z4 j (by omega)
    exact RC_out (hH j hj) (fun x x1 x2 => SCR_row hs (by omega))
  · unfold rP
    rw [SCR_row hs (x := 0) (by omega), SCR_m hs (j := 4) (by omega), SCR_row hs (x := 197) (by omega)]
    rcases hP with q | ⟨q1, q2, q3⟩
    · exact Or.inl q
    · exact Or.inr ⟨q1, q2, RC_out q3 (fun x x1 x2 => SCR_row hs (by omega))⟩
  · rw [SCR_row hs (x := 183) (by omega)]; exact t2
  · rw [SCR_m hs (by omega)]; exact t3
  · intro k hk
    rw [SCR_row hs (x := 184) (by omega), SCR_row hs (x := 200) (by omega)]; exact t4 k hk
def OPo (K : mK) (x : Int32) (v' : Option Value) (h'' : mH) : Prop := v' = some (.int x) ∧ ∃ R' I', h'' = (K, R', I') ∧ REL K R' I'
def OP (c r : Nat) (as : List Value) : Prop := ∀ K R I, REL K R I → ∃ v0 R1 I1, EvM c (.ref 0 :: as) (K, R, I) (fun v k => v = some (.int v0) ∧ k = (K, R1, I1)) ∧ ∀ J, SCR I1 J → EvM r (.ref 194 :: as) (K, R1, J) (OPo K v0)
theorem OPo_same {K : mK} {R : Nat → Nat → Option Nat} {I J : Nat → Nat → Int32} {x : Int32} (h : REL K R I) (hs : SCR I J) : OPo K x (some (.int x)) (K, R, J) := ⟨rfl, R, J, rfl, REL_scr h hs⟩
theorem OPo_act {K : mK} {R : Nat → Nat → Option Nat} {I I2 J : Nat → Nat → Int32} {f : Nat → Nat} {n : Nat} {v' : Nat → Int32} {x : Int32} (g : zG K R f) (hv : RC I 1 (I 195)) (hn2 : n ≤ 4) (hH : rH I f n (I 196)) (hP : rP I) (hT : rT I)
    (h2 : ∀ x, 31 ≤ x → x < 185 → I2 x = hRm I (qTu f n) n x) (h20 : I2 0 = I 0) (hu : ∀ x, 194 ≤ x → I2 x = I x) (h2v : RC I2 1 v') (hJ : SCR I2 J) : OPo K x (some (.int x)) (K, RTu R n, rSet (rRec J n) 195 v') := by
  have j5 : J 195 = I 195 := by rw [SCR_row hJ (by omega), hu _ (by omega)]
  have j6 : J 196 = I 196 := by rw [SCR_row hJ (by omega), hu _ (by omega)]
  refine ⟨rfl, _, _, rfl, REL_act g hv hn2 hH hP hT h2 h20 h2v (fun x hx => ?_) rSet_s ?_ ?_ ?_ ?_ ?_ ?_⟩
  · rw [rSet_o (by omega), rRec_o (by omega), SCR_row hJ (by omega)]
  · rw [rSet_o (by omega), rRec_h, j5, j6]
  · rw [rSet_o (by omega), rRec_k]
  · rw [rSet_o (by omega), rRec_4 (by omega), SCR_m hJ (by omega), hu _ (by omega)]
  · rw [rSet_o (by omega), rRec_4 (by omega), SCR_m hJ (by omega), hu _ (by omega)]
  · rw [rSet_o (by omega), rRec_o (by omega), SCR_row hJ (by omega), hu _ (by omega)]
  · rw [rSet_o (by omega), rRec_o (by omega), SCR_row hJ (by omega), hu _ (by omega)]
/-- the log of the state 1 -/
def rL (I : Nat → Nat → Int32) (v : Nat → Int32) : Prop := ∃ n, n ≤ 10 ∧ I 3 3 = nI n ∧ v 595 = nI n ∧ ∀ e, e < n → I 4 e = v (596 + 3 * e) ∧ I 5 e = v (597 + 3 * e) ∧ I 6 e = v (598 + 3 * e)
theorem lAd_o {I : Nat → Nat → Int32} {a n x j : Nat} {kd sp nu : Int32} (h : ¬ (x = a ∧ j = 3) ∧ x ≠ a + 1 ∧ x ≠ a + 2 ∧ x ≠ a + 3) : lAd I a n kd sp nu x j = I x j := by
  obtain ⟨h1, h2, h3, h4⟩ := h
  by_cases e : n = 10 <;> simp (disch := omega) only [lAd, if_pos, if_neg, e, if_true, if_false]
theorem rL_add {I : Nat → Nat → Int32} {v : Nat → Int32} {n : Nat} {kd sp nu : Int32} (hn : n ≤ 10) (h3 : I 3 3 = nI n) (hv : v 595 = nI n) (he : ∀ e, e < n → I 4 e = v (596 + 3 * e) ∧ I 5 e = v (597 + 3 * e) ∧ I 6 e = v (598 + 3 * e)) : rL (lAd I 3 n kd sp nu) (vTl v n kd sp nu) := by
  by_cases e : n = 10
  · subst e
    refine ⟨10, Nat.le_refl _, by simp [lAd], by simp [vTl]; exact hv, fun e he2 => ?_⟩
    by_cases c : e = 9
    · subst c; simp [lAd, vTl]
    · have := he (e + 1) (by omega)
      have c2 : e < 9 := by omega
      simp (disch := omega) only [lAd, vTl, if_pos, if_neg]
      rw [show 596 + 3 * e + 3 = 596 + 3 * (e + 1) by omega, show 597 + 3 * e + 3 = 597 + 3 * (e + 1) by omega, show 598 + 3 * e + 3 = 598 + 3 * (e + 1) by omega]
      exact this
  · refine ⟨n + 1, by omega, ?_, ?_, fun e1 he2 => ?_⟩
    · simp [lAd, e]
    · unfold vTl
      rw [if_neg e, if_neg (by omega), if_neg (by omega), if_neg (by omega), if_pos rfl]
    · by_cases c : e1 = n
      · subst c
        simp (disch := omega) only [lAd, vTl, if_pos, if_neg]
        exact ⟨rfl, rfl, rfl⟩
      · have := he e1 (by omega)
        simp (disch := omega) only [lAd, vTl, if_pos, if_neg]
        exact this
/-- the state 1 with some wires changed -/
theorem RC_upd {I I2 : Nat → Nat → Int32} {v v' : Nat → Int32} (ch : Nat → Prop) (h : RC I 1 v) (hs : ∀ s, s < 6 → ch s → ∃ p cl c, rW I2 (7 + 4 * s) v' s p cl c) (ho : ∀ s, s < 6 → ¬ ch s → (∀ d, d < 4 → I2 (7 + 4 * s + d) = I (7 + 4 * s + d)) ∧ (∀ x, 98 * s ≤ x → x < 98 * s + 98 → v' x = v x)) (hE : rE I2 1 v') : RC I2 1 v' := by
  refine ⟨fun s hs1 => ?_, hE⟩
  rw [show 1 + 6 + 4 * s = 7 + 4 * s by omega]
  by_cases c : ch s
  · exact hs s hs1 c
  · obtain ⟨p, cl, c2, hw⟩ := h.1 s hs1
    rw [show 1 + 6 + 4 * s = 7 + 4 * s by omega] at hw
    exact ⟨p, cl, c2, rW_cong hw (fun d j hd _ _ => by rw [(ho s hs1 c).1 d hd]) (ho s hs1 c).2⟩
theorem rE_mk {I : Nat → Nat → Int32} {v : Nat → Int32} (h1 : I 1 2 = v 588) (h2 : I 1 3 = v 589) (h3 : I 1 4 = v 590) (h4 : I 1 5 = v 591) (h5 : I 1 6 = v 592) (h6 : I 1 7 = v 593) (h7 : I 1 8 = v 594) (h8 : ∃ ru, ru ≤ 2 ∧ v 588 = nI ru) (h9 : ∃ lm, 101 ≤ lm ∧ lm ≤ 200 ∧ v 589 = nI lm) (hL : rL I v) : rE I 1 v := ⟨h1, h2, h3, h4, h5, h6, h7, h8, h9, hL⟩
/-! a spool's number, or none -/
theorem m_isSp {s : Nat} {h : mH} {Q : Option Value → mH → Prop} (hs : s < 6) : EvM 82 [.int (nI s)] h Q ↔ Q (some (.int 1)) h := by
  rw [m_isSpool, if_neg (n_ne0 (by omega)), if_neg (by rw [show (6 : Int32) = nI 6 from rfl, n_le (by omega) (by omega)]; omega)]
theorem m_noSp {x : Int32} {h : mH} {Q : Option Value → mH → Prop} (q : x < 0 ∨ nI 6 ≤ x) : EvM 82 [.int x] h Q ↔ Q (some (.int 0)) h := by
  rw [m_isSpool]
  by_cases c : x < 0
  · rw [if_pos c]
  · have q2 : (6 : Int32) ≤ x := by
      rcases q with q | q
      · exact absurd q c
      · exact q
    rw [if_neg c, if_pos q2]
theorem r_isSp {s : Nat} {h : mH} {Q : Option Value → mH → Prop} (hs : s < 6) : EvM 90 [.int (nI s)] h Q ↔ Q (some (.int 0)) h := by
  rw [r_noSpool, if_neg (n_ne0 (by omega)), if_neg (by rw [show (5 : Int32) = nI 5 from rfl, n_lt (by omega) (by omega)]; omega)]
theorem r_noSp {x : Int32} {h : mH} {Q : Option Value → mH → Prop} (q : x < 0 ∨ nI 6 ≤ x) : EvM 90 [.int x] h Q ↔ Q (some (.int 1)) h := by
  rw [r_noSpool]
  by_cases c : x < 0
  · rw [if_pos c]
  · have q2 : (5 : Int32) < x := by
      rcases q with q | q
      · exact absurd q c
      · rw [Int32.lt_iff_toInt_lt]
        rw [Int32.le_iff_toInt_le, nI_toInt (by omega)] at q
        show (5 : Int) < _
        omega
    rw [if_neg c, if_pos q2]
end
section
/-! THE RULE AND THE LIMIT -/
/-- the class's state 1 with one number changed -/
theorem RC_num {I : Nat → Nat → Int32} {v : Nat → Int32} {q n k b : Nat} {x : Int32} (hv : RC I 1 v) (hk : (k = 2 ∧ b = 588 ∧ ∃ m, m ≤ 2 ∧ x = nI m) ∨ (k = 3 ∧ b = 589 ∧ ∃ m, 101 ≤ m ∧ m ≤ 200 ∧ x = nI m)) : RC (mSet (hRm I q n) 1 k x) 1 (vU v b x) := by
  have e0 : ∀ y j, y < 31 → hRm I q n y j = I y j := fun y j hy => hRm_o (by omega) (by omega)
  refine ⟨fun s hs => ?_, ?_⟩
  · obtain ⟨p, cl, c, hw⟩ := hv.1 s hs
    exact ⟨p, cl, c, rW_cong hw (fun d j hd _ _ => by rw [s_ne (by omega), e0 _ _ (by omega)]) (fun y y1 y2 => u_ne (by omega))⟩
  · obtain ⟨h1, h2, h3, h4, h5, h6, h7, h8, h9, m, h13, h14, h15, h16⟩ := hv.2
    have fin : ∃ n_1, n_1 ≤ 10 ∧ mSet (hRm I q n) 1 k x (1 + 2) 3 = nI n_1 ∧ vU v b x 595 = nI n_1 ∧ ∀ e, e < n_1 → mSet (hRm I q n) 1 k x (1 + 3) e = vU v b x (596 + 3 * e) ∧ mSet (hRm I q n) 1 k x (1 + 4) e = vU v b x (597 + 3 * e) ∧ mSet (hRm I q n) 1 k x (1 + 5) e = vU v b x (598 + 3 * e) := by
      refine ⟨m, h13, ?_, ?_, fun e he => ?_⟩
      · rw [s_ne (by omega), e0 _ _ (by omega)]; exact h14
      · rw [u_ne (by omega)]; exact h15
      · rw [s_ne (by omega), s_ne (by omega), s_ne (by omega), e0 _ _ (by omega), e0 _ _ (by omega), e0 _ _ (by omega), u_ne (by omega), u_ne (by omega), u_ne (by omega)]
        exact h16 e he
    rcases hk with ⟨rfl, rfl, hx⟩ | ⟨rfl, rfl, hx⟩
    · refine ⟨by rw [s_eq, u_eq], ?_, ?_, ?_, ?_, ?_, ?_, by rw [u_eq]; exact hx, by rw [u_ne (by omega)]; exact h9, fin⟩
      · rw [s_ne (by omega), e0 _ _ (by omega), u_ne (by omega)]; exact h2
      · rw [s_ne (by omega), e0 _ _ (by omega), u_ne (by omega)]; exact h3
      · rw [s_ne (by omega), e0 _ _ (by omega), u_ne (by omega)]; exact h4
      · rw [s_ne (by omega), e0 _ _ (by omega), u_ne (by omega)]; exact h5
      · rw [s_ne (by omega), e0 _ _ (by omega), u_ne (by omega)]; exact h6
      · rw [s_ne (by omega), e0 _ _ (by omega), u_ne (by omega)]; exact h7
    · refine ⟨?_, by rw [s_eq, u_eq], ?_, ?_, ?_, ?_, ?_, by rw [u_ne (by omega)]; exact h8, by rw [u_eq]; exact hx, fin⟩
      · rw [s_ne (by omega), e0 _ _ (by omega), u_ne (by omega)]; exact h1
      · rw [s_ne (by omega), e0 _ _ (by omega), u_ne (by omega)]; exact h3
      · rw [s_ne (by omega), e0 _ _ (by omega), u_ne (by omega)]; exact h4
      · rw [s_ne (by omega), e0 _ _ (by omega), u_ne (by omega)]; exact h5
      · rw [s_ne (by omega), e0 _ _ (by omega), u_ne (by omega)]; exact h6
      · rw [s_ne (by omega), e0 _ _ (by omega), u_ne (by omega)]; exact h7
set_option maxHeartbeats 4000000 in
theorem op_setRule (x : Int32) : OP 59 97 [.int x] := by
  intro K R I hrel
  obtain ⟨f, n, g, hv, hn2, hn, hk, hH, hP, hT⟩ := id hrel
  have q4 := qTu_lt g hn2
  obtain ⟨gm, gs, -, gh, gw, gr, gr', ⟨a0, a1, a2, a3, a4, a5, a6, a7, a8⟩, ⟨b0, b1, b2⟩, cc0⟩ := id g
  have gs0 : K.2.2.1 1 = (1, 4) := gs.1
  have gs1 : R 1 0 = some 2 := gs.2.1
  have gs2 : K.2.2.1 2 = (4, 6) := gs.2.2.1
  have gs3 : R 1 1 = some 3 := gs.2.2.2.1
  have gs4 : zL K R 3 := gs.2.2.2.2.1
  have gW : ∀ s, s < 6 → zW K R (7 + 4 * s) := fun s hs => (gs.2.2.2.2.2.2 s hs).2
  have gR : ∀ s, s < 6 → R 2 s = some (7 + 4 * s) := fun s hs => (gs.2.2.2.2.2.2 s hs).1
  have gh0 := gh.1
  have gsl : K.2.2.1 3 = (1, 2) := gs4.1
  obtain ⟨m0, m1, m2, m3, m4, m5, m6, m7, m8, m9, m10, m11, m12, m13, m14⟩ := id gm
  have gT := zG_tu (n := n) g
  have gmt : zM K (RTu R n) := gT.1
  have gst : zS K (RTu R n) 1 := gT.2.1
  have gt1 : RTu R n 1 0 = some 2 := gst.2.1
  have gt3 : RTu R n 1 1 = some 3 := gst.2.2.2.1
  have gt4 : zL K (RTu R n) 3 := gst.2.2.2.2.1
  have gWt : ∀ s, s < 6 → zW K (RTu R n) (7 + 4 * s) := fun s hs => (gst.2.2.2.2.2.2 s hs).2
  have gRt : ∀ s, s < 6 → RTu R n 2 s = some (7 + 4 * s) := fun s hs => (gst.2.2.2.2.2.2 s hs).1
  obtain ⟨-, m1t, -⟩ := id gmt
  obtain ⟨-, a1t, a2t, a3t, a4t, a5t, a6t, a7t, a8t⟩ := gT.2.2.2.2.2.2.2.1
  have h588 := hv.2.1
  obtain ⟨ru, ru1, ru2⟩ := hv.2.2.2.2.2.2.2.2.1
  rw [ru2] at h588
  by_cases c1 : x < 0
  · refine ⟨-2, R, I, ?_, fun J hJ => ?_⟩
    · simp (disch := omega) only [e_iconst, e_bipush, e_sipush, e_iload_n, e_iload, e_aload_n, e_aload, e_istore_n, e_istore, e_astore_n, e_astore, e_iinc, e_iadd, e_isub, e_imul, e_iand, e_ishr, e_idiv, e_i2c, e_dup_i, e_dup_r, e_dup2, e_pop, e_goto, e_nop, e_if_eq, e_if_ne, e_if_lt, e_if_ge, e_if_gt, e_if_le, e_icmp_eq, e_icmp_ne, e_icmp_lt, e_icmp_ge, e_icmp_gt, e_icmp_le, e_tsw, e_ret0, e_ret1, e_retn, e_getI, e_getZ, e_getR, e_getV, e_getC, e_putI, e_putZ, e_putF, e_gst0, e_gst1, e_sld, e_iald, e_cald, e_bald, e_iast, e_cast, e_aald, e_aast, e_alen, e_slen, e_blen, e_newa, e_newq, e_new, e_oinit, e_ctor, e_virt, e_stat, e_min, e_copy, e_ldc, List.cons_append, List.nil_append, List.append_nil, List.length_cons, List.length_nil, List.replicate_succ, List.replicate_zero, List.getElem?_cons_zero, List.getElem?_cons_succ, List.set_cons_zero, List.set_cons_succ, List.take_succ_cons, List.take_zero, List.drop_succ_cons, List.drop_zero, List.reverse_cons, List.reverse_nil, Option.toList_some, Option.toList_none, Nat.reduceSub, Nat.reduceAdd, Nat.reduceLeDiff, true_and, and_true, and_self, Option.some.injEq, exists_eq_left', Nat.zero_add, Value.int.injEq, Value.ref.injEq, List.cons.injEq, exists_and_left, and_assoc, exists_eq_left, E_in 59, N_59, B_59_0, bk_59_0, B_59_9, bk_59_9, c1, if_pos, if_neg, not_true_eq_false, not_false_eq_true, or_true, true_or, or_false, false_or, false_and, and_false, Nat.reduceEqDiff, Nat.reduceLT, Nat.reduceMul, Nat.not_lt_zero, Nat.zero_le, Nat.le_refl, ne_eq, reduceIte, reduceCtorEq]
    · simp (disch := omega) only [e_iconst, e_bipush, e_sipush, e_iload_n, e_iload, e_aload_n, e_aload, e_istore_n, e_istore, e_astore_n, e_astore, e_iinc, e_iadd, e_isub, e_imul, e_iand, e_ishr, e_idiv, e_i2c, e_dup_i, e_dup_r, e_dup2, e_pop, e_goto, e_nop, e_if_eq, e_if_ne, e_if_lt, e_if_ge, e_if_gt, e_if_le, e_icmp_eq, e_icmp_ne, e_icmp_lt, e_icmp_ge, e_icmp_gt, e_icmp_le, e_tsw, e_ret0, e_ret1, e_retn, e_getI, e_getZ, e_getR, e_getV, e_getC, e_putI, e_putZ, e_putF, e_gst0, e_gst1, e_sld, e_iald, e_cald, e_bald, e_iast, e_cast, e_aald, e_aast, e_alen, e_slen, e_blen, e_newa, e_newq, e_new, e_oinit, e_ctor, e_virt, e_stat, e_min, e_copy, e_ldc, List.cons_append, List.nil_append, List.append_nil, List.length_cons, List.length_nil, List.replicate_succ, List.replicate_zero, List.getElem?_cons_zero, List.getElem?_cons_succ, List.set_cons_zero, List.set_cons_succ, List.take_succ_cons, List.take_zero, List.drop_succ_cons, List.drop_zero, List.reverse_cons, List.reverse_nil, Option.toList_some, Option.toList_none, Nat.reduceSub, Nat.reduceAdd, Nat.reduceLeDiff, true_and, and_true, and_self, Option.some.injEq, exists_eq_left', Nat.zero_add, Value.int.injEq, Value.ref.injEq, List.cons.injEq, exists_and_left, and_assoc, exists_eq_left, E_in 97, N_97, B_97_0, bk_97_0, c1, r_in, C_89, if_pos, if_neg, not_true_eq_false, not_false_eq_true, or_true, true_or, or_false, false_or, false_and, and_false, Nat.reduceEqDiff, Nat.reduceLT, Nat.reduceMul, Nat.not_lt_zero, Nat.zero_le, Nat.le_refl, ne_eq, reduceIte, reduceCtorEq]
      exact OPo_same hrel hJ
  by_cases c2 : nI 2 < x
  · have c2' : (2 : Int32) < x := c2
    have c3 : ¬ x ≤ 2 := Int32.not_le.mpr c2
    refine ⟨-2, R, I, ?_, fun J hJ => ?_⟩
    · simp (disch := omega) only [e_iconst, e_bipush, e_sipush, e_iload_n, e_iload, e_aload_n, e_aload, e_istore_n, e_istore, e_astore_n, e_astore, e_iinc, e_iadd, e_isub, e_imul, e_iand, e_ishr, e_idiv, e_i2c, e_dup_i, e_dup_r, e_dup2, e_pop, e_goto, e_nop, e_if_eq, e_if_ne, e_if_lt, e_if_ge, e_if_gt, e_if_le, e_icmp_eq, e_icmp_ne, e_icmp_lt, e_icmp_ge, e_icmp_gt, e_icmp_le, e_tsw, e_ret0, e_ret1, e_retn, e_getI, e_getZ, e_getR, e_getV, e_getC, e_putI, e_putZ, e_putF, e_gst0, e_gst1, e_sld, e_iald, e_cald, e_bald, e_iast, e_cast, e_aald, e_aast, e_alen, e_slen, e_blen, e_newa, e_newq, e_new, e_oinit, e_ctor, e_virt, e_stat, e_min, e_copy, e_ldc, List.cons_append, List.nil_append, List.append_nil, List.length_cons, List.length_nil, List.replicate_succ, List.replicate_zero, List.getElem?_cons_zero, List.getElem?_cons_succ, List.set_cons_zero, List.set_cons_succ, List.take_succ_cons, List.take_zero, List.drop_succ_cons, List.drop_zero, List.reverse_cons, List.reverse_nil, Option.toList_some, Option.toList_none, Nat.reduceSub, Nat.reduceAdd, Nat.reduceLeDiff, true_and, and_true, and_self, Option.some.injEq, exists_eq_left', Nat.zero_add, Value.int.injEq, Value.ref.injEq, List.cons.injEq, exists_and_left, and_assoc, exists_eq_left, E_in 59, N_59, B_59_0, bk_59_0, B_59_9, bk_59_9, c1, c3, if_pos, if_neg, not_true_eq_false, not_false_eq_true, or_true, true_or, or_false, false_or, false_and, and_false, Nat.reduceEqDiff, Nat.reduceLT, Nat.reduceMul, Nat.not_lt_zero, Nat.zero_le, Nat.le_refl, ne_eq, reduceIte, reduceCtorEq]
    · simp (disch := omega) only [e_iconst, e_bipush, e_sipush, e_iload_n, e_iload, e_aload_n, e_aload, e_istore_n, e_istore, e_astore_n, e_astore, e_iinc, e_iadd, e_isub, e_imul, e_iand, e_ishr, e_idiv, e_i2c, e_dup_i, e_dup_r, e_dup2, e_pop, e_goto, e_nop, e_if_eq, e_if_ne, e_if_lt, e_if_ge, e_if_gt, e_if_le, e_icmp_eq, e_icmp_ne, e_icmp_lt, e_icmp_ge, e_icmp_gt, e_icmp_le, e_tsw, e_ret0, e_ret1, e_retn, e_getI, e_getZ, e_getR, e_getV, e_getC, e_putI, e_putZ, e_putF, e_gst0, e_gst1, e_sld, e_iald, e_cald, e_bald, e_iast, e_cast, e_aald, e_aast, e_alen, e_slen, e_blen, e_newa, e_newq, e_new, e_oinit, e_ctor, e_virt, e_stat, e_min, e_copy, e_ldc, List.cons_append, List.nil_append, List.append_nil, List.length_cons, List.length_nil, List.replicate_succ, List.replicate_zero, List.getElem?_cons_zero, List.getElem?_cons_succ, List.set_cons_zero, List.set_cons_succ, List.take_succ_cons, List.take_zero, List.drop_succ_cons, List.drop_zero, List.reverse_cons, List.reverse_nil, Option.toList_some, Option.toList_none, Nat.reduceSub, Nat.reduceAdd, Nat.reduceLeDiff, true_and, and_true, and_self, Option.some.injEq, exists_eq_left', Nat.zero_add, Value.int.injEq, Value.ref.injEq, List.cons.injEq, exists_and_left, and_assoc, exists_eq_left, E_in 97, N_97, B_97_0, bk_97_0, c1, c2', r_in, C_89, if_pos, if_neg, not_true_eq_false, not_false_eq_true, or_true, true_or, or_false, false_or, false_and, and_false, Nat.reduceEqDiff, Nat.reduceLT, Nat.reduceMul, Nat.not_lt_zero, Nat.zero_le, Nat.le_refl, ne_eq, reduceIte, reduceCtorEq]
      exact OPo_same hrel hJ
  obtain ⟨k, k1, rfl⟩ := in_rng (by omega) c1 c2
  by_cases c4 : ru = k
  · refine ⟨-5, R, I, ?_, fun J hJ => ?_⟩
    · simp (disch := omega) only [e_iconst, e_bipush, e_sipush, e_iload_n, e_iload, e_aload_n, e_aload, e_istore_n, e_istore, e_astore_n, e_astore, e_iinc, e_iadd, e_isub, e_imul, e_iand, e_ishr, e_idiv, e_i2c, e_dup_i, e_dup_r, e_dup2, e_pop, e_goto, e_nop, e_if_eq, e_if_ne, e_if_lt, e_if_ge, e_if_gt, e_if_le, e_icmp_eq, e_icmp_ne, e_icmp_lt, e_icmp_ge, e_icmp_gt, e_icmp_le, e_tsw, e_ret0, e_ret1, e_retn, e_getI, e_getZ, e_getR, e_getV, e_getC, e_putI, e_putZ, e_putF, e_gst0, e_gst1, e_sld, e_iald, e_cald, e_bald, e_iast, e_cast, e_aald, e_aast, e_alen, e_slen, e_blen, e_newa, e_newq, e_new, e_oinit, e_ctor, e_virt, e_stat, e_min, e_copy, e_ldc, List.cons_append, List.nil_append, List.append_nil, List.length_cons, List.length_nil, List.replicate_succ, List.replicate_zero, List.getElem?_cons_zero, List.getElem?_cons_succ, List.set_cons_zero, List.set_cons_succ, List.take_succ_cons, List.take_zero, List.drop_succ_cons, List.drop_zero, List.reverse_cons, List.reverse_nil, Option.toList_some, Option.toList_none, Nat.reduceSub, Nat.reduceAdd, Nat.reduceLeDiff, true_and, and_true, and_self, Option.some.injEq, exists_eq_left', Nat.zero_add, Value.int.injEq, Value.ref.injEq, List.cons.injEq, exists_and_left, and_assoc, exists_eq_left, E_in 59, N_59, B_59_0, bk_59_0, B_59_12, bk_59_12, n_ne0, o_le_l, a0, a1, gs0, h588, c4, if_pos, if_neg, not_true_eq_false, not_false_eq_true, or_true, true_or, or_false, false_or, false_and, and_false, Nat.reduceEqDiff, Nat.reduceLT, Nat.reduceMul, Nat.not_lt_zero, Nat.zero_le, Nat.le_refl, ne_eq, reduceIte, reduceCtorEq]
    · have e1 : J 195 588 = nI ru := by rw [SCR_row hJ (by omega)]; exact ru2
      simp (disch := omega) only [e_iconst, e_bipush, e_sipush, e_iload_n, e_iload, e_aload_n, e_aload, e_istore_n, e_istore, e_astore_n, e_astore, e_iinc, e_iadd, e_isub, e_imul, e_iand, e_ishr, e_idiv, e_i2c, e_dup_i, e_dup_r, e_dup2, e_pop, e_goto, e_nop, e_if_eq, e_if_ne, e_if_lt, e_if_ge, e_if_gt, e_if_le, e_icmp_eq, e_icmp_ne, e_icmp_lt, e_icmp_ge, e_icmp_gt, e_icmp_le, e_tsw, e_ret0, e_ret1, e_retn, e_getI, e_getZ, e_getR, e_getV, e_getC, e_putI, e_putZ, e_putF, e_gst0, e_gst1, e_sld, e_iald, e_cald, e_bald, e_iast, e_cast, e_aald, e_aast, e_alen, e_slen, e_blen, e_newa, e_newq, e_new, e_oinit, e_ctor, e_virt, e_stat, e_min, e_copy, e_ldc, List.cons_append, List.nil_append, List.append_nil, List.length_cons, List.length_nil, List.replicate_succ, List.replicate_zero, List.getElem?_cons_zero, List.getElem?_cons_succ, List.set_cons_zero, List.set_cons_succ, List.take_succ_cons, List.take_zero, List.drop_succ_cons, List.drop_zero, List.reverse_cons, List.reverse_nil, Option.toList_some, Option.toList_none, Nat.reduceSub, Nat.reduceAdd, Nat.reduceLeDiff, true_and, and_true, and_self, Option.some.injEq, exists_eq_left', Nat.zero_add, Value.int.injEq, Value.ref.injEq, List.cons.injEq, exists_and_left, and_assoc, exists_eq_left, E_in 97, N_97, B_97_0, bk_97_0, n_ne0, o_lt_r, r_in, C_89, if_pos, if_neg, not_true_eq_false, not_false_eq_true, or_true, true_or, or_false, false_or, false_and, and_false, Nat.reduceEqDiff, Nat.reduceLT, Nat.reduceMul, Nat.not_lt_zero, Nat.zero_le, Nat.le_refl, ne_eq, reduceIte, reduceCtorEq]
      rw [B_97_12]
      simp (disch := omega) only [e_iconst, e_bipush, e_sipush, e_iload_n, e_iload, e_aload_n, e_aload, e_istore_n, e_istore, e_astore_n, e_astore, e_iinc, e_iadd, e_isub, e_imul, e_iand, e_ishr, e_idiv, e_i2c, e_dup_i, e_dup_r, e_dup2, e_pop, e_goto, e_nop, e_if_eq, e_if_ne, e_if_lt, e_if_ge, e_if_gt, e_if_le, e_icmp_eq, e_icmp_ne, e_icmp_lt, e_icmp_ge, e_icmp_gt, e_icmp_le, e_tsw, e_ret0, e_ret1, e_retn, e_getI, e_getZ, e_getR, e_getV, e_getC, e_putI, e_putZ, e_putF, e_gst0, e_gst1, e_sld, e_iald, e_cald, e_bald, e_iast, e_cast, e_aald, e_aast, e_alen, e_slen, e_blen, e_newa, e_newq, e_new, e_oinit, e_ctor, e_virt, e_stat, e_min, e_copy, e_ldc, List.cons_append, List.nil_append, List.append_nil, List.length_cons, List.length_nil, List.replicate_succ, List.replicate_zero, List.getElem?_cons_zero, List.getElem?_cons_succ, List.set_cons_zero, List.set_cons_succ, List.take_succ_cons, List.take_zero, List.drop_succ_cons, List.drop_zero, List.reverse_cons, List.reverse_nil, Option.toList_some, Option.toList_none, Nat.reduceSub, Nat.reduceAdd, Nat.reduceLeDiff, true_and, and_true, and_self, Option.some.injEq, exists_eq_left', Nat.zero_add, Value.int.injEq, Value.ref.injEq, List.cons.injEq, exists_and_left, and_assoc, exists_eq_left, bk_97_12, m0, m1, m2, o_in, o_cl, e1, c4, if_pos, if_neg, not_true_eq_false, not_false_eq_true, or_true, true_or, or_false, false_or, false_and, and_false, Nat.reduceEqDiff, Nat.reduceLT, Nat.reduceMul, Nat.not_lt_zero, Nat.zero_le, Nat.le_refl, ne_eq, reduceIte, reduceCtorEq]
      exact OPo_same hrel hJ
  · refine ⟨nI ru, RTu R n, mSet (hRm I (qTu f n) n) 1 2 (nI k), ?_, fun J hJ => ?_⟩
    · simp (disch := omega) only [e_iconst, e_bipush, e_sipush, e_iload_n, e_iload, e_aload_n, e_aload, e_istore_n, e_istore, e_astore_n, e_astore, e_iinc, e_iadd, e_isub, e_imul, e_iand, e_ishr, e_idiv, e_i2c, e_dup_i, e_dup_r, e_dup2, e_pop, e_goto, e_nop, e_if_eq, e_if_ne, e_if_lt, e_if_ge, e_if_gt, e_if_le, e_icmp_eq, e_icmp_ne, e_icmp_lt, e_icmp_ge, e_icmp_gt, e_icmp_le, e_tsw, e_ret0, e_ret1, e_retn, e_getI, e_getZ, e_getR, e_getV, e_getC, e_putI, e_putZ, e_putF, e_gst0, e_gst1, e_sld, e_iald, e_cald, e_bald, e_iast, e_cast, e_aald, e_aast, e_alen, e_slen, e_blen, e_newa, e_newq, e_new, e_oinit, e_ctor, e_virt, e_stat, e_min, e_copy, e_ldc, List.cons_append, List.nil_append, List.append_nil, List.length_cons, List.length_nil, List.replicate_succ, List.replicate_zero, List.getElem?_cons_zero, List.getElem?_cons_succ, List.set_cons_zero, List.set_cons_succ, List.take_succ_cons, List.take_zero, List.drop_succ_cons, List.drop_zero, List.reverse_cons, List.reverse_nil, Option.toList_some, Option.toList_none, Nat.reduceSub, Nat.reduceAdd, Nat.reduceLeDiff, true_and, and_true, and_self, Option.some.injEq, exists_eq_left', Nat.zero_add, Value.int.injEq, Value.ref.injEq, List.cons.injEq, exists_and_left, and_assoc, exists_eq_left, E_in 59, N_59, B_59_0, bk_59_0, B_59_12, bk_59_12, n_ne0, o_le_l, a0, a1, gs0, h588, n_eq, c4, Ne.symm c4, if_pos, if_neg, not_true_eq_false, not_false_eq_true, or_true, true_or, or_false, false_or, false_and, and_false, Nat.reduceEqDiff, Nat.reduceLT, Nat.reduceMul, Nat.not_lt_zero, Nat.zero_le, Nat.le_refl, ne_eq, reduceIte, reduceCtorEq]
      rw [B_59_28]
      simp (disch := omega) only [e_iconst, e_bipush, e_sipush, e_iload_n, e_iload, e_aload_n, e_aload, e_istore_n, e_istore, e_astore_n, e_astore, e_iinc, e_iadd, e_isub, e_imul, e_iand, e_ishr, e_idiv, e_i2c, e_dup_i, e_dup_r, e_dup2, e_pop, e_goto, e_nop, e_if_eq, e_if_ne, e_if_lt, e_if_ge, e_if_gt, e_if_le, e_icmp_eq, e_icmp_ne, e_icmp_lt, e_icmp_ge, e_icmp_gt, e_icmp_le, e_tsw, e_ret0, e_ret1, e_retn, e_getI, e_getZ, e_getR, e_getV, e_getC, e_putI, e_putZ, e_putF, e_gst0, e_gst1, e_sld, e_iald, e_cald, e_bald, e_iast, e_cast, e_aald, e_aast, e_alen, e_slen, e_blen, e_newa, e_newq, e_new, e_oinit, e_ctor, e_virt, e_stat, e_min, e_copy, e_ldc, List.cons_append, List.nil_append, List.append_nil, List.length_cons, List.length_nil, List.replicate_succ, List.replicate_zero, List.getElem?_cons_zero, List.getElem?_cons_succ, List.set_cons_zero, List.set_cons_succ, List.take_succ_cons, List.take_zero, List.drop_succ_cons, List.drop_zero, List.reverse_cons, List.reverse_nil, Option.toList_some, Option.toList_none, Nat.reduceSub, Nat.reduceAdd, Nat.reduceLeDiff, true_and, and_true, and_self, Option.some.injEq, exists_eq_left', Nat.zero_add, Value.int.injEq, Value.ref.injEq, List.cons.injEq, exists_and_left, and_assoc, exists_eq_left, bk_59_28, C_9, a_remember g hv hn hn2, a0, a1, a2, a1t, gs0, gh0, if_pos, if_neg, not_true_eq_false, not_false_eq_true, or_true, true_or, or_false, false_or, false_and, and_false, Nat.reduceEqDiff, Nat.reduceLT, Nat.reduceMul, Nat.not_lt_zero, Nat.zero_le, Nat.le_refl, ne_eq, reduceIte, reduceCtorEq]
    · have j5 : J 195 = I 195 := by rw [SCR_row hJ (by omega), s_no (by omega), hRm_w (by omega) (by omega)]
      have j2 : J 194 2 = nI n := by rw [SCR_m hJ (by omega), s_ne (by omega), hRm_o (by omega) (by omega)]; exact hk
      have e1 : J 195 588 = nI ru := by rw [j5]; exact ru2
      simp (disch := omega) only [e_iconst, e_bipush, e_sipush, e_iload_n, e_iload, e_aload_n, e_aload, e_istore_n, e_istore, e_astore_n, e_astore, e_iinc, e_iadd, e_isub, e_imul, e_iand, e_ishr, e_idiv, e_i2c, e_dup_i, e_dup_r, e_dup2, e_pop, e_goto, e_nop, e_if_eq, e_if_ne, e_if_lt, e_if_ge, e_if_gt, e_if_le, e_icmp_eq, e_icmp_ne, e_icmp_lt, e_icmp_ge, e_icmp_gt, e_icmp_le, e_tsw, e_ret0, e_ret1, e_retn, e_getI, e_getZ, e_getR, e_getV, e_getC, e_putI, e_putZ, e_putF, e_gst0, e_gst1, e_sld, e_iald, e_cald, e_bald, e_iast, e_cast, e_aald, e_aast, e_alen, e_slen, e_blen, e_newa, e_newq, e_new, e_oinit, e_ctor, e_virt, e_stat, e_min, e_copy, e_ldc, List.cons_append, List.nil_append, List.append_nil, List.length_cons, List.length_nil, List.replicate_succ, List.replicate_zero, List.getElem?_cons_zero, List.getElem?_cons_succ, List.set_cons_zero, List.set_cons_succ, List.take_succ_cons, List.take_zero, List.drop_succ_cons, List.drop_zero, List.reverse_cons, List.reverse_nil, Option.toList_some, Option.toList_none, Nat.reduceSub, Nat.reduceAdd, Nat.reduceLeDiff, true_and, and_true, and_self, Option.some.injEq, exists_eq_left', Nat.zero_add, Value.int.injEq, Value.ref.injEq, List.cons.injEq, exists_and_left, and_assoc, exists_eq_left, E_in 97, N_97, B_97_0, bk_97_0, n_ne0, o_lt_r, r_in, C_89, if_pos, if_neg, not_true_eq_false, not_false_eq_true, or_true, true_or, or_false, false_or, false_and, and_false, Nat.reduceEqDiff, Nat.reduceLT, Nat.reduceMul, Nat.not_lt_zero, Nat.zero_le, Nat.le_refl, ne_eq, reduceIte, reduceCtorEq]
      rw [B_97_12]
      simp (disch := omega) only [e_iconst, e_bipush, e_sipush, e_iload_n, e_iload, e_aload_n, e_aload, e_istore_n, e_istore, e_astore_n, e_astore, e_iinc, e_iadd, e_isub, e_imul, e_iand, e_ishr, e_idiv, e_i2c, e_dup_i, e_dup_r, e_dup2, e_pop, e_goto, e_nop, e_if_eq, e_if_ne, e_if_lt, e_if_ge, e_if_gt, e_if_le, e_icmp_eq, e_icmp_ne, e_icmp_lt, e_icmp_ge, e_icmp_gt, e_icmp_le, e_tsw, e_ret0, e_ret1, e_retn, e_getI, e_getZ, e_getR, e_getV, e_getC, e_putI, e_putZ, e_putF, e_gst0, e_gst1, e_sld, e_iald, e_cald, e_bald, e_iast, e_cast, e_aald, e_aast, e_alen, e_slen, e_blen, e_newa, e_newq, e_new, e_oinit, e_ctor, e_virt, e_stat, e_min, e_copy, e_ldc, List.cons_append, List.nil_append, List.append_nil, List.length_cons, List.length_nil, List.replicate_succ, List.replicate_zero, List.getElem?_cons_zero, List.getElem?_cons_succ, List.set_cons_zero, List.set_cons_succ, List.take_succ_cons, List.take_zero, List.drop_succ_cons, List.drop_zero, List.reverse_cons, List.reverse_nil, Option.toList_some, Option.toList_none, Nat.reduceSub, Nat.reduceAdd, Nat.reduceLeDiff, true_and, and_true, and_self, Option.some.injEq, exists_eq_left', Nat.zero_add, Value.int.injEq, Value.ref.injEq, List.cons.injEq, exists_and_left, and_assoc, exists_eq_left, bk_97_12, m0, m1t, m2, o_in, o_cl, e1, n_eq, c4, if_pos, if_neg, not_true_eq_false, not_false_eq_true, or_true, true_or, or_false, false_or, false_and, and_false, Nat.reduceEqDiff, Nat.reduceLT, Nat.reduceMul, Nat.not_lt_zero, Nat.zero_le, Nat.le_refl, ne_eq, reduceIte, reduceCtorEq]
      rw [B_97_29]
      simp (disch := omega) only [e_iconst, e_bipush, e_sipush, e_iload_n, e_iload, e_aload_n, e_aload, e_istore_n, e_istore, e_astore_n, e_astore, e_iinc, e_iadd, e_isub, e_imul, e_iand, e_ishr, e_idiv, e_i2c, e_dup_i, e_dup_r, e_dup2, e_pop, e_goto, e_nop, e_if_eq, e_if_ne, e_if_lt, e_if_ge, e_if_gt, e_if_le, e_icmp_eq, e_icmp_ne, e_icmp_lt, e_icmp_ge, e_icmp_gt, e_icmp_le, e_tsw, e_ret0, e_ret1, e_retn, e_getI, e_getZ, e_getR, e_getV, e_getC, e_putI, e_putZ, e_putF, e_gst0, e_gst1, e_sld, e_iald, e_cald, e_bald, e_iast, e_cast, e_aald, e_aast, e_alen, e_slen, e_blen, e_newa, e_newq, e_new, e_oinit, e_ctor, e_virt, e_stat, e_min, e_copy, e_ldc, List.cons_append, List.nil_append, List.append_nil, List.length_cons, List.length_nil, List.replicate_succ, List.replicate_zero, List.getElem?_cons_zero, List.getElem?_cons_succ, List.set_cons_zero, List.set_cons_succ, List.take_succ_cons, List.take_zero, List.drop_succ_cons, List.drop_zero, List.reverse_cons, List.reverse_nil, Option.toList_some, Option.toList_none, Nat.reduceSub, Nat.reduceAdd, Nat.reduceLeDiff, true_and, and_true, and_self, Option.some.injEq, exists_eq_left', Nat.zero_add, Value.int.injEq, Value.ref.injEq, List.cons.injEq, exists_and_left, and_assoc, exists_eq_left, bk_97_29, C_95, r_record gmt j2 hn2, m0, m1t, m2, o_in, o_cl, m_rs, if_pos, if_neg, not_true_eq_false, not_false_eq_true, or_true, true_or, or_false, false_or, false_and, and_false, Nat.reduceEqDiff, Nat.reduceLT, Nat.reduceMul, Nat.not_lt_zero, Nat.zero_le, Nat.le_refl, ne_eq, reduceIte, reduceCtorEq]
      rw [rRec_o (by omega), j5]
      exact OPo_act g hv hn2 hH hP hT (fun x x1 x2 => s_no (by omega)) (by rw [s_no (by omega), hRm_w (by omega) (by omega)]) (fun x hx => by rw [s_no (by omega), hRm_w (by omega) (by omega)]) (RC_num hv (Or.inl ⟨rfl, rfl, k, k1, rfl⟩)) hJ
theorem in_rng2 {x : Int32} {a n : Nat} (hn : n + 1 < 1000000) (ha : a < 1000000) (h1 : ¬ x < nI a) (h2 : ¬ nI n < x) : ∃ k, a ≤ k ∧ k ≤ n ∧ x = nI k := by
  have h0 : ¬ x < 0 := by
    intro h
    apply h1
    rw [Int32.lt_iff_toInt_lt] at h ⊢
    rw [nI_toInt (by omega)]
    rw [Int32.toInt_zero] at h
    omega
  obtain ⟨k, k1, rfl⟩ := in_rng hn h0 h2
  refine ⟨k, ?_, k1, rfl⟩
  rw [n_lt (by omega) (by omega)] at h1
  omega
set_option maxHeartbeats 4000000 in
theorem op_setLimit (x : Int32) : OP 60 98 [.int x] := by
  intro K R I hrel
  obtain ⟨f, n, g, hv, hn2, hn, hk, hH, hP, hT⟩ := id hrel
  have q4 := qTu_lt g hn2
  obtain ⟨gm, gs, -, gh, gw, gr, gr', ⟨a0, a1, a2, a3, a4, a5, a6, a7, a8⟩, ⟨b0, b1, b2⟩, cc0⟩ := id g
  have gs0 : K.2.2.1 1 = (1, 4) := gs.1
  have gs1 : R 1 0 = some 2 := gs.2.1
  have gs2 : K.2.2.1 2 = (4, 6) := gs.2.2.1
  have gs3 : R 1 1 = some 3 := gs.2.2.2.1
  have gs4 : zL K R 3 := gs.2.2.2.2.1
  have gW : ∀ s, s < 6 → zW K R (7 + 4 * s) := fun s hs => (gs.2.2.2.2.2.2 s hs).2
  have gR : ∀ s, s < 6 → R 2 s = some (7 + 4 * s) := fun s hs => (gs.2.2.2.2.2.2 s hs).1
  have gh0 := gh.1
  have gsl : K.2.2.1 3 = (1, 2) := gs4.1
  obtain ⟨m0, m1, m2, m3, m4, m5, m6, m7, m8, m9, m10, m11, m12, m13, m14⟩ := id gm
  have gT := zG_tu (n := n) g
  have gmt : zM K (RTu R n) := gT.1
  have gst : zS K (RTu R n) 1 := gT.2.1
  have gt1 : RTu R n 1 0 = some 2 := gst.2.1
  have gt3 : RTu R n 1 1 = some 3 := gst.2.2.2.1
  have gt4 : zL K (RTu R n) 3 := gst.2.2.2.2.1
  have gWt : ∀ s, s < 6 → zW K (RTu R n) (7 + 4 * s) := fun s hs => (gst.2.2.2.2.2.2 s hs).2
  have gRt : ∀ s, s < 6 → RTu R n 2 s = some (7 + 4 * s) := fun s hs => (gst.2.2.2.2.2.2 s hs).1
  obtain ⟨-, m1t, -⟩ := id gmt
  obtain ⟨-, a1t, a2t, a3t, a4t, a5t, a6t, a7t, a8t⟩ := gT.2.2.2.2.2.2.2.1
  have h589 := hv.2.2.1
  obtain ⟨ru, ru0, ru1, ru2⟩ := hv.2.2.2.2.2.2.2.2.2.1
  rw [ru2] at h589
  by_cases c1 : x < 101
  · refine ⟨-2, R, I, ?_, fun J hJ => ?_⟩
    · simp (disch := omega) only [e_iconst, e_bipush, e_sipush, e_iload_n, e_iload, e_aload_n, e_aload, e_istore_n, e_istore, e_astore_n, e_astore, e_iinc, e_iadd, e_isub, e_imul, e_iand, e_ishr, e_idiv, e_i2c, e_dup_i, e_dup_r, e_dup2, e_pop, e_goto, e_nop, e_if_eq, e_if_ne, e_if_lt, e_if_ge, e_if_gt, e_if_le, e_icmp_eq, e_icmp_ne, e_icmp_lt, e_icmp_ge, e_icmp_gt, e_icmp_le, e_tsw, e_ret0, e_ret1, e_retn, e_getI, e_getZ, e_getR, e_getV, e_getC, e_putI, e_putZ, e_putF, e_gst0, e_gst1, e_sld, e_iald, e_cald, e_bald, e_iast, e_cast, e_aald, e_aast, e_alen, e_slen, e_blen, e_newa, e_newq, e_new, e_oinit, e_ctor, e_virt, e_stat, e_min, e_copy, e_ldc, List.cons_append, List.nil_append, List.append_nil, List.length_cons, List.length_nil, List.replicate_succ, List.replicate_zero, List.getElem?_cons_zero, List.getElem?_cons_succ, List.set_cons_zero, List.set_cons_succ, List.take_succ_cons, List.take_zero, List.drop_succ_cons, List.drop_zero, List.reverse_cons, List.reverse_nil, Option.toList_some, Option.toList_none, Nat.reduceSub, Nat.reduceAdd, Nat.reduceLeDiff, true_and, and_true, and_self, Option.some.injEq, exists_eq_left', Nat.zero_add, Value.int.injEq, Value.ref.injEq, List.cons.injEq, exists_and_left, and_assoc, exists_eq_left, E_in 60, N_60, B_60_0, bk_60_0, B_60_13, bk_60_13, c1, if_pos, if_neg, not_true_eq_false, not_false_eq_true, or_true, true_or, or_false, false_or, false_and, and_false, Nat.reduceEqDiff, Nat.reduceLT, Nat.reduceMul, Nat.not_lt_zero, Nat.zero_le, Nat.le_refl, ne_eq, reduceIte, reduceCtorEq]
    · simp (disch := omega) only [e_iconst, e_bipush, e_sipush, e_iload_n, e_iload, e_aload_n, e_aload, e_istore_n, e_istore, e_astore_n, e_astore, e_iinc, e_iadd, e_isub, e_imul, e_iand, e_ishr, e_idiv, e_i2c, e_dup_i, e_dup_r, e_dup2, e_pop, e_goto, e_nop, e_if_eq, e_if_ne, e_if_lt, e_if_ge, e_if_gt, e_if_le, e_icmp_eq, e_icmp_ne, e_icmp_lt, e_icmp_ge, e_icmp_gt, e_icmp_le, e_tsw, e_ret0, e_ret1, e_retn, e_getI, e_getZ, e_getR, e_getV, e_getC, e_putI, e_putZ, e_putF, e_gst0, e_gst1, e_sld, e_iald, e_cald, e_bald, e_iast, e_cast, e_aald, e_aast, e_alen, e_slen, e_blen, e_newa, e_newq, e_new, e_oinit, e_ctor, e_virt, e_stat, e_min, e_copy, e_ldc, List.cons_append, List.nil_append, List.append_nil, List.length_cons, List.length_nil, List.replicate_succ, List.replicate_zero, List.getElem?_cons_zero, List.getElem?_cons_succ, List.set_cons_zero, List.set_cons_succ, List.take_succ_cons, List.take_zero, List.drop_succ_cons, List.drop_zero, List.reverse_cons, List.reverse_nil, Option.toList_some, Option.toList_none, Nat.reduceSub, Nat.reduceAdd, Nat.reduceLeDiff, true_and, and_true, and_self, Option.some.injEq, exists_eq_left', Nat.zero_add, Value.int.injEq, Value.ref.injEq, List.cons.injEq, exists_and_left, and_assoc, exists_eq_left, E_in 98, N_98, B_98_0, bk_98_0, c1, r_in, C_89, if_pos, if_neg, not_true_eq_false, not_false_eq_true, or_true, true_or, or_false, false_or, false_and, and_false, Nat.reduceEqDiff, Nat.reduceLT, Nat.reduceMul, Nat.not_lt_zero, Nat.zero_le, Nat.le_refl, ne_eq, reduceIte, reduceCtorEq]
      exact OPo_same hrel hJ
  by_cases c2 : nI 200 < x
  · have c2' : (200 : Int32) < x := c2
    have c3 : ¬ x ≤ 200 := Int32.not_le.mpr c2
    refine ⟨-2, R, I, ?_, fun J hJ => ?_⟩
    · simp (disch := omega) only [e_iconst, e_bipush, e_sipush, e_iload_n, e_iload, e_aload_n, e_aload, e_istore_n, e_istore, e_astore_n, e_astore, e_iinc, e_iadd, e_isub, e_imul, e_iand, e_ishr, e_idiv, e_i2c, e_dup_i, e_dup_r, e_dup2, e_pop, e_goto, e_nop, e_if_eq, e_if_ne, e_if_lt, e_if_ge, e_if_gt, e_if_le, e_icmp_eq, e_icmp_ne, e_icmp_lt, e_icmp_ge, e_icmp_gt, e_icmp_le, e_tsw, e_ret0, e_ret1, e_retn, e_getI, e_getZ, e_getR, e_getV, e_getC, e_putI, e_putZ, e_putF, e_gst0, e_gst1, e_sld, e_iald, e_cald, e_bald, e_iast, e_cast, e_aald, e_aast, e_alen, e_slen, e_blen, e_newa, e_newq, e_new, e_oinit, e_ctor, e_virt, e_stat, e_min, e_copy, e_ldc, List.cons_append, List.nil_append, List.append_nil, List.length_cons, List.length_nil, List.replicate_succ, List.replicate_zero, List.getElem?_cons_zero, List.getElem?_cons_succ, List.set_cons_zero, List.set_cons_succ, List.take_succ_cons, List.take_zero, List.drop_succ_cons, List.drop_zero, List.reverse_cons, List.reverse_nil, Option.toList_some, Option.toList_none, Nat.reduceSub, Nat.reduceAdd, Nat.reduceLeDiff, true_and, and_true, and_self, Option.some.injEq, exists_eq_left', Nat.zero_add, Value.int.injEq, Value.ref.injEq, List.cons.injEq, exists_and_left, and_assoc, exists_eq_left, E_in 60, N_60, B_60_0, bk_60_0, B_60_13, bk_60_13, c1, c3, if_pos, if_neg, not_true_eq_false, not_false_eq_true, or_true, true_or, or_false, false_or, false_and, and_false, Nat.reduceEqDiff, Nat.reduceLT, Nat.reduceMul, Nat.not_lt_zero, Nat.zero_le, Nat.le_refl, ne_eq, reduceIte, reduceCtorEq]
    · simp (disch := omega) only [e_iconst, e_bipush, e_sipush, e_iload_n, e_iload, e_aload_n, e_aload, e_istore_n, e_istore, e_astore_n, e_astore, e_iinc, e_iadd, e_isub, e_imul, e_iand, e_ishr, e_idiv, e_i2c, e_dup_i, e_dup_r, e_dup2, e_pop, e_goto, e_nop, e_if_eq, e_if_ne, e_if_lt, e_if_ge, e_if_gt, e_if_le, e_icmp_eq, e_icmp_ne, e_icmp_lt, e_icmp_ge, e_icmp_gt, e_icmp_le, e_tsw, e_ret0, e_ret1, e_retn, e_getI, e_getZ, e_getR, e_getV, e_getC, e_putI, e_putZ, e_putF, e_gst0, e_gst1, e_sld, e_iald, e_cald, e_bald, e_iast, e_cast, e_aald, e_aast, e_alen, e_slen, e_blen, e_newa, e_newq, e_new, e_oinit, e_ctor, e_virt, e_stat, e_min, e_copy, e_ldc, List.cons_append, List.nil_append, List.append_nil, List.length_cons, List.length_nil, List.replicate_succ, List.replicate_zero, List.getElem?_cons_zero, List.getElem?_cons_succ, List.set_cons_zero, List.set_cons_succ, List.take_succ_cons, List.take_zero, List.drop_succ_cons, List.drop_zero, List.reverse_cons, List.reverse_nil, Option.toList_some, Option.toList_none, Nat.reduceSub, Nat.reduceAdd, Nat.reduceLeDiff, true_and, and_true, and_self, Option.some.injEq, exists_eq_left', Nat.zero_add, Value.int.injEq, Value.ref.injEq, List.cons.injEq, exists_and_left, and_assoc, exists_eq_left, E_in 98, N_98, B_98_0, bk_98_0, c1, c2', r_in, C_89, if_pos, if_neg, not_true_eq_false, not_false_eq_true, or_true, true_or, or_false, false_or, false_and, and_false, Nat.reduceEqDiff, Nat.reduceLT, Nat.reduceMul, Nat.not_lt_zero, Nat.zero_le, Nat.le_refl, ne_eq, reduceIte, reduceCtorEq]
      exact OPo_same hrel hJ
  obtain ⟨k, k0, k1, rfl⟩ := in_rng2 (a := 101) (by omega) (by omega) c1 c2
  by_cases c4 : ru = k
  · refine ⟨-5, R, I, ?_, fun J hJ => ?_⟩
    · simp (disch := omega) only [e_iconst, e_bipush, e_sipush, e_iload_n, e_iload, e_aload_n, e_aload, e_istore_n, e_istore, e_astore_n, e_astore, e_iinc, e_iadd, e_isub, e_imul, e_iand, e_ishr, e_idiv, e_i2c, e_dup_i, e_dup_r, e_dup2, e_pop, e_goto, e_nop, e_if_eq, e_if_ne, e_if_lt, e_if_ge, e_if_gt, e_if_le, e_icmp_eq, e_icmp_ne, e_icmp_lt, e_icmp_ge, e_icmp_gt, e_icmp_le, e_tsw, e_ret0, e_ret1, e_retn, e_getI, e_getZ, e_getR, e_getV, e_getC, e_putI, e_putZ, e_putF, e_gst0, e_gst1, e_sld, e_iald, e_cald, e_bald, e_iast, e_cast, e_aald, e_aast, e_alen, e_slen, e_blen, e_newa, e_newq, e_new, e_oinit, e_ctor, e_virt, e_stat, e_min, e_copy, e_ldc, List.cons_append, List.nil_append, List.append_nil, List.length_cons, List.length_nil, List.replicate_succ, List.replicate_zero, List.getElem?_cons_zero, List.getElem?_cons_succ, List.set_cons_zero, List.set_cons_succ, List.take_succ_cons, List.take_zero, List.drop_succ_cons, List.drop_zero, List.reverse_cons, List.reverse_nil, Option.toList_some, Option.toList_none, Nat.reduceSub, Nat.reduceAdd, Nat.reduceLeDiff, true_and, and_true, and_self, Option.some.injEq, exists_eq_left', Nat.zero_add, Value.int.injEq, Value.ref.injEq, List.cons.injEq, exists_and_left, and_assoc, exists_eq_left, E_in 60, N_60, B_60_0, bk_60_0, B_60_16, bk_60_16, o_lt_l, o_le_l, a0, a1, gs0, h589, c4, if_pos, if_neg, not_true_eq_false, not_false_eq_true, or_true, true_or, or_false, false_or, false_and, and_false, Nat.reduceEqDiff, Nat.reduceLT, Nat.reduceMul, Nat.not_lt_zero, Nat.zero_le, Nat.le_refl, ne_eq, reduceIte, reduceCtorEq]
    · have e1 : J 195 589 = nI ru := by rw [SCR_row hJ (by omega)]; exact ru2
      simp (disch := omega) only [e_iconst, e_bipush, e_sipush, e_iload_n, e_iload, e_aload_n, e_aload, e_istore_n, e_istore, e_astore_n, e_astore, e_iinc, e_iadd, e_isub, e_imul, e_iand, e_ishr, e_idiv, e_i2c, e_dup_i, e_dup_r, e_dup2, e_pop, e_goto, e_nop, e_if_eq, e_if_ne, e_if_lt, e_if_ge, e_if_gt, e_if_le, e_icmp_eq, e_icmp_ne, e_icmp_lt, e_icmp_ge, e_icmp_gt, e_icmp_le, e_tsw, e_ret0, e_ret1, e_retn, e_getI, e_getZ, e_getR, e_getV, e_getC, e_putI, e_putZ, e_putF, e_gst0, e_gst1, e_sld, e_iald, e_cald, e_bald, e_iast, e_cast, e_aald, e_aast, e_alen, e_slen, e_blen, e_newa, e_newq, e_new, e_oinit, e_ctor, e_virt, e_stat, e_min, e_copy, e_ldc, List.cons_append, List.nil_append, List.append_nil, List.length_cons, List.length_nil, List.replicate_succ, List.replicate_zero, List.getElem?_cons_zero, List.getElem?_cons_succ, List.set_cons_zero, List.set_cons_succ, List.take_succ_cons, List.take_zero, List.drop_succ_cons, List.drop_zero, List.reverse_cons, List.reverse_nil, Option.toList_some, Option.toList_none, Nat.reduceSub, Nat.reduceAdd, Nat.reduceLeDiff, true_and, and_true, and_self, Option.some.injEq, exists_eq_left', Nat.zero_add, Value.int.injEq, Value.ref.injEq, List.cons.injEq, exists_and_left, and_assoc, exists_eq_left, E_in 98, N_98, B_98_0, bk_98_0, o_lt_l, o_lt_r, r_in, C_89, if_pos, if_neg, not_true_eq_false, not_false_eq_true, or_true, true_or, or_false, false_or, false_and, and_false, Nat.reduceEqDiff, Nat.reduceLT, Nat.reduceMul, Nat.not_lt_zero, Nat.zero_le, Nat.le_refl, ne_eq, reduceIte, reduceCtorEq]
      rw [B_98_15]
      simp (disch := omega) only [e_iconst, e_bipush, e_sipush, e_iload_n, e_iload, e_aload_n, e_aload, e_istore_n, e_istore, e_astore_n, e_astore, e_iinc, e_iadd, e_isub, e_imul, e_iand, e_ishr, e_idiv, e_i2c, e_dup_i, e_dup_r, e_dup2, e_pop, e_goto, e_nop, e_if_eq, e_if_ne, e_if_lt, e_if_ge, e_if_gt, e_if_le, e_icmp_eq, e_icmp_ne, e_icmp_lt, e_icmp_ge, e_icmp_gt, e_icmp_le, e_tsw, e_ret0, e_ret1, e_retn, e_getI, e_getZ, e_getR, e_getV, e_getC, e_putI, e_putZ, e_putF, e_gst0, e_gst1, e_sld, e_iald, e_cald, e_bald, e_iast, e_cast, e_aald, e_aast, e_alen, e_slen, e_blen, e_newa, e_newq, e_new, e_oinit, e_ctor, e_virt, e_stat, e_min, e_copy, e_ldc, List.cons_append, List.nil_append, List.append_nil, List.length_cons, List.length_nil, List.replicate_succ, List.replicate_zero, List.getElem?_cons_zero, List.getElem?_cons_succ, List.set_cons_zero, List.set_cons_succ, List.take_succ_cons, List.take_zero, List.drop_succ_cons, List.drop_zero, List.reverse_cons, List.reverse_nil, Option.toList_some, Option.toList_none, Nat.reduceSub, Nat.reduceAdd, Nat.reduceLeDiff, true_and, and_true, and_self, Option.some.injEq, exists_eq_left', Nat.zero_add, Value.int.injEq, Value.ref.injEq, List.cons.injEq, exists_and_left, and_assoc, exists_eq_left, bk_98_15, m0, m1, m2, o_in, o_cl, e1, c4, if_pos, if_neg, not_true_eq_false, not_false_eq_true, or_true, true_or, or_false, false_or, false_and, and_false, Nat.reduceEqDiff, Nat.reduceLT, Nat.reduceMul, Nat.not_lt_zero, Nat.zero_le, Nat.le_refl, ne_eq, reduceIte, reduceCtorEq]
      exact OPo_same hrel hJ
  · refine ⟨nI ru, RTu R n, mSet (hRm I (qTu f n) n) 1 3 (nI k), ?_, fun J hJ => ?_⟩
    · simp (disch := omega) only [e_iconst, e_bipush, e_sipush, e_iload_n, e_iload, e_aload_n, e_aload, e_istore_n, e_istore, e_astore_n, e_astore, e_iinc, e_iadd, e_isub, e_imul, e_iand, e_ishr, e_idiv, e_i2c, e_dup_i, e_dup_r, e_dup2, e_pop, e_goto, e_nop, e_if_eq, e_if_ne, e_if_lt, e_if_ge, e_if_gt, e_if_le, e_icmp_eq, e_icmp_ne, e_icmp_lt, e_icmp_ge, e_icmp_gt, e_icmp_le, e_tsw, e_ret0, e_ret1, e_retn, e_getI, e_getZ, e_getR, e_getV, e_getC, e_putI, e_putZ, e_putF, e_gst0, e_gst1, e_sld, e_iald, e_cald, e_bald, e_iast, e_cast, e_aald, e_aast, e_alen, e_slen, e_blen, e_newa, e_newq, e_new, e_oinit, e_ctor, e_virt, e_stat, e_min, e_copy, e_ldc, List.cons_append, List.nil_append, List.append_nil, List.length_cons, List.length_nil, List.replicate_succ, List.replicate_zero, List.getElem?_cons_zero, List.getElem?_cons_succ, List.set_cons_zero, List.set_cons_succ, List.take_succ_cons, List.take_zero, List.drop_succ_cons, List.drop_zero, List.reverse_cons, List.reverse_nil, Option.toList_some, Option.toList_none, Nat.reduceSub, Nat.reduceAdd, Nat.reduceLeDiff, true_and, and_true, and_self, Option.some.injEq, exists_eq_left', Nat.zero_add, Value.int.injEq, Value.ref.injEq, List.cons.injEq, exists_and_left, and_assoc, exists_eq_left, E_in 60, N_60, B_60_0, bk_60_0, B_60_16, bk_60_16, o_lt_l, o_le_l, a0, a1, gs0, h589, n_eq, c4, Ne.symm c4, if_pos, if_neg, not_true_eq_false, not_false_eq_true, or_true, true_or, or_false, false_or, false_and, and_false, Nat.reduceEqDiff, Nat.reduceLT, Nat.reduceMul, Nat.not_lt_zero, Nat.zero_le, Nat.le_refl, ne_eq, reduceIte, reduceCtorEq]
      rw [B_60_32]
      simp (disch := omega) only [e_iconst, e_bipush, e_sipush, e_iload_n, e_iload, e_aload_n, e_aload, e_istore_n, e_istore, e_astore_n, e_astore, e_iinc, e_iadd, e_isub, e_imul, e_iand, e_ishr, e_idiv, e_i2c, e_dup_i, e_dup_r, e_dup2, e_pop, e_goto, e_nop, e_if_eq, e_if_ne, e_if_lt, e_if_ge, e_if_gt, e_if_le, e_icmp_eq, e_icmp_ne, e_icmp_lt, e_icmp_ge, e_icmp_gt, e_icmp_le, e_tsw, e_ret0, e_ret1, e_retn, e_getI, e_getZ, e_getR, e_getV, e_getC, e_putI, e_putZ, e_putF, e_gst0, e_gst1, e_sld, e_iald, e_cald, e_bald, e_iast, e_cast, e_aald, e_aast, e_alen, e_slen, e_blen, e_newa, e_newq, e_new, e_oinit, e_ctor, e_virt, e_stat, e_min, e_copy, e_ldc, List.cons_append, List.nil_append, List.append_nil, List.length_cons, List.length_nil, List.replicate_succ, List.replicate_zero, List.getElem?_cons_zero, List.getElem?_cons_succ, List.set_cons_zero, List.set_cons_succ, List.take_succ_cons, List.take_zero, List.drop_succ_cons, List.drop_zero, List.reverse_cons, List.reverse_nil, Option.toList_some, Option.toList_none, Nat.reduceSub, Nat.reduceAdd, Nat.reduceLeDiff, true_and, and_true, and_self, Option.some.injEq, exists_eq_left', Nat.zero_add, Value.int.injEq, Value.ref.injEq, List.cons.injEq, exists_and_left, and_assoc, exists_eq_left, bk_60_32, C_9, a_remember g hv hn hn2, a0, a1, a2, a1t, gs0, gh0, if_pos, if_neg, not_true_eq_false, not_false_eq_true, or_true, true_or, or_false, false_or, false_and, and_false, Nat.reduceEqDiff, Nat.reduceLT, Nat.reduceMul, Nat.not_lt_zero, Nat.zero_le, Nat.le_refl, ne_eq, reduceIte, reduceCtorEq]
    · have j5 : J 195 = I 195 := by rw [SCR_row hJ (by omega), s_no (by omega), hRm_w (by omega) (by omega)]
      have j2 : J 194 2 = nI n := by rw [SCR_m hJ (by omega), s_ne (by omega), hRm_o (by omega) (by omega)]; exact hk
      have e1 : J 195 589 = nI ru := by rw [j5]; exact ru2
      simp (disch := omega) only [e_iconst, e_bipush, e_sipush, e_iload_n, e_iload, e_aload_n, e_aload, e_istore_n, e_istore, e_astore_n, e_astore, e_iinc, e_iadd, e_isub, e_imul, e_iand, e_ishr, e_idiv, e_i2c, e_dup_i, e_dup_r, e_dup2, e_pop, e_goto, e_nop, e_if_eq, e_if_ne, e_if_lt, e_if_ge, e_if_gt, e_if_le, e_icmp_eq, e_icmp_ne, e_icmp_lt, e_icmp_ge, e_icmp_gt, e_icmp_le, e_tsw, e_ret0, e_ret1, e_retn, e_getI, e_getZ, e_getR, e_getV, e_getC, e_putI, e_putZ, e_putF, e_gst0, e_gst1, e_sld, e_iald, e_cald, e_bald, e_iast, e_cast, e_aald, e_aast, e_alen, e_slen, e_blen, e_newa, e_newq, e_new, e_oinit, e_ctor, e_virt, e_stat, e_min, e_copy, e_ldc, List.cons_append, List.nil_append, List.append_nil, List.length_cons, List.length_nil, List.replicate_succ, List.replicate_zero, List.getElem?_cons_zero, List.getElem?_cons_succ, List.set_cons_zero, List.set_cons_succ, List.take_succ_cons, List.take_zero, List.drop_succ_cons, List.drop_zero, List.reverse_cons, List.reverse_nil, Option.toList_some, Option.toList_none, Nat.reduceSub, Nat.reduceAdd, Nat.reduceLeDiff, true_and, and_true, and_self, Option.some.injEq, exists_eq_left', Nat.zero_add, Value.int.injEq, Value.ref.injEq, List.cons.injEq, exists_and_left, and_assoc, exists_eq_left, E_in 98, N_98, B_98_0, bk_98_0, o_lt_l, o_lt_r, r_in, C_89, if_pos, if_neg, not_true_eq_false, not_false_eq_true, or_true, true_or, or_false, false_or, false_and, and_false, Nat.reduceEqDiff, Nat.reduceLT, Nat.reduceMul, Nat.not_lt_zero, Nat.zero_le, Nat.le_refl, ne_eq, reduceIte, reduceCtorEq]
      rw [B_98_15]
      simp (disch := omega) only [e_iconst, e_bipush, e_sipush, e_iload_n, e_iload, e_aload_n, e_aload, e_istore_n, e_istore, e_astore_n, e_astore, e_iinc, e_iadd, e_isub, e_imul, e_iand, e_ishr, e_idiv, e_i2c, e_dup_i, e_dup_r, e_dup2, e_pop, e_goto, e_nop, e_if_eq, e_if_ne, e_if_lt, e_if_ge, e_if_gt, e_if_le, e_icmp_eq, e_icmp_ne, e_icmp_lt, e_icmp_ge, e_icmp_gt, e_icmp_le, e_tsw, e_ret0, e_ret1, e_retn, e_getI, e_getZ, e_getR, e_getV, e_getC, e_putI, e_putZ, e_putF, e_gst0, e_gst1, e_sld, e_iald, e_cald, e_bald, e_iast, e_cast, e_aald, e_aast, e_alen, e_slen, e_blen, e_newa, e_newq, e_new, e_oinit, e_ctor, e_virt, e_stat, e_min, e_copy, e_ldc, List.cons_append, List.nil_append, List.append_nil, List.length_cons, List.length_nil, List.replicate_succ, List.replicate_zero, List.getElem?_cons_zero, List.getElem?_cons_succ, List.set_cons_zero, List.set_cons_succ, List.take_succ_cons, List.take_zero, List.drop_succ_cons, List.drop_zero, List.reverse_cons, List.reverse_nil, Option.toList_some, Option.toList_none, Nat.reduceSub, Nat.reduceAdd, Nat.reduceLeDiff, true_and, and_true, and_self, Option.some.injEq, exists_eq_left', Nat.zero_add, Value.int.injEq, Value.ref.injEq, List.cons.injEq, exists_and_left, and_assoc, exists_eq_left, bk_98_15, m0, m1t, m2, o_in, o_cl, e1, n_eq, c4, if_pos, if_neg, not_true_eq_false, not_false_eq_true, or_true, true_or, or_false, false_or, false_and, and_false, Nat.reduceEqDiff, Nat.reduceLT, Nat.reduceMul, Nat.not_lt_zero, Nat.zero_le, Nat.le_refl, ne_eq, reduceIte, reduceCtorEq]
      rw [B_98_32]
      simp (disch := omega) only [e_iconst, e_bipush, e_sipush, e_iload_n, e_iload, e_aload_n, e_aload, e_istore_n, e_istore, e_astore_n, e_astore, e_iinc, e_iadd, e_isub, e_imul, e_iand, e_ishr, e_idiv, e_i2c, e_dup_i, e_dup_r, e_dup2, e_pop, e_goto, e_nop, e_if_eq, e_if_ne, e_if_lt, e_if_ge, e_if_gt, e_if_le, e_icmp_eq, e_icmp_ne, e_icmp_lt, e_icmp_ge, e_icmp_gt, e_icmp_le, e_tsw, e_ret0, e_ret1, e_retn, e_getI, e_getZ, e_getR, e_getV, e_getC, e_putI, e_putZ, e_putF, e_gst0, e_gst1, e_sld, e_iald, e_cald, e_bald, e_iast, e_cast, e_aald, e_aast, e_alen, e_slen, e_blen, e_newa, e_newq, e_new, e_oinit, e_ctor, e_virt, e_stat, e_min, e_copy, e_ldc, List.cons_append, List.nil_append, List.append_nil, List.length_cons, List.length_nil, List.replicate_succ, List.replicate_zero, List.getElem?_cons_zero, List.getElem?_cons_succ, List.set_cons_zero, List.set_cons_succ, List.take_succ_cons, List.take_zero, List.drop_succ_cons, List.drop_zero, List.reverse_cons, List.reverse_nil, Option.toList_some, Option.toList_none, Nat.reduceSub, Nat.reduceAdd, Nat.reduceLeDiff, true_and, and_true, and_self, Option.some.injEq, exists_eq_left', Nat.zero_add, Value.int.injEq, Value.ref.injEq, List.cons.injEq, exists_and_left, and_assoc, exists_eq_left, bk_98_32, C_95, r_record gmt j2 hn2, m0, m1t, m2, o_in, o_cl, m_rs, if_pos, if_neg, not_true_eq_false, not_false_eq_true, or_true, true_or, or_false, false_or, false_and, and_false, Nat.reduceEqDiff, Nat.reduceLT, Nat.reduceMul, Nat.not_lt_zero, Nat.zero_le, Nat.le_refl, ne_eq, reduceIte, reduceCtorEq]
      rw [rRec_o (by omega), j5]
      exact OPo_act g hv hn2 hH hP hT (fun x x1 x2 => s_no (by omega)) (by rw [s_no (by omega), hRm_w (by omega) (by omega)]) (fun x hx => by rw [s_no (by omega), hRm_w (by omega) (by omega)]) (RC_num hv (Or.inr ⟨rfl, rfl, k, k0, k1, rfl⟩)) hJ
end
section
/-! THE SIMPLE OPS: texts, history, snapshot, events, counts -/
theorem cnt_cg {P P' : Nat → Bool} : ∀ n, (∀ s, s < n → P s = P' s) → cnt P n = cnt P' n := by
  intro n
  induction n with
  | zero => intro _; rfl
  | succ n ih => intro h; simp only [cnt, ih (fun s hs => h s (by omega)), h n (by omega)]
theorem sm_cg {f f' : Nat → Int32} : ∀ n, (∀ s, s < n → f s = f' s) → sm f n = sm f' n := by
  intro n
  induction n with
  | zero => intro _; rfl
  | succ n ih => intro h; simp only [sm, ih (fun s hs => h s (by omega)), h n (by omega)]
theorem r_full {K : mK} {R : Nat → Nat → Option Nat} {I : Nat → Nat → Int32} {Q : Option Value → mH → Prop} (h : zM K R) : EvM 123 [.ref 194] (K, R, I) Q ↔ Q (some (.int (nI (cnt (fun s => !(I 195 (98 * s) == 0)) 6)))) (K, R, I) := by
  obtain ⟨h0, h1, h2, -⟩ := id h
  refine EvM_iff ?_
  unfold EvM
  rw [B_123_0]
  simp (disch := omega) only [e_iconst, e_bipush, e_sipush, e_iload_n, e_iload, e_aload_n, e_aload, e_istore_n, e_istore, e_astore_n, e_astore, e_iinc, e_iadd, e_isub, e_imul, e_iand, e_ishr, e_idiv, e_i2c, e_dup_i, e_dup_r, e_dup2, e_pop, e_goto, e_nop, e_if_eq, e_if_ne, e_if_lt, e_if_ge, e_if_gt, e_if_le, e_icmp_eq, e_icmp_ne, e_icmp_lt, e_icmp_ge, e_icmp_gt, e_icmp_le, e_tsw, e_ret0, e_ret1, e_retn, e_getI, e_getZ, e_getR, e_getV, e_getC, e_putI, e_putZ, e_putF, e_gst0, e_gst1, e_sld, e_iald, e_cald, e_bald, e_iast, e_cast, e_aald, e_aast, e_alen, e_slen, e_blen, e_newa, e_newq, e_new, e_oinit, e_ctor, e_virt, e_stat, e_min, e_copy, e_ldc, List.cons_append, List.nil_append, List.append_nil, List.length_cons, List.length_nil, List.replicate_succ, List.replicate_zero, List.getElem?_cons_zero, List.getElem?_cons_succ, List.set_cons_zero, List.set_cons_succ, List.take_succ_cons, List.take_zero, List.drop_succ_cons, List.drop_zero, List.reverse_cons, List.reverse_nil, Option.toList_some, Option.toList_none, Nat.reduceSub, Nat.reduceAdd, Nat.reduceLeDiff, true_and, and_true, and_self, Option.some.injEq, exists_eq_left', Nat.zero_add, Value.int.injEq, Value.ref.injEq, List.cons.injEq, exists_and_left, and_assoc, exists_eq_left, N_123, bk_123_0, if_pos, if_neg, not_true_eq_false, not_false_eq_true, or_true, true_or, or_false, false_or, false_and, and_false, Nat.reduceEqDiff, Nat.reduceLT, Nat.reduceMul, Nat.not_lt_zero, Nat.zero_le, Nat.le_refl, ne_eq, reduceIte, reduceCtorEq]
  have key := loop_dn (n := 6) (P := fun k => Ev 123 (mB 123 4) [.ref 194, .int (nI (cnt (fun s => !(I 195 (98 * s) == 0)) k)), .int (nI k)] [] (K, R, I) (fun v k => v = some (.int (nI (cnt (fun s => !(I 195 (98 * s) == 0)) 6))) ∧ k = (K, R, I))) ?_ ?_
  · exact key
  · intro k hk hnext
    rw [B_123_4]
    simp (disch := omega) only [e_iconst, e_bipush, e_sipush, e_iload_n, e_iload, e_aload_n, e_aload, e_istore_n, e_istore, e_astore_n, e_astore, e_iinc, e_iadd, e_isub, e_imul, e_iand, e_ishr, e_idiv, e_i2c, e_dup_i, e_dup_r, e_dup2, e_pop, e_goto, e_nop, e_if_eq, e_if_ne, e_if_lt, e_if_ge, e_if_gt, e_if_le, e_icmp_eq, e_icmp_ne, e_icmp_lt, e_icmp_ge, e_icmp_gt, e_icmp_le, e_tsw, e_ret0, e_ret1, e_retn, e_getI, e_getZ, e_getR, e_getV, e_getC, e_putI, e_putZ, e_putF, e_gst0, e_gst1, e_sld, e_iald, e_cald, e_bald, e_iast, e_cast, e_aald, e_aast, e_alen, e_slen, e_blen, e_newa, e_newq, e_new, e_oinit, e_ctor, e_virt, e_stat, e_min, e_copy, e_ldc, List.cons_append, List.nil_append, List.append_nil, List.length_cons, List.length_nil, List.replicate_succ, List.replicate_zero, List.getElem?_cons_zero, List.getElem?_cons_succ, List.set_cons_zero, List.set_cons_succ, List.take_succ_cons, List.take_zero, List.drop_succ_cons, List.drop_zero, List.reverse_cons, List.reverse_nil, Option.toList_some, Option.toList_none, Nat.reduceSub, Nat.reduceAdd, Nat.reduceLeDiff, true_and, and_true, and_self, Option.some.injEq, exists_eq_left', Nat.zero_add, Value.int.injEq, Value.ref.injEq, List.cons.injEq, exists_and_left, and_assoc, exists_eq_left, bk_123_4, h0, o_le_r, if_neg, C_93, r_isEmpty h hk, if_pos, if_neg, not_true_eq_false, not_false_eq_true, or_true, true_or, or_false, false_or, false_and, and_false, Nat.reduceEqDiff, Nat.reduceLT, Nat.reduceMul, Nat.not_lt_zero, Nat.zero_le, Nat.le_refl, ne_eq, reduceIte, reduceCtorEq]
    by_cases c : I 195 (98 * k) = 0
    · simp (disch := omega) only [e_iconst, e_bipush, e_sipush, e_iload_n, e_iload, e_aload_n, e_aload, e_istore_n, e_istore, e_astore_n, e_astore, e_iinc, e_iadd, e_isub, e_imul, e_iand, e_ishr, e_idiv, e_i2c, e_dup_i, e_dup_r, e_dup2, e_pop, e_goto, e_nop, e_if_eq, e_if_ne, e_if_lt, e_if_ge, e_if_gt, e_if_le, e_icmp_eq, e_icmp_ne, e_icmp_lt, e_icmp_ge, e_icmp_gt, e_icmp_le, e_tsw, e_ret0, e_ret1, e_retn, e_getI, e_getZ, e_getR, e_getV, e_getC, e_putI, e_putZ, e_putF, e_gst0, e_gst1, e_sld, e_iald, e_cald, e_bald, e_iast, e_cast, e_aald, e_aast, e_alen, e_slen, e_blen, e_newa, e_newq, e_new, e_oinit, e_ctor, e_virt, e_stat, e_min, e_copy, e_ldc, List.cons_append, List.nil_append, List.append_nil, List.length_cons, List.length_nil, List.replicate_succ, List.replicate_zero, List.getElem?_cons_zero, List.getElem?_cons_succ, List.set_cons_zero, List.set_cons_succ, List.take_succ_cons, List.take_zero, List.drop_succ_cons, List.drop_zero, List.reverse_cons, List.reverse_nil, Option.toList_some, Option.toList_none, Nat.reduceSub, Nat.reduceAdd, Nat.reduceLeDiff, true_and, and_true, and_self, Option.some.injEq, exists_eq_left', Nat.zero_add, Value.int.injEq, Value.ref.injEq, List.cons.injEq, exists_and_left, and_assoc, exists_eq_left, c, if_pos, o_eq, B_123_24, bk_123_24, o_add_l, if_pos, if_neg, not_true_eq_false, not_false_eq_true, or_true, true_or, or_false, false_or, false_and, and_false, Nat.reduceEqDiff, Nat.reduceLT, Nat.reduceMul, Nat.not_lt_zero, Nat.zero_le, Nat.le_refl, ne_eq, reduceIte, reduceCtorEq]
      refine Ev_cg rfl ?_ hnext
      simp [cnt, c]
    · simp (disch := omega) only [e_iconst, e_bipush, e_sipush, e_iload_n, e_iload, e_aload_n, e_aload, e_istore_n, e_istore, e_astore_n, e_astore, e_iinc, e_iadd, e_isub, e_imul, e_iand, e_ishr, e_idiv, e_i2c, e_dup_i, e_dup_r, e_dup2, e_pop, e_goto, e_nop, e_if_eq, e_if_ne, e_if_lt, e_if_ge, e_if_gt, e_if_le, e_icmp_eq, e_icmp_ne, e_icmp_lt, e_icmp_ge, e_icmp_gt, e_icmp_le, e_tsw, e_ret0, e_ret1, e_retn, e_getI, e_getZ, e_getR, e_getV, e_getC, e_putI, e_putZ, e_putF, e_gst0, e_gst1, e_sld, e_iald, e_cald, e_bald, e_iast, e_cast, e_aald, e_aast, e_alen, e_slen, e_blen, e_newa, e_newq, e_new, e_oinit, e_ctor, e_virt, e_stat, e_min, e_copy, e_ldc, List.cons_append, List.nil_append, List.append_nil, List.length_cons, List.length_nil, List.replicate_succ, List.replicate_zero, List.getElem?_cons_zero, List.getElem?_cons_succ, List.set_cons_zero, List.set_cons_succ, List.take_succ_cons, List.take_zero, List.drop_succ_cons, List.drop_zero, List.reverse_cons, List.reverse_nil, Option.toList_some, Option.toList_none, Nat.reduceSub, Nat.reduceAdd, Nat.reduceLeDiff, true_and, and_true, and_self, Option.some.injEq, exists_eq_left', Nat.zero_add, Value.int.injEq, Value.ref.injEq, List.cons.injEq, exists_and_left, and_assoc, exists_eq_left, c, if_neg, o_eq, B_123_23, bk_123_23, B_123_24, bk_123_24, o_add_l, if_pos, if_neg, not_true_eq_false, not_false_eq_true, or_true, true_or, or_false, false_or, false_and, and_false, Nat.reduceEqDiff, Nat.reduceLT, Nat.reduceMul, Nat.not_lt_zero, Nat.zero_le, Nat.le_refl, ne_eq, reduceIte, reduceCtorEq]
      refine Ev_cg rfl ?_ hnext
      simp [cnt, c]
  · rw [B_123_4]
    simp (disch := omega) only [e_iconst, e_bipush, e_sipush, e_iload_n, e_iload, e_aload_n, e_aload, e_istore_n, e_istore, e_astore_n, e_astore, e_iinc, e_iadd, e_isub, e_imul, e_iand, e_ishr, e_idiv, e_i2c, e_dup_i, e_dup_r, e_dup2, e_pop, e_goto, e_nop, e_if_eq, e_if_ne, e_if_lt, e_if_ge, e_if_gt, e_if_le, e_icmp_eq, e_icmp_ne, e_icmp_lt, e_icmp_ge, e_icmp_gt, e_icmp_le, e_tsw, e_ret0, e_ret1, e_retn, e_getI, e_getZ, e_getR, e_getV, e_getC, e_putI, e_putZ, e_putF, e_gst0, e_gst1, e_sld, e_iald, e_cald, e_bald, e_iast, e_cast, e_aald, e_aast, e_alen, e_slen, e_blen, e_newa, e_newq, e_new, e_oinit, e_ctor, e_virt, e_stat, e_min, e_copy, e_ldc, List.cons_append, List.nil_append, List.append_nil, List.length_cons, List.length_nil, List.replicate_succ, List.replicate_zero, List.getElem?_cons_zero, List.getElem?_cons_succ, List.set_cons_zero, List.set_cons_succ, List.take_succ_cons, List.take_zero, List.drop_succ_cons, List.drop_zero, List.reverse_cons, List.reverse_nil, Option.toList_some, Option.toList_none, Nat.reduceSub, Nat.reduceAdd, Nat.reduceLeDiff, true_and, and_true, and_self, Option.some.injEq, exists_eq_left', Nat.zero_add, Value.int.injEq, Value.ref.injEq, List.cons.injEq, exists_and_left, and_assoc, exists_eq_left, bk_123_4, B_123_32, bk_123_32, o_le_r, if_pos, Nat.le_refl, if_pos, if_neg, not_true_eq_false, not_false_eq_true, or_true, true_or, or_false, false_or, false_and, and_false, Nat.reduceEqDiff, Nat.reduceLT, Nat.reduceMul, Nat.not_lt_zero, Nat.zero_le, Nat.le_refl, ne_eq, reduceIte, reduceCtorEq]
theorem r_letters {K : mK} {R : Nat → Nat → Option Nat} {I : Nat → Nat → Int32} {Q : Option Value → mH → Prop} (h : zM K R) : EvM 142 [.ref 194] (K, R, I) Q ↔ Q (some (.int (sm (fun s => if I 195 (98 * s) = 0 then 0 else I 195 (98 * s + 2)) 6))) (K, R, I) := by
  obtain ⟨h0, h1, h2, -⟩ := id h
  refine EvM_iff ?_
  unfold EvM
  rw [B_142_0]
  simp (disch := omega) only [e_iconst, e_bipush, e_sipush, e_iload_n, e_iload, e_aload_n, e_aload, e_istore_n, e_istore, e_astore_n, e_astore, e_iinc, e_iadd, e_isub, e_imul, e_iand, e_ishr, e_idiv, e_i2c, e_dup_i, e_dup_r, e_dup2, e_pop, e_goto, e_nop, e_if_eq, e_if_ne, e_if_lt, e_if_ge, e_if_gt, e_if_le, e_icmp_eq, e_icmp_ne, e_icmp_lt, e_icmp_ge, e_icmp_gt, e_icmp_le, e_tsw, e_ret0, e_ret1, e_retn, e_getI, e_getZ, e_getR, e_getV, e_getC, e_putI, e_putZ, e_putF, e_gst0, e_gst1, e_sld, e_iald, e_cald, e_bald, e_iast, e_cast, e_aald, e_aast, e_alen, e_slen, e_blen, e_newa, e_newq, e_new, e_oinit, e_ctor, e_virt, e_stat, e_min, e_copy, e_ldc, List.cons_append, List.nil_append, List.append_nil, List.length_cons, List.length_nil, List.replicate_succ, List.replicate_zero, List.getElem?_cons_zero, List.getElem?_cons_succ, List.set_cons_zero, List.set_cons_succ, List.take_succ_cons, List.take_zero, List.drop_succ_cons, List.drop_zero, List.reverse_cons, List.reverse_nil, Option.toList_some, Option.toList_none, Nat.reduceSub, Nat.reduceAdd, Nat.reduceLeDiff, true_and, and_true, and_self, Option.some.injEq, exists_eq_left', Nat.zero_add, Value.int.injEq, Value.ref.injEq, List.cons.injEq, exists_and_left, and_assoc, exists_eq_left, N_142, bk_142_0, if_pos, if_neg, not_true_eq_false, not_false_eq_true, or_true, true_or, or_false, false_or, false_and, and_false, Nat.reduceEqDiff, Nat.reduceLT, Nat.reduceMul, Nat.not_lt_zero, Nat.zero_le, Nat.le_refl, ne_eq, reduceIte, reduceCtorEq]
  have key := loop_dn (n := 6) (P := fun k => Ev 142 (mB 142 4) [.ref 194, .int (sm (fun s => if I 195 (98 * s) = 0 then 0 else I 195 (98 * s + 2)) k), .int (nI k)] [] (K, R, I) (fun v k => v = some (.int (sm (fun s => if I 195 (98 * s) = 0 then 0 else I 195 (98 * s + 2)) 6)) ∧ k = (K, R, I))) ?_ ?_
  · exact key
  · intro k hk hnext
    rw [B_142_4]
    simp (disch := omega) only [e_iconst, e_bipush, e_sipush, e_iload_n, e_iload, e_aload_n, e_aload, e_istore_n, e_istore, e_astore_n, e_astore, e_iinc, e_iadd, e_isub, e_imul, e_iand, e_ishr, e_idiv, e_i2c, e_dup_i, e_dup_r, e_dup2, e_pop, e_goto, e_nop, e_if_eq, e_if_ne, e_if_lt, e_if_ge, e_if_gt, e_if_le, e_icmp_eq, e_icmp_ne, e_icmp_lt, e_icmp_ge, e_icmp_gt, e_icmp_le, e_tsw, e_ret0, e_ret1, e_retn, e_getI, e_getZ, e_getR, e_getV, e_getC, e_putI, e_putZ, e_putF, e_gst0, e_gst1, e_sld, e_iald, e_cald, e_bald, e_iast, e_cast, e_aald, e_aast, e_alen, e_slen, e_blen, e_newa, e_newq, e_new, e_oinit, e_ctor, e_virt, e_stat, e_min, e_copy, e_ldc, List.cons_append, List.nil_append, List.append_nil, List.length_cons, List.length_nil, List.replicate_succ, List.replicate_zero, List.getElem?_cons_zero, List.getElem?_cons_succ, List.set_cons_zero, List.set_cons_succ, List.take_succ_cons, List.take_zero, List.drop_succ_cons, List.drop_zero, List.reverse_cons, List.reverse_nil, Option.toList_some, Option.toList_none, Nat.reduceSub, Nat.reduceAdd, Nat.reduceLeDiff, true_and, and_true, and_self, Option.some.injEq, exists_eq_left', Nat.zero_add, Value.int.injEq, Value.ref.injEq, List.cons.injEq, exists_and_left, and_assoc, exists_eq_left, bk_142_4, h0, o_le_r, if_neg, C_93, r_isEmpty h hk, if_pos, if_neg, not_true_eq_false, not_false_eq_true, or_true, true_or, or_false, false_or, false_and, and_false, Nat.reduceEqDiff, Nat.reduceLT, Nat.reduceMul, Nat.not_lt_zero, Nat.zero_le, Nat.le_refl, ne_eq, reduceIte, reduceCtorEq]
    by_cases c : I 195 (98 * k) = 0
    · simp (disch := omega) only [e_iconst, e_bipush, e_sipush, e_iload_n, e_iload, e_aload_n, e_aload, e_istore_n, e_istore, e_astore_n, e_astore, e_iinc, e_iadd, e_isub, e_imul, e_iand, e_ishr, e_idiv, e_i2c, e_dup_i, e_dup_r, e_dup2, e_pop, e_goto, e_nop, e_if_eq, e_if_ne, e_if_lt, e_if_ge, e_if_gt, e_if_le, e_icmp_eq, e_icmp_ne, e_icmp_lt, e_icmp_ge, e_icmp_gt, e_icmp_le, e_tsw, e_ret0, e_ret1, e_retn, e_getI, e_getZ, e_getR, e_getV, e_getC, e_putI, e_putZ, e_putF, e_gst0, e_gst1, e_sld, e_iald, e_cald, e_bald, e_iast, e_cast, e_aald, e_aast, e_alen, e_slen, e_blen, e_newa, e_newq, e_new, e_oinit, e_ctor, e_virt, e_stat, e_min, e_copy, e_ldc, List.cons_append, List.nil_append, List.append_nil, List.length_cons, List.length_nil, List.replicate_succ, List.replicate_zero, List.getElem?_cons_zero, List.getElem?_cons_succ, List.set_cons_zero, List.set_cons_succ, List.take_succ_cons, List.take_zero, List.drop_succ_cons, List.drop_zero, List.reverse_cons, List.reverse_nil, Option.toList_some, Option.toList_none, Nat.reduceSub, Nat.reduceAdd, Nat.reduceLeDiff, true_and, and_true, and_self, Option.some.injEq, exists_eq_left', Nat.zero_add, Value.int.injEq, Value.ref.injEq, List.cons.injEq, exists_and_left, and_assoc, exists_eq_left, c, if_pos, o_eq, B_142_29, bk_142_29, o_add_l, if_pos, if_neg, not_true_eq_false, not_false_eq_true, or_true, true_or, or_false, false_or, false_and, and_false, Nat.reduceEqDiff, Nat.reduceLT, Nat.reduceMul, Nat.not_lt_zero, Nat.zero_le, Nat.le_refl, ne_eq, reduceIte, reduceCtorEq]
      refine Ev_cg rfl ?_ hnext
      simp [sm, c]
    · simp (disch := omega) only [e_iconst, e_bipush, e_sipush, e_iload_n, e_iload, e_aload_n, e_aload, e_istore_n, e_istore, e_astore_n, e_astore, e_iinc, e_iadd, e_isub, e_imul, e_iand, e_ishr, e_idiv, e_i2c, e_dup_i, e_dup_r, e_dup2, e_pop, e_goto, e_nop, e_if_eq, e_if_ne, e_if_lt, e_if_ge, e_if_gt, e_if_le, e_icmp_eq, e_icmp_ne, e_icmp_lt, e_icmp_ge, e_icmp_gt, e_icmp_le, e_tsw, e_ret0, e_ret1, e_retn, e_getI, e_getZ, e_getR, e_getV, e_getC, e_putI, e_putZ, e_putF, e_gst0, e_gst1, e_sld, e_iald, e_cald, e_bald, e_iast, e_cast, e_aald, e_aast, e_alen, e_slen, e_blen, e_newa, e_newq, e_new, e_oinit, e_ctor, e_virt, e_stat, e_min, e_copy, e_ldc, List.cons_append, List.nil_append, List.append_nil, List.length_cons, List.length_nil, List.replicate_succ, List.replicate_zero, List.getElem?_cons_zero, List.getElem?_cons_succ, List.set_cons_zero, List.set_cons_succ, List.take_succ_cons, List.take_zero, List.drop_succ_cons, List.drop_zero, List.reverse_cons, List.reverse_nil, Option.toList_some, Option.toList_none, Nat.reduceSub, Nat.reduceAdd, Nat.reduceLeDiff, true_and, and_true, and_self, Option.some.injEq, exists_eq_left', Nat.zero_add, Value.int.injEq, Value.ref.injEq, List.cons.injEq, exists_and_left, and_assoc, exists_eq_left, c, if_neg, o_eq, B_142_23, bk_142_23, if_pos, if_neg, not_true_eq_false, not_false_eq_true, or_true, true_or, or_false, false_or, false_and, and_false, Nat.reduceEqDiff, Nat.reduceLT, Nat.reduceMul, Nat.not_lt_zero, Nat.zero_le, Nat.le_refl, ne_eq, reduceIte, reduceCtorEq]
      simp (disch := omega) only [e_iconst, e_bipush, e_sipush, e_iload_n, e_iload, e_aload_n, e_aload, e_istore_n, e_istore, e_astore_n, e_astore, e_iinc, e_iadd, e_isub, e_imul, e_iand, e_ishr, e_idiv, e_i2c, e_dup_i, e_dup_r, e_dup2, e_pop, e_goto, e_nop, e_if_eq, e_if_ne, e_if_lt, e_if_ge, e_if_gt, e_if_le, e_icmp_eq, e_icmp_ne, e_icmp_lt, e_icmp_ge, e_icmp_gt, e_icmp_le, e_tsw, e_ret0, e_ret1, e_retn, e_getI, e_getZ, e_getR, e_getV, e_getC, e_putI, e_putZ, e_putF, e_gst0, e_gst1, e_sld, e_iald, e_cald, e_bald, e_iast, e_cast, e_aald, e_aast, e_alen, e_slen, e_blen, e_newa, e_newq, e_new, e_oinit, e_ctor, e_virt, e_stat, e_min, e_copy, e_ldc, List.cons_append, List.nil_append, List.append_nil, List.length_cons, List.length_nil, List.replicate_succ, List.replicate_zero, List.getElem?_cons_zero, List.getElem?_cons_succ, List.set_cons_zero, List.set_cons_succ, List.take_succ_cons, List.take_zero, List.drop_succ_cons, List.drop_zero, List.reverse_cons, List.reverse_nil, Option.toList_some, Option.toList_none, Nat.reduceSub, Nat.reduceAdd, Nat.reduceLeDiff, true_and, and_true, and_self, Option.some.injEq, exists_eq_left', Nat.zero_add, Value.int.injEq, Value.ref.injEq, List.cons.injEq, exists_and_left, and_assoc, exists_eq_left, B_142_29, bk_142_29, h0, C_91, r_ofL h hk, o_add_l, if_pos, if_neg, not_true_eq_false, not_false_eq_true, or_true, true_or, or_false, false_or, false_and, and_false, Nat.reduceEqDiff, Nat.reduceLT, Nat.reduceMul, Nat.not_lt_zero, Nat.zero_le, Nat.le_refl, ne_eq, reduceIte, reduceCtorEq]
      refine Ev_cg rfl ?_ hnext
      simp [sm, c]
  · rw [B_142_4]
    simp (disch := omega) only [e_iconst, e_bipush, e_sipush, e_iload_n, e_iload, e_aload_n, e_aload, e_istore_n, e_istore, e_astore_n, e_astore, e_iinc, e_iadd, e_isub, e_imul, e_iand, e_ishr, e_idiv, e_i2c, e_dup_i, e_dup_r, e_dup2, e_pop, e_goto, e_nop, e_if_eq, e_if_ne, e_if_lt, e_if_ge, e_if_gt, e_if_le, e_icmp_eq, e_icmp_ne, e_icmp_lt, e_icmp_ge, e_icmp_gt, e_icmp_le, e_tsw, e_ret0, e_ret1, e_retn, e_getI, e_getZ, e_getR, e_getV, e_getC, e_putI, e_putZ, e_putF, e_gst0, e_gst1, e_sld, e_iald, e_cald, e_bald, e_iast, e_cast, e_aald, e_aast, e_alen, e_slen, e_blen, e_newa, e_newq, e_new, e_oinit, e_ctor, e_virt, e_stat, e_min, e_copy, e_ldc, List.cons_append, List.nil_append, List.append_nil, List.length_cons, List.length_nil, List.replicate_succ, List.replicate_zero, List.getElem?_cons_zero, List.getElem?_cons_succ, List.set_cons_zero, List.set_cons_succ, List.take_succ_cons, List.take_zero, List.drop_succ_cons, List.drop_zero, List.reverse_cons, List.reverse_nil, Option.toList_some, Option.toList_none, Nat.reduceSub, Nat.reduceAdd, Nat.reduceLeDiff, true_and, and_true, and_self, Option.some.injEq, exists_eq_left', Nat.zero_add, Value.int.injEq, Value.ref.injEq, List.cons.injEq, exists_and_left, and_assoc, exists_eq_left, bk_142_4, B_142_37, bk_142_37, o_le_r, if_pos, Nat.le_refl, if_pos, if_neg, not_true_eq_false, not_false_eq_true, or_true, true_or, or_false, false_or, false_and, and_false, Nat.reduceEqDiff, Nat.reduceLT, Nat.reduceMul, Nat.not_lt_zero, Nat.zero_le, Nat.le_refl, ne_eq, reduceIte, reduceCtorEq]
/-- class and reference count the same -/
theorem RC_cnt {I : Nat → Nat → Int32} {a : Nat} {v : Nat → Int32} (h : RC I a v) : cnt (fun s => !(I (a + 6 + 4 * s) 3 == 0)) 6 = cnt (fun s => !(v (98 * s) == 0)) 6 := by
  refine cnt_cg 6 (fun s hs => ?_)
  obtain ⟨p, cl, c, ⟨f1, -⟩, ⟨g1, -⟩, -⟩ := h.1 s hs
  rw [f1, g1]
theorem RC_let {I : Nat → Nat → Int32} {a : Nat} {v : Nat → Int32} (h : RC I a v) : sm (fun s => I (a + 6 + 4 * s) 5) 6 = sm (fun s => if v (98 * s) = 0 then 0 else v (98 * s + 2)) 6 := by
  refine sm_cg 6 (fun s hs => ?_)
  obtain ⟨p, cl, c, ⟨f1, f2, f3, f4, -⟩, ⟨g1, g2, g3, -⟩, h3, -⟩ := h.1 s hs
  rw [f3, g1, g3]
  by_cases e : p = 0
  · subst e; rw [(h3 rfl).2]; rfl
  · have e2 : p = 1 := by omega
    subst e2; rw [if_neg (by rw [show (0 : Int32) = nI 0 from rfl, n_eq (by omega) (by omega)]; omega)]
theorem tgt_out {a n : Nat} {d : Int} {offs : Array Int} {x : Int32} (hn : n < 1000000) (hs : offs.size = n) (h : x < 0 ∨ nI n ≤ x) : mTgt a d 0 offs x = (a + d).toNat := by
  unfold mTgt
  rcases h with h | h
  · rw [if_pos (by rw [Int32.lt_iff_toInt_lt] at h; exact h)]
  · rw [Int32.le_iff_toInt_le, nI_toInt (by omega)] at h
    rw [if_neg (by omega), Array.getElem?_eq_none (by omega)]
/-! count -/
set_option maxHeartbeats 8000000 in
theorem op_count (x : Int32) : OP 81 143 [.int x] := by
  intro K R I hrel
  obtain ⟨f, n, g, hv, hn2, hn, hk, hH, hP, hT⟩ := id hrel
  have q4 := qTu_lt g hn2
  obtain ⟨gm, gs, -, gh, gw, gr, gr', ⟨a0, a1, a2, a3, a4, a5, a6, a7, a8⟩, ⟨b0, b1, b2⟩, cc0⟩ := id g
  have gs0 : K.2.2.1 1 = (1, 4) := gs.1
  have gs1 : R 1 0 = some 2 := gs.2.1
  have gs2 : K.2.2.1 2 = (4, 6) := gs.2.2.1
  have gs3 : R 1 1 = some 3 := gs.2.2.2.1
  have gs4 : zL K R 3 := gs.2.2.2.2.1
  have gW : ∀ s, s < 6 → zW K R (7 + 4 * s) := fun s hs => (gs.2.2.2.2.2.2 s hs).2
  have gR : ∀ s, s < 6 → R 2 s = some (7 + 4 * s) := fun s hs => (gs.2.2.2.2.2.2 s hs).1
  have gh0 := gh.1
  have gsl : K.2.2.1 3 = (1, 2) := gs4.1
  obtain ⟨m0, m1, m2, m3, m4, m5, m6, m7, m8, m9, m10, m11, m12, m13, m14⟩ := id gm
  have gT := zG_tu (n := n) g
  have gmt : zM K (RTu R n) := gT.1
  have gst : zS K (RTu R n) 1 := gT.2.1
  have gt1 : RTu R n 1 0 = some 2 := gst.2.1
  have gt3 : RTu R n 1 1 = some 3 := gst.2.2.2.1
  have gt4 : zL K (RTu R n) 3 := gst.2.2.2.2.1
  have gWt : ∀ s, s < 6 → zW K (RTu R n) (7 + 4 * s) := fun s hs => (gst.2.2.2.2.2.2 s hs).2
  have gRt : ∀ s, s < 6 → RTu R n 2 s = some (7 + 4 * s) := fun s hs => (gst.2.2.2.2.2.2 s hs).1
  obtain ⟨-, m1t, -⟩ := id gmt
  obtain ⟨-, a1t, a2t, a3t, a4t, a5t, a6t, a7t, a8t⟩ := gT.2.2.2.2.2.2.2.1
  obtain ⟨t, t1, t2, t3, t4⟩ := hT
  obtain ⟨e2, e3, e4, e5, e6, e7, e8, -⟩ := id hv.2
  have ec := RC_cnt hv
  have el := RC_let hv
  have hfu : ∀ J, SCR I J → REL K R J ∧ J 195 = I 195 ∧ J 194 2 = nI n ∧ J 194 7 = nI t := fun J hJ => ⟨REL_scr hrel hJ, SCR_row hJ (by omega), by rw [SCR_m hJ (by omega)]; exact hk, by rw [SCR_m hJ (by omega)]; exact t3⟩
  rcases sp_cases x (n := 11) (by omega) with ⟨k, hk2, rfl⟩ | q
  · rcases (show k = 0 ∨ k = 1 ∨ k = 2 ∨ k = 3 ∨ k = 4 ∨ k = 5 ∨ k = 6 ∨ k = 7 ∨ k = 8 ∨ k = 9 ∨ k = 10 by omega) with rfl | rfl | rfl | rfl | rfl | rfl | rfl | rfl | rfl | rfl | rfl
    · refine ⟨nI (cnt (fun s => !(I 195 (98 * s) == 0)) 6), R, I, ?_, fun J hJ => ?_⟩
      · simp (disch := omega) only [e_iconst, e_bipush, e_sipush, e_iload_n, e_iload, e_aload_n, e_aload, e_istore_n, e_istore, e_astore_n, e_astore, e_iinc, e_iadd, e_isub, e_imul, e_iand, e_ishr, e_idiv, e_i2c, e_dup_i, e_dup_r, e_dup2, e_pop, e_goto, e_nop, e_if_eq, e_if_ne, e_if_lt, e_if_ge, e_if_gt, e_if_le, e_icmp_eq, e_icmp_ne, e_icmp_lt, e_icmp_ge, e_icmp_gt, e_icmp_le, e_tsw, e_ret0, e_ret1, e_retn, e_getI, e_getZ, e_getR, e_getV, e_getC, e_putI, e_putZ, e_putF, e_gst0, e_gst1, e_sld, e_iald, e_cald, e_bald, e_iast, e_cast, e_aald, e_aast, e_alen, e_slen, e_blen, e_newa, e_newq, e_new, e_oinit, e_ctor, e_virt, e_stat, e_min, e_copy, e_ldc, List.cons_append, List.nil_append, List.append_nil, List.length_cons, List.length_nil, List.replicate_succ, List.replicate_zero, List.getElem?_cons_zero, List.getElem?_cons_succ, List.set_cons_zero, List.set_cons_succ, List.take_succ_cons, List.take_zero, List.drop_succ_cons, List.drop_zero, List.reverse_cons, List.reverse_nil, Option.toList_some, Option.toList_none, Nat.reduceSub, Nat.reduceAdd, Nat.reduceLeDiff, true_and, and_true, and_self, Option.some.injEq, exists_eq_left', Nat.zero_add, Value.int.injEq, Value.ref.injEq, List.cons.injEq, exists_and_left, and_assoc, exists_eq_left, E_in 81, N_81, B_81_0, bk_81_0, show mTgt 1 147 0 #[59, 67, 75, 83, 91, 99, 107, 115, 123, 131, 139] (nI 0) = 60 from by decide, if_pos, if_neg, not_true_eq_false, not_false_eq_true, or_true, true_or, or_false, false_or, false_and, and_false, Nat.reduceEqDiff, Nat.reduceLT, Nat.reduceMul, Nat.not_lt_zero, Nat.zero_le, Nat.le_refl, ne_eq, reduceIte, reduceCtorEq]
        simp (disch := omega) only [e_iconst, e_bipush, e_sipush, e_iload_n, e_iload, e_aload_n, e_aload, e_istore_n, e_istore, e_astore_n, e_astore, e_iinc, e_iadd, e_isub, e_imul, e_iand, e_ishr, e_idiv, e_i2c, e_dup_i, e_dup_r, e_dup2, e_pop, e_goto, e_nop, e_if_eq, e_if_ne, e_if_lt, e_if_ge, e_if_gt, e_if_le, e_icmp_eq, e_icmp_ne, e_icmp_lt, e_icmp_ge, e_icmp_gt, e_icmp_le, e_tsw, e_ret0, e_ret1, e_retn, e_getI, e_getZ, e_getR, e_getV, e_getC, e_putI, e_putZ, e_putF, e_gst0, e_gst1, e_sld, e_iald, e_cald, e_bald, e_iast, e_cast, e_aald, e_aast, e_alen, e_slen, e_blen, e_newa, e_newq, e_new, e_oinit, e_ctor, e_virt, e_stat, e_min, e_copy, e_ldc, List.cons_append, List.nil_append, List.append_nil, List.length_cons, List.length_nil, List.replicate_succ, List.replicate_zero, List.getElem?_cons_zero, List.getElem?_cons_succ, List.set_cons_zero, List.set_cons_succ, List.take_succ_cons, List.take_zero, List.drop_succ_cons, List.drop_zero, List.reverse_cons, List.reverse_nil, Option.toList_some, Option.toList_none, Nat.reduceSub, Nat.reduceAdd, Nat.reduceLeDiff, true_and, and_true, and_self, Option.some.injEq, exists_eq_left', Nat.zero_add, Value.int.injEq, Value.ref.injEq, List.cons.injEq, exists_and_left, and_assoc, exists_eq_left, B_81_60, bk_81_60, a0, a1, a2, a4, b0, gs0, gh0, hn, t2, e2, e3, e4, e5, e6, e7, e8, C_26, C_27, m_spools gs, m_letters gs, ec, el, if_pos, if_neg, not_true_eq_false, not_false_eq_true, or_true, true_or, or_false, false_or, false_and, and_false, Nat.reduceEqDiff, Nat.reduceLT, Nat.reduceMul, Nat.not_lt_zero, Nat.zero_le, Nat.le_refl, ne_eq, reduceIte, reduceCtorEq]
      · obtain ⟨hr, j5, j2, j7⟩ := hfu J hJ
        simp (disch := omega) only [e_iconst, e_bipush, e_sipush, e_iload_n, e_iload, e_aload_n, e_aload, e_istore_n, e_istore, e_astore_n, e_astore, e_iinc, e_iadd, e_isub, e_imul, e_iand, e_ishr, e_idiv, e_i2c, e_dup_i, e_dup_r, e_dup2, e_pop, e_goto, e_nop, e_if_eq, e_if_ne, e_if_lt, e_if_ge, e_if_gt, e_if_le, e_icmp_eq, e_icmp_ne, e_icmp_lt, e_icmp_ge, e_icmp_gt, e_icmp_le, e_tsw, e_ret0, e_ret1, e_retn, e_getI, e_getZ, e_getR, e_getV, e_getC, e_putI, e_putZ, e_putF, e_gst0, e_gst1, e_sld, e_iald, e_cald, e_bald, e_iast, e_cast, e_aald, e_aast, e_alen, e_slen, e_blen, e_newa, e_newq, e_new, e_oinit, e_ctor, e_virt, e_stat, e_min, e_copy, e_ldc, List.cons_append, List.nil_append, List.append_nil, List.length_cons, List.length_nil, List.replicate_succ, List.replicate_zero, List.getElem?_cons_zero, List.getElem?_cons_succ, List.set_cons_zero, List.set_cons_succ, List.take_succ_cons, List.take_zero, List.drop_succ_cons, List.drop_zero, List.reverse_cons, List.reverse_nil, Option.toList_some, Option.toList_none, Nat.reduceSub, Nat.reduceAdd, Nat.reduceLeDiff, true_and, and_true, and_self, Option.some.injEq, exists_eq_left', Nat.zero_add, Value.int.injEq, Value.ref.injEq, List.cons.injEq, exists_and_left, and_assoc, exists_eq_left, E_in 143, N_143, B_143_0, bk_143_0, show mTgt 1 142 0 #[59, 64, 69, 78, 87, 96, 105, 114, 123, 132, 137] (nI 0) = 60 from by decide, if_pos, if_neg, not_true_eq_false, not_false_eq_true, or_true, true_or, or_false, false_or, false_and, and_false, Nat.reduceEqDiff, Nat.reduceLT, Nat.reduceMul, Nat.not_lt_zero, Nat.zero_le, Nat.le_refl, ne_eq, reduceIte, reduceCtorEq]
        simp (disch := omega) only [e_iconst, e_bipush, e_sipush, e_iload_n, e_iload, e_aload_n, e_aload, e_istore_n, e_istore, e_astore_n, e_astore, e_iinc, e_iadd, e_isub, e_imul, e_iand, e_ishr, e_idiv, e_i2c, e_dup_i, e_dup_r, e_dup2, e_pop, e_goto, e_nop, e_if_eq, e_if_ne, e_if_lt, e_if_ge, e_if_gt, e_if_le, e_icmp_eq, e_icmp_ne, e_icmp_lt, e_icmp_ge, e_icmp_gt, e_icmp_le, e_tsw, e_ret0, e_ret1, e_retn, e_getI, e_getZ, e_getR, e_getV, e_getC, e_putI, e_putZ, e_putF, e_gst0, e_gst1, e_sld, e_iald, e_cald, e_bald, e_iast, e_cast, e_aald, e_aast, e_alen, e_slen, e_blen, e_newa, e_newq, e_new, e_oinit, e_ctor, e_virt, e_stat, e_min, e_copy, e_ldc, List.cons_append, List.nil_append, List.append_nil, List.length_cons, List.length_nil, List.replicate_succ, List.replicate_zero, List.getElem?_cons_zero, List.getElem?_cons_succ, List.set_cons_zero, List.set_cons_succ, List.take_succ_cons, List.take_zero, List.drop_succ_cons, List.drop_zero, List.reverse_cons, List.reverse_nil, Option.toList_some, Option.toList_none, Nat.reduceSub, Nat.reduceAdd, Nat.reduceLeDiff, true_and, and_true, and_self, Option.some.injEq, exists_eq_left', Nat.zero_add, Value.int.injEq, Value.ref.injEq, List.cons.injEq, exists_and_left, and_assoc, exists_eq_left, B_143_60, bk_143_60, m0, m1, m2, C_123, C_142, r_full gm, r_letters gm, j5, j2, j7, o_in, o_cl, if_pos, if_neg, not_true_eq_false, not_false_eq_true, or_true, true_or, or_false, false_or, false_and, and_false, Nat.reduceEqDiff, Nat.reduceLT, Nat.reduceMul, Nat.not_lt_zero, Nat.zero_le, Nat.le_refl, ne_eq, reduceIte, reduceCtorEq]
        exact OPo_same hrel hJ
    · refine ⟨sm (fun s => if I 195 (98 * s) = 0 then 0 else I 195 (98 * s + 2)) 6, R, I, ?_, fun J hJ => ?_⟩
      · simp (disch := omega) only [e_iconst, e_bipush, e_sipush, e_iload_n, e_iload, e_aload_n, e_aload, e_istore_n, e_istore, e_astore_n, e_astore, e_iinc, e_iadd, e_isub, e_imul, e_iand, e_ishr, e_idiv, e_i2c, e_dup_i, e_dup_r, e_dup2, e_pop, e_goto, e_nop, e_if_eq, e_if_ne, e_if_lt, e_if_ge, e_if_gt, e_if_le, e_icmp_eq, e_icmp_ne, e_icmp_lt, e_icmp_ge, e_icmp_gt, e_icmp_le, e_tsw, e_ret0, e_ret1, e_retn, e_getI, e_getZ, e_getR, e_getV, e_getC, e_putI, e_putZ, e_putF, e_gst0, e_gst1, e_sld, e_iald, e_cald, e_bald, e_iast, e_cast, e_aald, e_aast, e_alen, e_slen, e_blen, e_newa, e_newq, e_new, e_oinit, e_ctor, e_virt, e_stat, e_min, e_copy, e_ldc, List.cons_append, List.nil_append, List.append_nil, List.length_cons, List.length_nil, List.replicate_succ, List.replicate_zero, List.getElem?_cons_zero, List.getElem?_cons_succ, List.set_cons_zero, List.set_cons_succ, List.take_succ_cons, List.take_zero, List.drop_succ_cons, List.drop_zero, List.reverse_cons, List.reverse_nil, Option.toList_some, Option.toList_none, Nat.reduceSub, Nat.reduceAdd, Nat.reduceLeDiff, true_and, and_true, and_self, Option.some.injEq, exists_eq_left', Nat.zero_add, Value.int.injEq, Value.ref.injEq, List.cons.injEq, exists_and_left, and_assoc, exists_eq_left, E_in 81, N_81, B_81_0, bk_81_0, show mTgt 1 147 0 #[59, 67, 75, 83, 91, 99, 107, 115, 123, 131, 139] (nI 1) = 68 from by decide, if_pos, if_neg, not_true_eq_false, not_false_eq_true, or_true, true_or, or_false, false_or, false_and, and_false, Nat.reduceEqDiff, Nat.reduceLT, Nat.reduceMul, Nat.not_lt_zero, Nat.zero_le, Nat.le_refl, ne_eq, reduceIte, reduceCtorEq]
        simp (disch := omega) only [e_iconst, e_bipush, e_sipush, e_iload_n, e_iload, e_aload_n, e_aload, e_istore_n, e_istore, e_astore_n, e_astore, e_iinc, e_iadd, e_isub, e_imul, e_iand, e_ishr, e_idiv, e_i2c, e_dup_i, e_dup_r, e_dup2, e_pop, e_goto, e_nop, e_if_eq, e_if_ne, e_if_lt, e_if_ge, e_if_gt, e_if_le, e_icmp_eq, e_icmp_ne, e_icmp_lt, e_icmp_ge, e_icmp_gt, e_icmp_le, e_tsw, e_ret0, e_ret1, e_retn, e_getI, e_getZ, e_getR, e_getV, e_getC, e_putI, e_putZ, e_putF, e_gst0, e_gst1, e_sld, e_iald, e_cald, e_bald, e_iast, e_cast, e_aald, e_aast, e_alen, e_slen, e_blen, e_newa, e_newq, e_new, e_oinit, e_ctor, e_virt, e_stat, e_min, e_copy, e_ldc, List.cons_append, List.nil_append, List.append_nil, List.length_cons, List.length_nil, List.replicate_succ, List.replicate_zero, List.getElem?_cons_zero, List.getElem?_cons_succ, List.set_cons_zero, List.set_cons_succ, List.take_succ_cons, List.take_zero, List.drop_succ_cons, List.drop_zero, List.reverse_cons, List.reverse_nil, Option.toList_some, Option.toList_none, Nat.reduceSub, Nat.reduceAdd, Nat.reduceLeDiff, true_and, and_true, and_self, Option.some.injEq, exists_eq_left', Nat.zero_add, Value.int.injEq, Value.ref.injEq, List.cons.injEq, exists_and_left, and_assoc, exists_eq_left, B_81_68, bk_81_68, a0, a1, a2, a4, b0, gs0, gh0, hn, t2, e2, e3, e4, e5, e6, e7, e8, C_26, C_27, m_spools gs, m_letters gs, ec, el, if_pos, if_neg, not_true_eq_false, not_false_eq_true, or_true, true_or, or_false, false_or, false_and, and_false, Nat.reduceEqDiff, Nat.reduceLT, Nat.reduceMul, Nat.not_lt_zero, Nat.zero_le, Nat.le_refl, ne_eq, reduceIte, reduceCtorEq]
      · obtain ⟨hr, j5, j2, j7⟩ := hfu J hJ
        simp (disch := omega) only [e_iconst, e_bipush, e_sipush, e_iload_n, e_iload, e_aload_n, e_aload, e_istore_n, e_istore, e_astore_n, e_astore, e_iinc, e_iadd, e_isub, e_imul, e_iand, e_ishr, e_idiv, e_i2c, e_dup_i, e_dup_r, e_dup2, e_pop, e_goto, e_nop, e_if_eq, e_if_ne, e_if_lt, e_if_ge, e_if_gt, e_if_le, e_icmp_eq, e_icmp_ne, e_icmp_lt, e_icmp_ge, e_icmp_gt, e_icmp_le, e_tsw, e_ret0, e_ret1, e_retn, e_getI, e_getZ, e_getR, e_getV, e_getC, e_putI, e_putZ, e_putF, e_gst0, e_gst1, e_sld, e_iald, e_cald, e_bald, e_iast, e_cast, e_aald, e_aast, e_alen, e_slen, e_blen, e_newa, e_newq, e_new, e_oinit, e_ctor, e_virt, e_stat, e_min, e_copy, e_ldc, List.cons_append, List.nil_append, List.append_nil, List.length_cons, List.length_nil, List.replicate_succ, List.replicate_zero, List.getElem?_cons_zero, List.getElem?_cons_succ, List.set_cons_zero, List.set_cons_succ, List.take_succ_cons, List.take_zero, List.drop_succ_cons, List.drop_zero, List.reverse_cons, List.reverse_nil, Option.toList_some, Option.toList_none, Nat.reduceSub, Nat.reduceAdd, Nat.reduceLeDiff, true_and, and_true, and_self, Option.some.injEq, exists_eq_left', Nat.zero_add, Value.int.injEq, Value.ref.injEq, List.cons.injEq, exists_and_left, and_assoc, exists_eq_left, E_in 143, N_143, B_143_0, bk_143_0, show mTgt 1 142 0 #[59, 64, 69, 78, 87, 96, 105, 114, 123, 132, 137] (nI 1) = 65 from by decide, if_pos, if_neg, not_true_eq_false, not_false_eq_true, or_true, true_or, or_false, false_or, false_and, and_false, Nat.reduceEqDiff, Nat.reduceLT, Nat.reduceMul, Nat.not_lt_zero, Nat.zero_le, Nat.le_refl, ne_eq, reduceIte, reduceCtorEq]
        simp (disch := omega) only [e_iconst, e_bipush, e_sipush, e_iload_n, e_iload, e_aload_n, e_aload, e_istore_n, e_istore, e_astore_n, e_astore, e_iinc, e_iadd, e_isub, e_imul, e_iand, e_ishr, e_idiv, e_i2c, e_dup_i, e_dup_r, e_dup2, e_pop, e_goto, e_nop, e_if_eq, e_if_ne, e_if_lt, e_if_ge, e_if_gt, e_if_le, e_icmp_eq, e_icmp_ne, e_icmp_lt, e_icmp_ge, e_icmp_gt, e_icmp_le, e_tsw, e_ret0, e_ret1, e_retn, e_getI, e_getZ, e_getR, e_getV, e_getC, e_putI, e_putZ, e_putF, e_gst0, e_gst1, e_sld, e_iald, e_cald, e_bald, e_iast, e_cast, e_aald, e_aast, e_alen, e_slen, e_blen, e_newa, e_newq, e_new, e_oinit, e_ctor, e_virt, e_stat, e_min, e_copy, e_ldc, List.cons_append, List.nil_append, List.append_nil, List.length_cons, List.length_nil, List.replicate_succ, List.replicate_zero, List.getElem?_cons_zero, List.getElem?_cons_succ, List.set_cons_zero, List.set_cons_succ, List.take_succ_cons, List.take_zero, List.drop_succ_cons, List.drop_zero, List.reverse_cons, List.reverse_nil, Option.toList_some, Option.toList_none, Nat.reduceSub, Nat.reduceAdd, Nat.reduceLeDiff, true_and, and_true, and_self, Option.some.injEq, exists_eq_left', Nat.zero_add, Value.int.injEq, Value.ref.injEq, List.cons.injEq, exists_and_left, and_assoc, exists_eq_left, B_143_65, bk_143_65, m0, m1, m2, C_123, C_142, r_full gm, r_letters gm, j5, j2, j7, o_in, o_cl, if_pos, if_neg, not_true_eq_false, not_false_eq_true, or_true, true_or, or_false, false_or, false_and, and_false, Nat.reduceEqDiff, Nat.reduceLT, Nat.reduceMul, Nat.not_lt_zero, Nat.zero_le, Nat.le_refl, ne_eq, reduceIte, reduceCtorEq]
        exact OPo_same hrel hJ
    · refine ⟨I 195 590, R, I, ?_, fun J hJ => ?_⟩
      · simp (disch := omega) only [e_iconst, e_bipush, e_sipush, e_iload_n, e_iload, e_aload_n, e_aload, e_istore_n, e_istore, e_astore_n, e_astore, e_iinc, e_iadd, e_isub, e_imul, e_iand, e_ishr, e_idiv, e_i2c, e_dup_i, e_dup_r, e_dup2, e_pop, e_goto, e_nop, e_if_eq, e_if_ne, e_if_lt, e_if_ge, e_if_gt, e_if_le, e_icmp_eq, e_icmp_ne, e_icmp_lt, e_icmp_ge, e_icmp_gt, e_icmp_le, e_tsw, e_ret0, e_ret1, e_retn, e_getI, e_getZ, e_getR, e_getV, e_getC, e_putI, e_putZ, e_putF, e_gst0, e_gst1, e_sld, e_iald, e_cald, e_bald, e_iast, e_cast, e_aald, e_aast, e_alen, e_slen, e_blen, e_newa, e_newq, e_new, e_oinit, e_ctor, e_virt, e_stat, e_min, e_copy, e_ldc, List.cons_append, List.nil_append, List.append_nil, List.length_cons, List.length_nil, List.replicate_succ, List.replicate_zero, List.getElem?_cons_zero, List.getElem?_cons_succ, List.set_cons_zero, List.set_cons_succ, List.take_succ_cons, List.take_zero, List.drop_succ_cons, List.drop_zero, List.reverse_cons, List.reverse_nil, Option.toList_some, Option.toList_none, Nat.reduceSub, Nat.reduceAdd, Nat.reduceLeDiff, true_and, and_true, and_self, Option.some.injEq, exists_eq_left', Nat.zero_add, Value.int.injEq, Value.ref.injEq, List.cons.injEq, exists_and_left, and_assoc, exists_eq_left, E_in 81, N_81, B_81_0, bk_81_0, show mTgt 1 147 0 #[59, 67, 75, 83, 91, 99, 107, 115, 123, 131, 139] (nI 2) = 76 from by decide, if_pos, if_neg, not_true_eq_false, not_false_eq_true, or_true, true_or, or_false, false_or, false_and, and_false, Nat.reduceEqDiff, Nat.reduceLT, Nat.reduceMul, Nat.not_lt_zero, Nat.zero_le, Nat.le_refl, ne_eq, reduceIte, reduceCtorEq]
        simp (disch := omega) only [e_iconst, e_bipush, e_sipush, e_iload_n, e_iload, e_aload_n, e_aload, e_istore_n, e_istore, e_astore_n, e_astore, e_iinc, e_iadd, e_isub, e_imul, e_iand, e_ishr, e_idiv, e_i2c, e_dup_i, e_dup_r, e_dup2, e_pop, e_goto, e_nop, e_if_eq, e_if_ne, e_if_lt, e_if_ge, e_if_gt, e_if_le, e_icmp_eq, e_icmp_ne, e_icmp_lt, e_icmp_ge, e_icmp_gt, e_icmp_le, e_tsw, e_ret0, e_ret1, e_retn, e_getI, e_getZ, e_getR, e_getV, e_getC, e_putI, e_putZ, e_putF, e_gst0, e_gst1, e_sld, e_iald, e_cald, e_bald, e_iast, e_cast, e_aald, e_aast, e_alen, e_slen, e_blen, e_newa, e_newq, e_new, e_oinit, e_ctor, e_virt, e_stat, e_min, e_copy, e_ldc, List.cons_append, List.nil_append, List.append_nil, List.length_cons, List.length_nil, List.replicate_succ, List.replicate_zero, List.getElem?_cons_zero, List.getElem?_cons_succ, List.set_cons_zero, List.set_cons_succ, List.take_succ_cons, List.take_zero, List.drop_succ_cons, List.drop_zero, List.reverse_cons, List.reverse_nil, Option.toList_some, Option.toList_none, Nat.reduceSub, Nat.reduceAdd, Nat.reduceLeDiff, true_and, and_true, and_self, Option.some.injEq, exists_eq_left', Nat.zero_add, Value.int.injEq, Value.ref.injEq, List.cons.injEq, exists_and_left, and_assoc, exists_eq_left, B_81_76, bk_81_76, a0, a1, a2, a4, b0, gs0, gh0, hn, t2, e2, e3, e4, e5, e6, e7, e8, C_26, C_27, m_spools gs, m_letters gs, ec, el, if_pos, if_neg, not_true_eq_false, not_false_eq_true, or_true, true_or, or_false, false_or, false_and, and_false, Nat.reduceEqDiff, Nat.reduceLT, Nat.reduceMul, Nat.not_lt_zero, Nat.zero_le, Nat.le_refl, ne_eq, reduceIte, reduceCtorEq]
      · obtain ⟨hr, j5, j2, j7⟩ := hfu J hJ
        simp (disch := omega) only [e_iconst, e_bipush, e_sipush, e_iload_n, e_iload, e_aload_n, e_aload, e_istore_n, e_istore, e_astore_n, e_astore, e_iinc, e_iadd, e_isub, e_imul, e_iand, e_ishr, e_idiv, e_i2c, e_dup_i, e_dup_r, e_dup2, e_pop, e_goto, e_nop, e_if_eq, e_if_ne, e_if_lt, e_if_ge, e_if_gt, e_if_le, e_icmp_eq, e_icmp_ne, e_icmp_lt, e_icmp_ge, e_icmp_gt, e_icmp_le, e_tsw, e_ret0, e_ret1, e_retn, e_getI, e_getZ, e_getR, e_getV, e_getC, e_putI, e_putZ, e_putF, e_gst0, e_gst1, e_sld, e_iald, e_cald, e_bald, e_iast, e_cast, e_aald, e_aast, e_alen, e_slen, e_blen, e_newa, e_newq, e_new, e_oinit, e_ctor, e_virt, e_stat, e_min, e_copy, e_ldc, List.cons_append, List.nil_append, List.append_nil, List.length_cons, List.length_nil, List.replicate_succ, List.replicate_zero, List.getElem?_cons_zero, List.getElem?_cons_succ, List.set_cons_zero, List.set_cons_succ, List.take_succ_cons, List.take_zero, List.drop_succ_cons, List.drop_zero, List.reverse_cons, List.reverse_nil, Option.toList_some, Option.toList_none, Nat.reduceSub, Nat.reduceAdd, Nat.reduceLeDiff, true_and, and_true, and_self, Option.some.injEq, exists_eq_left', Nat.zero_add, Value.int.injEq, Value.ref.injEq, List.cons.injEq, exists_and_left, and_assoc, exists_eq_left, E_in 143, N_143, B_143_0, bk_143_0, show mTgt 1 142 0 #[59, 64, 69, 78, 87, 96, 105, 114, 123, 132, 137] (nI 2) = 70 from by decide, if_pos, if_neg, not_true_eq_false, not_false_eq_true, or_true, true_or, or_false, false_or, false_and, and_false, Nat.reduceEqDiff, Nat.reduceLT, Nat.reduceMul, Nat.not_lt_zero, Nat.zero_le, Nat.le_refl, ne_eq, reduceIte, reduceCtorEq]
        simp (disch := omega) only [e_iconst, e_bipush, e_sipush, e_iload_n, e_iload, e_aload_n, e_aload, e_istore_n, e_istore, e_astore_n, e_astore, e_iinc, e_iadd, e_isub, e_imul, e_iand, e_ishr, e_idiv, e_i2c, e_dup_i, e_dup_r, e_dup2, e_pop, e_goto, e_nop, e_if_eq, e_if_ne, e_if_lt, e_if_ge, e_if_gt, e_if_le, e_icmp_eq, e_icmp_ne, e_icmp_lt, e_icmp_ge, e_icmp_gt, e_icmp_le, e_tsw, e_ret0, e_ret1, e_retn, e_getI, e_getZ, e_getR, e_getV, e_getC, e_putI, e_putZ, e_putF, e_gst0, e_gst1, e_sld, e_iald, e_cald, e_bald, e_iast, e_cast, e_aald, e_aast, e_alen, e_slen, e_blen, e_newa, e_newq, e_new, e_oinit, e_ctor, e_virt, e_stat, e_min, e_copy, e_ldc, List.cons_append, List.nil_append, List.append_nil, List.length_cons, List.length_nil, List.replicate_succ, List.replicate_zero, List.getElem?_cons_zero, List.getElem?_cons_succ, List.set_cons_zero, List.set_cons_succ, List.take_succ_cons, List.take_zero, List.drop_succ_cons, List.drop_zero, List.reverse_cons, List.reverse_nil, Option.toList_some, Option.toList_none, Nat.reduceSub, Nat.reduceAdd, Nat.reduceLeDiff, true_and, and_true, and_self, Option.some.injEq, exists_eq_left', Nat.zero_add, Value.int.injEq, Value.ref.injEq, List.cons.injEq, exists_and_left, and_assoc, exists_eq_left, B_143_70, bk_143_70, m0, m1, m2, C_123, C_142, r_full gm, r_letters gm, j5, j2, j7, o_in, o_cl, if_pos, if_neg, not_true_eq_false, not_false_eq_true, or_true, true_or, or_false, false_or, false_and, and_false, Nat.reduceEqDiff, Nat.reduceLT, Nat.reduceMul, Nat.not_lt_zero, Nat.zero_le, Nat.le_refl, ne_eq, reduceIte, reduceCtorEq]
        exact OPo_same hrel hJ
    · refine ⟨I 195 591, R, I, ?_, fun J hJ => ?_⟩
      · simp (disch := omega) only [e_iconst, e_bipush, e_sipush, e_iload_n, e_iload, e_aload_n, e_aload, e_istore_n, e_istore, e_astore_n, e_astore, e_iinc, e_iadd, e_isub, e_imul, e_iand, e_ishr, e_idiv, e_i2c, e_dup_i, e_dup_r, e_dup2, e_pop, e_goto, e_nop, e_if_eq, e_if_ne, e_if_lt, e_if_ge, e_if_gt, e_if_le, e_icmp_eq, e_icmp_ne, e_icmp_lt, e_icmp_ge, e_icmp_gt, e_icmp_le, e_tsw, e_ret0, e_ret1, e_retn, e_getI, e_getZ, e_getR, e_getV, e_getC, e_putI, e_putZ, e_putF, e_gst0, e_gst1, e_sld, e_iald, e_cald, e_bald, e_iast, e_cast, e_aald, e_aast, e_alen, e_slen, e_blen, e_newa, e_newq, e_new, e_oinit, e_ctor, e_virt, e_stat, e_min, e_copy, e_ldc, List.cons_append, List.nil_append, List.append_nil, List.length_cons, List.length_nil, List.replicate_succ, List.replicate_zero, List.getElem?_cons_zero, List.getElem?_cons_succ, List.set_cons_zero, List.set_cons_succ, List.take_succ_cons, List.take_zero, List.drop_succ_cons, List.drop_zero, List.reverse_cons, List.reverse_nil, Option.toList_some, Option.toList_none, Nat.reduceSub, Nat.reduceAdd, Nat.reduceLeDiff, true_and, and_true, and_self, Option.some.injEq, exists_eq_left', Nat.zero_add, Value.int.injEq, Value.ref.injEq, List.cons.injEq, exists_and_left, and_assoc, exists_eq_left, E_in 81, N_81, B_81_0, bk_81_0, show mTgt 1 147 0 #[59, 67, 75, 83, 91, 99, 107, 115, 123, 131, 139] (nI 3) = 84 from by decide, if_pos, if_neg, not_true_eq_false, not_false_eq_true, or_true, true_or, or_false, false_or, false_and, and_false, Nat.reduceEqDiff, Nat.reduceLT, Nat.reduceMul, Nat.not_lt_zero, Nat.zero_le, Nat.le_refl, ne_eq, reduceIte, reduceCtorEq]
        simp (disch := omega) only [e_iconst, e_bipush, e_sipush, e_iload_n, e_iload, e_aload_n, e_aload, e_istore_n, e_istore, e_astore_n, e_astore, e_iinc, e_iadd, e_isub, e_imul, e_iand, e_ishr, e_idiv, e_i2c, e_dup_i, e_dup_r, e_dup2, e_pop, e_goto, e_nop, e_if_eq, e_if_ne, e_if_lt, e_if_ge, e_if_gt, e_if_le, e_icmp_eq, e_icmp_ne, e_icmp_lt, e_icmp_ge, e_icmp_gt, e_icmp_le, e_tsw, e_ret0, e_ret1, e_retn, e_getI, e_getZ, e_getR, e_getV, e_getC, e_putI, e_putZ, e_putF, e_gst0, e_gst1, e_sld, e_iald, e_cald, e_bald, e_iast, e_cast, e_aald, e_aast, e_alen, e_slen, e_blen, e_newa, e_newq, e_new, e_oinit, e_ctor, e_virt, e_stat, e_min, e_copy, e_ldc, List.cons_append, List.nil_append, List.append_nil, List.length_cons, List.length_nil, List.replicate_succ, List.replicate_zero, List.getElem?_cons_zero, List.getElem?_cons_succ, List.set_cons_zero, List.set_cons_succ, List.take_succ_cons, List.take_zero, List.drop_succ_cons, List.drop_zero, List.reverse_cons, List.reverse_nil, Option.toList_some, Option.toList_none, Nat.reduceSub, Nat.reduceAdd, Nat.reduceLeDiff, true_and, and_true, and_self, Option.some.injEq, exists_eq_left', Nat.zero_add, Value.int.injEq, Value.ref.injEq, List.cons.injEq, exists_and_left, and_assoc, exists_eq_left, B_81_84, bk_81_84, a0, a1, a2, a4, b0, gs0, gh0, hn, t2, e2, e3, e4, e5, e6, e7, e8, C_26, C_27, m_spools gs, m_letters gs, ec, el, if_pos, if_neg, not_true_eq_false, not_false_eq_true, or_true, true_or, or_false, false_or, false_and, and_false, Nat.reduceEqDiff, Nat.reduceLT, Nat.reduceMul, Nat.not_lt_zero, Nat.zero_le, Nat.le_refl, ne_eq, reduceIte, reduceCtorEq]
      · obtain ⟨hr, j5, j2, j7⟩ := hfu J hJ
        simp (disch := omega) only [e_iconst, e_bipush, e_sipush, e_iload_n, e_iload, e_aload_n, e_aload, e_istore_n, e_istore, e_astore_n, e_astore, e_iinc, e_iadd, e_isub, e_imul, e_iand, e_ishr, e_idiv, e_i2c, e_dup_i, e_dup_r, e_dup2, e_pop, e_goto, e_nop, e_if_eq, e_if_ne, e_if_lt, e_if_ge, e_if_gt, e_if_le, e_icmp_eq, e_icmp_ne, e_icmp_lt, e_icmp_ge, e_icmp_gt, e_icmp_le, e_tsw, e_ret0, e_ret1, e_retn, e_getI, e_getZ, e_getR, e_getV, e_getC, e_putI, e_putZ, e_putF, e_gst0, e_gst1, e_sld, e_iald, e_cald, e_bald, e_iast, e_cast, e_aald, e_aast, e_alen, e_slen, e_blen, e_newa, e_newq, e_new, e_oinit, e_ctor, e_virt, e_stat, e_min, e_copy, e_ldc, List.cons_append, List.nil_append, List.append_nil, List.length_cons, List.length_nil, List.replicate_succ, List.replicate_zero, List.getElem?_cons_zero, List.getElem?_cons_succ, List.set_cons_zero, List.set_cons_succ, List.take_succ_cons, List.take_zero, List.drop_succ_cons, List.drop_zero, List.reverse_cons, List.reverse_nil, Option.toList_some, Option.toList_none, Nat.reduceSub, Nat.reduceAdd, Nat.reduceLeDiff, true_and, and_true, and_self, Option.some.injEq, exists_eq_left', Nat.zero_add, Value.int.injEq, Value.ref.injEq, List.cons.injEq, exists_and_left, and_assoc, exists_eq_left, E_in 143, N_143, B_143_0, bk_143_0, show mTgt 1 142 0 #[59, 64, 69, 78, 87, 96, 105, 114, 123, 132, 137] (nI 3) = 79 from by decide, if_pos, if_neg, not_true_eq_false, not_false_eq_true, or_true, true_or, or_false, false_or, false_and, and_false, Nat.reduceEqDiff, Nat.reduceLT, Nat.reduceMul, Nat.not_lt_zero, Nat.zero_le, Nat.le_refl, ne_eq, reduceIte, reduceCtorEq]
        simp (disch := omega) only [e_iconst, e_bipush, e_sipush, e_iload_n, e_iload, e_aload_n, e_aload, e_istore_n, e_istore, e_astore_n, e_astore, e_iinc, e_iadd, e_isub, e_imul, e_iand, e_ishr, e_idiv, e_i2c, e_dup_i, e_dup_r, e_dup2, e_pop, e_goto, e_nop, e_if_eq, e_if_ne, e_if_lt, e_if_ge, e_if_gt, e_if_le, e_icmp_eq, e_icmp_ne, e_icmp_lt, e_icmp_ge, e_icmp_gt, e_icmp_le, e_tsw, e_ret0, e_ret1, e_retn, e_getI, e_getZ, e_getR, e_getV, e_getC, e_putI, e_putZ, e_putF, e_gst0, e_gst1, e_sld, e_iald, e_cald, e_bald, e_iast, e_cast, e_aald, e_aast, e_alen, e_slen, e_blen, e_newa, e_newq, e_new, e_oinit, e_ctor, e_virt, e_stat, e_min, e_copy, e_ldc, List.cons_append, List.nil_append, List.append_nil, List.length_cons, List.length_nil, List.replicate_succ, List.replicate_zero, List.getElem?_cons_zero, List.getElem?_cons_succ, List.set_cons_zero, List.set_cons_succ, List.take_succ_cons, List.take_zero, List.drop_succ_cons, List.drop_zero, List.reverse_cons, List.reverse_nil, Option.toList_some, Option.toList_none, Nat.reduceSub, Nat.reduceAdd, Nat.reduceLeDiff, true_and, and_true, and_self, Option.some.injEq, exists_eq_left', Nat.zero_add, Value.int.injEq, Value.ref.injEq, List.cons.injEq, exists_and_left, and_assoc, exists_eq_left, B_143_79, bk_143_79, m0, m1, m2, C_123, C_142, r_full gm, r_letters gm, j5, j2, j7, o_in, o_cl, if_pos, if_neg, not_true_eq_false, not_false_eq_true, or_true, true_or, or_false, false_or, false_and, and_false, Nat.reduceEqDiff, Nat.reduceLT, Nat.reduceMul, Nat.not_lt_zero, Nat.zero_le, Nat.le_refl, ne_eq, reduceIte, reduceCtorEq]
        exact OPo_same hrel hJ
    · refine ⟨I 195 592, R, I, ?_, fun J hJ => ?_⟩
      · simp (disch := omega) only [e_iconst, e_bipush, e_sipush, e_iload_n, e_iload, e_aload_n, e_aload, e_istore_n, e_istore, e_astore_n, e_astore, e_iinc, e_iadd, e_isub, e_imul, e_iand, e_ishr, e_idiv, e_i2c, e_dup_i, e_dup_r, e_dup2, e_pop, e_goto, e_nop, e_if_eq, e_if_ne, e_if_lt, e_if_ge, e_if_gt, e_if_le, e_icmp_eq, e_icmp_ne, e_icmp_lt, e_icmp_ge, e_icmp_gt, e_icmp_le, e_tsw, e_ret0, e_ret1, e_retn, e_getI, e_getZ, e_getR, e_getV, e_getC, e_putI, e_putZ, e_putF, e_gst0, e_gst1, e_sld, e_iald, e_cald, e_bald, e_iast, e_cast, e_aald, e_aast, e_alen, e_slen, e_blen, e_newa, e_newq, e_new, e_oinit, e_ctor, e_virt, e_stat, e_min, e_copy, e_ldc, List.cons_append, List.nil_append, List.append_nil, List.length_cons, List.length_nil, List.replicate_succ, List.replicate_zero, List.getElem?_cons_zero, List.getElem?_cons_succ, List.set_cons_zero, List.set_cons_succ, List.take_succ_cons, List.take_zero, List.drop_succ_cons, List.drop_zero, List.reverse_cons, List.reverse_nil, Option.toList_some, Option.toList_none, Nat.reduceSub, Nat.reduceAdd, Nat.reduceLeDiff, true_and, and_true, and_self, Option.some.injEq, exists_eq_left', Nat.zero_add, Value.int.injEq, Value.ref.injEq, List.cons.injEq, exists_and_left, and_assoc, exists_eq_left, E_in 81, N_81, B_81_0, bk_81_0, show mTgt 1 147 0 #[59, 67, 75, 83, 91, 99, 107, 115, 123, 131, 139] (nI 4) = 92 from by decide, if_pos, if_neg, not_true_eq_false, not_false_eq_true, or_true, true_or, or_false, false_or, false_and, and_false, Nat.reduceEqDiff, Nat.reduceLT, Nat.reduceMul, Nat.not_lt_zero, Nat.zero_le, Nat.le_refl, ne_eq, reduceIte, reduceCtorEq]
        simp (disch := omega) only [e_iconst, e_bipush, e_sipush, e_iload_n, e_iload, e_aload_n, e_aload, e_istore_n, e_istore, e_astore_n, e_astore, e_iinc, e_iadd, e_isub, e_imul, e_iand, e_ishr, e_idiv, e_i2c, e_dup_i, e_dup_r, e_dup2, e_pop, e_goto, e_nop, e_if_eq, e_if_ne, e_if_lt, e_if_ge, e_if_gt, e_if_le, e_icmp_eq, e_icmp_ne, e_icmp_lt, e_icmp_ge, e_icmp_gt, e_icmp_le, e_tsw, e_ret0, e_ret1, e_retn, e_getI, e_getZ, e_getR, e_getV, e_getC, e_putI, e_putZ, e_putF, e_gst0, e_gst1, e_sld, e_iald, e_cald, e_bald, e_iast, e_cast, e_aald, e_aast, e_alen, e_slen, e_blen, e_newa, e_newq, e_new, e_oinit, e_ctor, e_virt, e_stat, e_min, e_copy, e_ldc, List.cons_append, List.nil_append, List.append_nil, List.length_cons, List.length_nil, List.replicate_succ, List.replicate_zero, List.getElem?_cons_zero, List.getElem?_cons_succ, List.set_cons_zero, List.set_cons_succ, List.take_succ_cons, List.take_zero, List.drop_succ_cons, List.drop_zero, List.reverse_cons, List.reverse_nil, Option.toList_some, Option.toList_none, Nat.reduceSub, Nat.reduceAdd, Nat.reduceLeDiff, true_and, and_true, and_self, Option.some.injEq, exists_eq_left', Nat.zero_add, Value.int.injEq, Value.ref.injEq, List.cons.injEq, exists_and_left, and_assoc, exists_eq_left, B_81_92, bk_81_92, a0, a1, a2, a4, b0, gs0, gh0, hn, t2, e2, e3, e4, e5, e6, e7, e8, C_26, C_27, m_spools gs, m_letters gs, ec, el, if_pos, if_neg, not_true_eq_false, not_false_eq_true, or_true, true_or, or_false, false_or, false_and, and_false, Nat.reduceEqDiff, Nat.reduceLT, Nat.reduceMul, Nat.not_lt_zero, Nat.zero_le, Nat.le_refl, ne_eq, reduceIte, reduceCtorEq]
      · obtain ⟨hr, j5, j2, j7⟩ := hfu J hJ
        simp (disch := omega) only [e_iconst, e_bipush, e_sipush, e_iload_n, e_iload, e_aload_n, e_aload, e_istore_n, e_istore, e_astore_n, e_astore, e_iinc, e_iadd, e_isub, e_imul, e_iand, e_ishr, e_idiv, e_i2c, e_dup_i, e_dup_r, e_dup2, e_pop, e_goto, e_nop, e_if_eq, e_if_ne, e_if_lt, e_if_ge, e_if_gt, e_if_le, e_icmp_eq, e_icmp_ne, e_icmp_lt, e_icmp_ge, e_icmp_gt, e_icmp_le, e_tsw, e_ret0, e_ret1, e_retn, e_getI, e_getZ, e_getR, e_getV, e_getC, e_putI, e_putZ, e_putF, e_gst0, e_gst1, e_sld, e_iald, e_cald, e_bald, e_iast, e_cast, e_aald, e_aast, e_alen, e_slen, e_blen, e_newa, e_newq, e_new, e_oinit, e_ctor, e_virt, e_stat, e_min, e_copy, e_ldc, List.cons_append, List.nil_append, List.append_nil, List.length_cons, List.length_nil, List.replicate_succ, List.replicate_zero, List.getElem?_cons_zero, List.getElem?_cons_succ, List.set_cons_zero, List.set_cons_succ, List.take_succ_cons, List.take_zero, List.drop_succ_cons, List.drop_zero, List.reverse_cons, List.reverse_nil, Option.toList_some, Option.toList_none, Nat.reduceSub, Nat.reduceAdd, Nat.reduceLeDiff, true_and, and_true, and_self, Option.some.injEq, exists_eq_left', Nat.zero_add, Value.int.injEq, Value.ref.injEq, List.cons.injEq, exists_and_left, and_assoc, exists_eq_left, E_in 143, N_143, B_143_0, bk_143_0, show mTgt 1 142 0 #[59, 64, 69, 78, 87, 96, 105, 114, 123, 132, 137] (nI 4) = 88 from by decide, if_pos, if_neg, not_true_eq_false, not_false_eq_true, or_true, true_or, or_false, false_or, false_and, and_false, Nat.reduceEqDiff, Nat.reduceLT, Nat.reduceMul, Nat.not_lt_zero, Nat.zero_le, Nat.le_refl, ne_eq, reduceIte, reduceCtorEq]
        simp (disch := omega) only [e_iconst, e_bipush, e_sipush, e_iload_n, e_iload, e_aload_n, e_aload, e_istore_n, e_istore, e_astore_n, e_astore, e_iinc, e_iadd, e_isub, e_imul, e_iand, e_ishr, e_idiv, e_i2c, e_dup_i, e_dup_r, e_dup2, e_pop, e_goto, e_nop, e_if_eq, e_if_ne, e_if_lt, e_if_ge, e_if_gt, e_if_le, e_icmp_eq, e_icmp_ne, e_icmp_lt, e_icmp_ge, e_icmp_gt, e_icmp_le, e_tsw, e_ret0, e_ret1, e_retn, e_getI, e_getZ, e_getR, e_getV, e_getC, e_putI, e_putZ, e_putF, e_gst0, e_gst1, e_sld, e_iald, e_cald, e_bald, e_iast, e_cast, e_aald, e_aast, e_alen, e_slen, e_blen, e_newa, e_newq, e_new, e_oinit, e_ctor, e_virt, e_stat, e_min, e_copy, e_ldc, List.cons_append, List.nil_append, List.append_nil, List.length_cons, List.length_nil, List.replicate_succ, List.replicate_zero, List.getElem?_cons_zero, List.getElem?_cons_succ, List.set_cons_zero, List.set_cons_succ, List.take_succ_cons, List.take_zero, List.drop_succ_cons, List.drop_zero, List.reverse_cons, List.reverse_nil, Option.toList_some, Option.toList_none, Nat.reduceSub, Nat.reduceAdd, Nat.reduceLeDiff, true_and, and_true, and_self, Option.some.injEq, exists_eq_left', Nat.zero_add, Value.int.injEq, Value.ref.injEq, List.cons.injEq, exists_and_left, and_assoc, exists_eq_left, B_143_88, bk_143_88, m0, m1, m2, C_123, C_142, r_full gm, r_letters gm, j5, j2, j7, o_in, o_cl, if_pos, if_neg, not_true_eq_false, not_false_eq_true, or_true, true_or, or_false, false_or, false_and, and_false, Nat.reduceEqDiff, Nat.reduceLT, Nat.reduceMul, Nat.not_lt_zero, Nat.zero_le, Nat.le_refl, ne_eq, reduceIte, reduceCtorEq]
        exact OPo_same hrel hJ
    · refine ⟨I 195 593, R, I, ?_, fun J hJ => ?_⟩
      · simp (disch := omega) only [e_iconst, e_bipush, e_sipush, e_iload_n, e_iload, e_aload_n, e_aload, e_istore_n, e_istore, e_astore_n, e_astore, e_iinc, e_iadd, e_isub, e_imul, e_iand, e_ishr, e_idiv, e_i2c, e_dup_i, e_dup_r, e_dup2, e_pop, e_goto, e_nop, e_if_eq, e_if_ne, e_if_lt, e_if_ge, e_if_gt, e_if_le, e_icmp_eq, e_icmp_ne, e_icmp_lt, e_icmp_ge, e_icmp_gt, e_icmp_le, e_tsw, e_ret0, e_ret1, e_retn, e_getI, e_getZ, e_getR, e_getV, e_getC, e_putI, e_putZ, e_putF, e_gst0, e_gst1, e_sld, e_iald, e_cald, e_bald, e_iast, e_cast, e_aald, e_aast, e_alen, e_slen, e_blen, e_newa, e_newq, e_new, e_oinit, e_ctor, e_virt, e_stat, e_min, e_copy, e_ldc, List.cons_append, List.nil_append, List.append_nil, List.length_cons, List.length_nil, List.replicate_succ, List.replicate_zero, List.getElem?_cons_zero, List.getElem?_cons_succ, List.set_cons_zero, List.set_cons_succ, List.take_succ_cons, List.take_zero, List.drop_succ_cons, List.drop_zero, List.reverse_cons, List.reverse_nil, Option.toList_some, Option.toList_none, Nat.reduceSub, Nat.reduceAdd, Nat.reduceLeDiff, true_and, and_true, and_self, Option.some.injEq, exists_eq_left', Nat.zero_add, Value.int.injEq, Value.ref.injEq, List.cons.injEq, exists_and_left, and_assoc, exists_eq_left, E_in 81, N_81, B_81_0, bk_81_0, show mTgt 1 147 0 #[59, 67, 75, 83, 91, 99, 107, 115, 123, 131, 139] (nI 5) = 100 from by decide, if_pos, if_neg, not_true_eq_false, not_false_eq_true, or_true, true_or, or_false, false_or, false_and, and_false, Nat.reduceEqDiff, Nat.reduceLT, Nat.reduceMul, Nat.not_lt_zero, Nat.zero_le, Nat.le_refl, ne_eq, reduceIte, reduceCtorEq]
        simp (disch := omega) only [e_iconst, e_bipush, e_sipush, e_iload_n, e_iload, e_aload_n, e_aload, e_istore_n, e_istore, e_astore_n, e_astore, e_iinc, e_iadd, e_isub, e_imul, e_iand, e_ishr, e_idiv, e_i2c, e_dup_i, e_dup_r, e_dup2, e_pop, e_goto, e_nop, e_if_eq, e_if_ne, e_if_lt, e_if_ge, e_if_gt, e_if_le, e_icmp_eq, e_icmp_ne, e_icmp_lt, e_icmp_ge, e_icmp_gt, e_icmp_le, e_tsw, e_ret0, e_ret1, e_retn, e_getI, e_getZ, e_getR, e_getV, e_getC, e_putI, e_putZ, e_putF, e_gst0, e_gst1, e_sld, e_iald, e_cald, e_bald, e_iast, e_cast, e_aald, e_aast, e_alen, e_slen, e_blen, e_newa, e_newq, e_new, e_oinit, e_ctor, e_virt, e_stat, e_min, e_copy, e_ldc, List.cons_append, List.nil_append, List.append_nil, List.length_cons, List.length_nil, List.replicate_succ, List.replicate_zero, List.getElem?_cons_zero, List.getElem?_cons_succ, List.set_cons_zero, List.set_cons_succ, List.take_succ_cons, List.take_zero, List.drop_succ_cons, List.drop_zero, List.reverse_cons, List.reverse_nil, Option.toList_some, Option.toList_none, Nat.reduceSub, Nat.reduceAdd, Nat.reduceLeDiff, true_and, and_true, and_self, Option.some.injEq, exists_eq_left', Nat.zero_add, Value.int.injEq, Value.ref.injEq, List.cons.injEq, exists_and_left, and_assoc, exists_eq_left, B_81_100, bk_81_100, a0, a1, a2, a4, b0, gs0, gh0, hn, t2, e2, e3, e4, e5, e6, e7, e8, C_26, C_27, m_spools gs, m_letters gs, ec, el, if_pos, if_neg, not_true_eq_false, not_false_eq_true, or_true, true_or, or_false, false_or, false_and, and_false, Nat.reduceEqDiff, Nat.reduceLT, Nat.reduceMul, Nat.not_lt_zero, Nat.zero_le, Nat.le_refl, ne_eq, reduceIte, reduceCtorEq]
      · obtain ⟨hr, j5, j2, j7⟩ := hfu J hJ
        simp (disch := omega) only [e_iconst, e_bipush, e_sipush, e_iload_n, e_iload, e_aload_n, e_aload, e_istore_n, e_istore, e_astore_n, e_astore, e_iinc, e_iadd, e_isub, e_imul, e_iand, e_ishr, e_idiv, e_i2c, e_dup_i, e_dup_r, e_dup2, e_pop, e_goto, e_nop, e_if_eq, e_if_ne, e_if_lt, e_if_ge, e_if_gt, e_if_le, e_icmp_eq, e_icmp_ne, e_icmp_lt, e_icmp_ge, e_icmp_gt, e_icmp_le, e_tsw, e_ret0, e_ret1, e_retn, e_getI, e_getZ, e_getR, e_getV, e_getC, e_putI, e_putZ, e_putF, e_gst0, e_gst1, e_sld, e_iald, e_cald, e_bald, e_iast, e_cast, e_aald, e_aast, e_alen, e_slen, e_blen, e_newa, e_newq, e_new, e_oinit, e_ctor, e_virt, e_stat, e_min, e_copy, e_ldc, List.cons_append, List.nil_append, List.append_nil, List.length_cons, List.length_nil, List.replicate_succ, List.replicate_zero, List.getElem?_cons_zero, List.getElem?_cons_succ, List.set_cons_zero, List.set_cons_succ, List.take_succ_cons, List.take_zero, List.drop_succ_cons, List.drop_zero, List.reverse_cons, List.reverse_nil, Option.toList_some, Option.toList_none, Nat.reduceSub, Nat.reduceAdd, Nat.reduceLeDiff, true_and, and_true, and_self, Option.some.injEq, exists_eq_left', Nat.zero_add, Value.int.injEq, Value.ref.injEq, List.cons.injEq, exists_and_left, and_assoc, exists_eq_left, E_in 143, N_143, B_143_0, bk_143_0, show mTgt 1 142 0 #[59, 64, 69, 78, 87, 96, 105, 114, 123, 132, 137] (nI 5) = 97 from by decide, if_pos, if_neg, not_true_eq_false, not_false_eq_true, or_true, true_or, or_false, false_or, false_and, and_false, Nat.reduceEqDiff, Nat.reduceLT, Nat.reduceMul, Nat.not_lt_zero, Nat.zero_le, Nat.le_refl, ne_eq, reduceIte, reduceCtorEq]
        simp (disch := omega) only [e_iconst, e_bipush, e_sipush, e_iload_n, e_iload, e_aload_n, e_aload, e_istore_n, e_istore, e_astore_n, e_astore, e_iinc, e_iadd, e_isub, e_imul, e_iand, e_ishr, e_idiv, e_i2c, e_dup_i, e_dup_r, e_dup2, e_pop, e_goto, e_nop, e_if_eq, e_if_ne, e_if_lt, e_if_ge, e_if_gt, e_if_le, e_icmp_eq, e_icmp_ne, e_icmp_lt, e_icmp_ge, e_icmp_gt, e_icmp_le, e_tsw, e_ret0, e_ret1, e_retn, e_getI, e_getZ, e_getR, e_getV, e_getC, e_putI, e_putZ, e_putF, e_gst0, e_gst1, e_sld, e_iald, e_cald, e_bald, e_iast, e_cast, e_aald, e_aast, e_alen, e_slen, e_blen, e_newa, e_newq, e_new, e_oinit, e_ctor, e_virt, e_stat, e_min, e_copy, e_ldc, List.cons_append, List.nil_append, List.append_nil, List.length_cons, List.length_nil, List.replicate_succ, List.replicate_zero, List.getElem?_cons_zero, List.getElem?_cons_succ, List.set_cons_zero, List.set_cons_succ, List.take_succ_cons, List.take_zero, List.drop_succ_cons, List.drop_zero, List.reverse_cons, List.reverse_nil, Option.toList_some, Option.toList_none, Nat.reduceSub, Nat.reduceAdd, Nat.reduceLeDiff, true_and, and_true, and_self, Option.some.injEq, exists_eq_left', Nat.zero_add, Value.int.injEq, Value.ref.injEq, List.cons.injEq, exists_and_left, and_assoc, exists_eq_left, B_143_97, bk_143_97, m0, m1, m2, C_123, C_142, r_full gm, r_letters gm, j5, j2, j7, o_in, o_cl, if_pos, if_neg, not_true_eq_false, not_false_eq_true, or_true, true_or, or_false, false_or, false_and, and_false, Nat.reduceEqDiff, Nat.reduceLT, Nat.reduceMul, Nat.not_lt_zero, Nat.zero_le, Nat.le_refl, ne_eq, reduceIte, reduceCtorEq]
        exact OPo_same hrel hJ
    · refine ⟨I 195 594, R, I, ?_, fun J hJ => ?_⟩
      · simp (disch := omega) only [e_iconst, e_bipush, e_sipush, e_iload_n, e_iload, e_aload_n, e_aload, e_istore_n, e_istore, e_astore_n, e_astore, e_iinc, e_iadd, e_isub, e_imul, e_iand, e_ishr, e_idiv, e_i2c, e_dup_i, e_dup_r, e_dup2, e_pop, e_goto, e_nop, e_if_eq, e_if_ne, e_if_lt, e_if_ge, e_if_gt, e_if_le, e_icmp_eq, e_icmp_ne, e_icmp_lt, e_icmp_ge, e_icmp_gt, e_icmp_le, e_tsw, e_ret0, e_ret1, e_retn, e_getI, e_getZ, e_getR, e_getV, e_getC, e_putI, e_putZ, e_putF, e_gst0, e_gst1, e_sld, e_iald, e_cald, e_bald, e_iast, e_cast, e_aald, e_aast, e_alen, e_slen, e_blen, e_newa, e_newq, e_new, e_oinit, e_ctor, e_virt, e_stat, e_min, e_copy, e_ldc, List.cons_append, List.nil_append, List.append_nil, List.length_cons, List.length_nil, List.replicate_succ, List.replicate_zero, List.getElem?_cons_zero, List.getElem?_cons_succ, List.set_cons_zero, List.set_cons_succ, List.take_succ_cons, List.take_zero, List.drop_succ_cons, List.drop_zero, List.reverse_cons, List.reverse_nil, Option.toList_some, Option.toList_none, Nat.reduceSub, Nat.reduceAdd, Nat.reduceLeDiff, true_and, and_true, and_self, Option.some.injEq, exists_eq_left', Nat.zero_add, Value.int.injEq, Value.ref.injEq, List.cons.injEq, exists_and_left, and_assoc, exists_eq_left, E_in 81, N_81, B_81_0, bk_81_0, show mTgt 1 147 0 #[59, 67, 75, 83, 91, 99, 107, 115, 123, 131, 139] (nI 6) = 108 from by decide, if_pos, if_neg, not_true_eq_false, not_false_eq_true, or_true, true_or, or_false, false_or, false_and, and_false, Nat.reduceEqDiff, Nat.reduceLT, Nat.reduceMul, Nat.not_lt_zero, Nat.zero_le, Nat.le_refl, ne_eq, reduceIte, reduceCtorEq]
        simp (disch := omega) only [e_iconst, e_bipush, e_sipush, e_iload_n, e_iload, e_aload_n, e_aload, e_istore_n, e_istore, e_astore_n, e_astore, e_iinc, e_iadd, e_isub, e_imul, e_iand, e_ishr, e_idiv, e_i2c, e_dup_i, e_dup_r, e_dup2, e_pop, e_goto, e_nop, e_if_eq, e_if_ne, e_if_lt, e_if_ge, e_if_gt, e_if_le, e_icmp_eq, e_icmp_ne, e_icmp_lt, e_icmp_ge, e_icmp_gt, e_icmp_le, e_tsw, e_ret0, e_ret1, e_retn, e_getI, e_getZ, e_getR, e_getV, e_getC, e_putI, e_putZ, e_putF, e_gst0, e_gst1, e_sld, e_iald, e_cald, e_bald, e_iast, e_cast, e_aald, e_aast, e_alen, e_slen, e_blen, e_newa, e_newq, e_new, e_oinit, e_ctor, e_virt, e_stat, e_min, e_copy, e_ldc, List.cons_append, List.nil_append, List.append_nil, List.length_cons, List.length_nil, List.replicate_succ, List.replicate_zero, List.getElem?_cons_zero, List.getElem?_cons_succ, List.set_cons_zero, List.set_cons_succ, List.take_succ_cons, List.take_zero, List.drop_succ_cons, List.drop_zero, List.reverse_cons, List.reverse_nil, Option.toList_some, Option.toList_none, Nat.reduceSub, Nat.reduceAdd, Nat.reduceLeDiff, true_and, and_true, and_self, Option.some.injEq, exists_eq_left', Nat.zero_add, Value.int.injEq, Value.ref.injEq, List.cons.injEq, exists_and_left, and_assoc, exists_eq_left, B_81_108, bk_81_108, a0, a1, a2, a4, b0, gs0, gh0, hn, t2, e2, e3, e4, e5, e6, e7, e8, C_26, C_27, m_spools gs, m_letters gs, ec, el, if_pos, if_neg, not_true_eq_false, not_false_eq_true, or_true, true_or, or_false, false_or, false_and, and_false, Nat.reduceEqDiff, Nat.reduceLT, Nat.reduceMul, Nat.not_lt_zero, Nat.zero_le, Nat.le_refl, ne_eq, reduceIte, reduceCtorEq]
      · obtain ⟨hr, j5, j2, j7⟩ := hfu J hJ
        simp (disch := omega) only [e_iconst, e_bipush, e_sipush, e_iload_n, e_iload, e_aload_n, e_aload, e_istore_n, e_istore, e_astore_n, e_astore, e_iinc, e_iadd, e_isub, e_imul, e_iand, e_ishr, e_idiv, e_i2c, e_dup_i, e_dup_r, e_dup2, e_pop, e_goto, e_nop, e_if_eq, e_if_ne, e_if_lt, e_if_ge, e_if_gt, e_if_le, e_icmp_eq, e_icmp_ne, e_icmp_lt, e_icmp_ge, e_icmp_gt, e_icmp_le, e_tsw, e_ret0, e_ret1, e_retn, e_getI, e_getZ, e_getR, e_getV, e_getC, e_putI, e_putZ, e_putF, e_gst0, e_gst1, e_sld, e_iald, e_cald, e_bald, e_iast, e_cast, e_aald, e_aast, e_alen, e_slen, e_blen, e_newa, e_newq, e_new, e_oinit, e_ctor, e_virt, e_stat, e_min, e_copy, e_ldc, List.cons_append, List.nil_append, List.append_nil, List.length_cons, List.length_nil, List.replicate_succ, List.replicate_zero, List.getElem?_cons_zero, List.getElem?_cons_succ, List.set_cons_zero, List.set_cons_succ, List.take_succ_cons, List.take_zero, List.drop_succ_cons, List.drop_zero, List.reverse_cons, List.reverse_nil, Option.toList_some, Option.toList_none, Nat.reduceSub, Nat.reduceAdd, Nat.reduceLeDiff, true_and, and_true, and_self, Option.some.injEq, exists_eq_left', Nat.zero_add, Value.int.injEq, Value.ref.injEq, List.cons.injEq, exists_and_left, and_assoc, exists_eq_left, E_in 143, N_143, B_143_0, bk_143_0, show mTgt 1 142 0 #[59, 64, 69, 78, 87, 96, 105, 114, 123, 132, 137] (nI 6) = 106 from by decide, if_pos, if_neg, not_true_eq_false, not_false_eq_true, or_true, true_or, or_false, false_or, false_and, and_false, Nat.reduceEqDiff, Nat.reduceLT, Nat.reduceMul, Nat.not_lt_zero, Nat.zero_le, Nat.le_refl, ne_eq, reduceIte, reduceCtorEq]
        simp (disch := omega) only [e_iconst, e_bipush, e_sipush, e_iload_n, e_iload, e_aload_n, e_aload, e_istore_n, e_istore, e_astore_n, e_astore, e_iinc, e_iadd, e_isub, e_imul, e_iand, e_ishr, e_idiv, e_i2c, e_dup_i, e_dup_r, e_dup2, e_pop, e_goto, e_nop, e_if_eq, e_if_ne, e_if_lt, e_if_ge, e_if_gt, e_if_le, e_icmp_eq, e_icmp_ne, e_icmp_lt, e_icmp_ge, e_icmp_gt, e_icmp_le, e_tsw, e_ret0, e_ret1, e_retn, e_getI, e_getZ, e_getR, e_getV, e_getC, e_putI, e_putZ, e_putF, e_gst0, e_gst1, e_sld, e_iald, e_cald, e_bald, e_iast, e_cast, e_aald, e_aast, e_alen, e_slen, e_blen, e_newa, e_newq, e_new, e_oinit, e_ctor, e_virt, e_stat, e_min, e_copy, e_ldc, List.cons_append, List.nil_append, List.append_nil, List.length_cons, List.length_nil, List.replicate_succ, List.replicate_zero, List.getElem?_cons_zero, List.getElem?_cons_succ, List.set_cons_zero, List.set_cons_succ, List.take_succ_cons, List.take_zero, List.drop_succ_cons, List.drop_zero, List.reverse_cons, List.reverse_nil, Option.toList_some, Option.toList_none, Nat.reduceSub, Nat.reduceAdd, Nat.reduceLeDiff, true_and, and_true, and_self, Option.some.injEq, exists_eq_left', Nat.zero_add, Value.int.injEq, Value.ref.injEq, List.cons.injEq, exists_and_left, and_assoc, exists_eq_left, B_143_106, bk_143_106, m0, m1, m2, C_123, C_142, r_full gm, r_letters gm, j5, j2, j7, o_in, o_cl, if_pos, if_neg, not_true_eq_false, not_false_eq_true, or_true, true_or, or_false, false_or, false_and, and_false, Nat.reduceEqDiff, Nat.reduceLT, Nat.reduceMul, Nat.not_lt_zero, Nat.zero_le, Nat.le_refl, ne_eq, reduceIte, reduceCtorEq]
        exact OPo_same hrel hJ
    · refine ⟨I 195 588, R, I, ?_, fun J hJ => ?_⟩
      · simp (disch := omega) only [e_iconst, e_bipush, e_sipush, e_iload_n, e_iload, e_aload_n, e_aload, e_istore_n, e_istore, e_astore_n, e_astore, e_iinc, e_iadd, e_isub, e_imul, e_iand, e_ishr, e_idiv, e_i2c, e_dup_i, e_dup_r, e_dup2, e_pop, e_goto, e_nop, e_if_eq, e_if_ne, e_if_lt, e_if_ge, e_if_gt, e_if_le, e_icmp_eq, e_icmp_ne, e_icmp_lt, e_icmp_ge, e_icmp_gt, e_icmp_le, e_tsw, e_ret0, e_ret1, e_retn, e_getI, e_getZ, e_getR, e_getV, e_getC, e_putI, e_putZ, e_putF, e_gst0, e_gst1, e_sld, e_iald, e_cald, e_bald, e_iast, e_cast, e_aald, e_aast, e_alen, e_slen, e_blen, e_newa, e_newq, e_new, e_oinit, e_ctor, e_virt, e_stat, e_min, e_copy, e_ldc, List.cons_append, List.nil_append, List.append_nil, List.length_cons, List.length_nil, List.replicate_succ, List.replicate_zero, List.getElem?_cons_zero, List.getElem?_cons_succ, List.set_cons_zero, List.set_cons_succ, List.take_succ_cons, List.take_zero, List.drop_succ_cons, List.drop_zero, List.reverse_cons, List.reverse_nil, Option.toList_some, Option.toList_none, Nat.reduceSub, Nat.reduceAdd, Nat.reduceLeDiff, true_and, and_true, and_self, Option.some.injEq, exists_eq_left', Nat.zero_add, Value.int.injEq, Value.ref.injEq, List.cons.injEq, exists_and_left, and_assoc, exists_eq_left, E_in 81, N_81, B_81_0, bk_81_0, show mTgt 1 147 0 #[59, 67, 75, 83, 91, 99, 107, 115, 123, 131, 139] (nI 7) = 116 from by decide, if_pos, if_neg, not_true_eq_false, not_false_eq_true, or_true, true_or, or_false, false_or, false_and, and_false, Nat.reduceEqDiff, Nat.reduceLT, Nat.reduceMul, Nat.not_lt_zero, Nat.zero_le, Nat.le_refl, ne_eq, reduceIte, reduceCtorEq]
        simp (disch := omega) only [e_iconst, e_bipush, e_sipush, e_iload_n, e_iload, e_aload_n, e_aload, e_istore_n, e_istore, e_astore_n, e_astore, e_iinc, e_iadd, e_isub, e_imul, e_iand, e_ishr, e_idiv, e_i2c, e_dup_i, e_dup_r, e_dup2, e_pop, e_goto, e_nop, e_if_eq, e_if_ne, e_if_lt, e_if_ge, e_if_gt, e_if_le, e_icmp_eq, e_icmp_ne, e_icmp_lt, e_icmp_ge, e_icmp_gt, e_icmp_le, e_tsw, e_ret0, e_ret1, e_retn, e_getI, e_getZ, e_getR, e_getV, e_getC, e_putI, e_putZ, e_putF, e_gst0, e_gst1, e_sld, e_iald, e_cald, e_bald, e_iast, e_cast, e_aald, e_aast, e_alen, e_slen, e_blen, e_newa, e_newq, e_new, e_oinit, e_ctor, e_virt, e_stat, e_min, e_copy, e_ldc, List.cons_append, List.nil_append, List.append_nil, List.length_cons, List.length_nil, List.replicate_succ, List.replicate_zero, List.getElem?_cons_zero, List.getElem?_cons_succ, List.set_cons_zero, List.set_cons_succ, List.take_succ_cons, List.take_zero, List.drop_succ_cons, List.drop_zero, List.reverse_cons, List.reverse_nil, Option.toList_some, Option.toList_none, Nat.reduceSub, Nat.reduceAdd, Nat.reduceLeDiff, true_and, and_true, and_self, Option.some.injEq, exists_eq_left', Nat.zero_add, Value.int.injEq, Value.ref.injEq, List.cons.injEq, exists_and_left, and_assoc, exists_eq_left, B_81_116, bk_81_116, a0, a1, a2, a4, b0, gs0, gh0, hn, t2, e2, e3, e4, e5, e6, e7, e8, C_26, C_27, m_spools gs, m_letters gs, ec, el, if_pos, if_neg, not_true_eq_false, not_false_eq_true, or_true, true_or, or_false, false_or, false_and, and_false, Nat.reduceEqDiff, Nat.reduceLT, Nat.reduceMul, Nat.not_lt_zero, Nat.zero_le, Nat.le_refl, ne_eq, reduceIte, reduceCtorEq]
      · obtain ⟨hr, j5, j2, j7⟩ := hfu J hJ
        simp (disch := omega) only [e_iconst, e_bipush, e_sipush, e_iload_n, e_iload, e_aload_n, e_aload, e_istore_n, e_istore, e_astore_n, e_astore, e_iinc, e_iadd, e_isub, e_imul, e_iand, e_ishr, e_idiv, e_i2c, e_dup_i, e_dup_r, e_dup2, e_pop, e_goto, e_nop, e_if_eq, e_if_ne, e_if_lt, e_if_ge, e_if_gt, e_if_le, e_icmp_eq, e_icmp_ne, e_icmp_lt, e_icmp_ge, e_icmp_gt, e_icmp_le, e_tsw, e_ret0, e_ret1, e_retn, e_getI, e_getZ, e_getR, e_getV, e_getC, e_putI, e_putZ, e_putF, e_gst0, e_gst1, e_sld, e_iald, e_cald, e_bald, e_iast, e_cast, e_aald, e_aast, e_alen, e_slen, e_blen, e_newa, e_newq, e_new, e_oinit, e_ctor, e_virt, e_stat, e_min, e_copy, e_ldc, List.cons_append, List.nil_append, List.append_nil, List.length_cons, List.length_nil, List.replicate_succ, List.replicate_zero, List.getElem?_cons_zero, List.getElem?_cons_succ, List.set_cons_zero, List.set_cons_succ, List.take_succ_cons, List.take_zero, List.drop_succ_cons, List.drop_zero, List.reverse_cons, List.reverse_nil, Option.toList_some, Option.toList_none, Nat.reduceSub, Nat.reduceAdd, Nat.reduceLeDiff, true_and, and_true, and_self, Option.some.injEq, exists_eq_left', Nat.zero_add, Value.int.injEq, Value.ref.injEq, List.cons.injEq, exists_and_left, and_assoc, exists_eq_left, E_in 143, N_143, B_143_0, bk_143_0, show mTgt 1 142 0 #[59, 64, 69, 78, 87, 96, 105, 114, 123, 132, 137] (nI 7) = 115 from by decide, if_pos, if_neg, not_true_eq_false, not_false_eq_true, or_true, true_or, or_false, false_or, false_and, and_false, Nat.reduceEqDiff, Nat.reduceLT, Nat.reduceMul, Nat.not_lt_zero, Nat.zero_le, Nat.le_refl, ne_eq, reduceIte, reduceCtorEq]
        simp (disch := omega) only [e_iconst, e_bipush, e_sipush, e_iload_n, e_iload, e_aload_n, e_aload, e_istore_n, e_istore, e_astore_n, e_astore, e_iinc, e_iadd, e_isub, e_imul, e_iand, e_ishr, e_idiv, e_i2c, e_dup_i, e_dup_r, e_dup2, e_pop, e_goto, e_nop, e_if_eq, e_if_ne, e_if_lt, e_if_ge, e_if_gt, e_if_le, e_icmp_eq, e_icmp_ne, e_icmp_lt, e_icmp_ge, e_icmp_gt, e_icmp_le, e_tsw, e_ret0, e_ret1, e_retn, e_getI, e_getZ, e_getR, e_getV, e_getC, e_putI, e_putZ, e_putF, e_gst0, e_gst1, e_sld, e_iald, e_cald, e_bald, e_iast, e_cast, e_aald, e_aast, e_alen, e_slen, e_blen, e_newa, e_newq, e_new, e_oinit, e_ctor, e_virt, e_stat, e_min, e_copy, e_ldc, List.cons_append, List.nil_append, List.append_nil, List.length_cons, List.length_nil, List.replicate_succ, List.replicate_zero, List.getElem?_cons_zero, List.getElem?_cons_succ, List.set_cons_zero, List.set_cons_succ, List.take_succ_cons, List.take_zero, List.drop_succ_cons, List.drop_zero, List.reverse_cons, List.reverse_nil, Option.toList_some, Option.toList_none, Nat.reduceSub, Nat.reduceAdd, Nat.reduceLeDiff, true_and, and_true, and_self, Option.some.injEq, exists_eq_left', Nat.zero_add, Value.int.injEq, Value.ref.injEq, List.cons.injEq, exists_and_left, and_assoc, exists_eq_left, B_143_115, bk_143_115, m0, m1, m2, C_123, C_142, r_full gm, r_letters gm, j5, j2, j7, o_in, o_cl, if_pos, if_neg, not_true_eq_false, not_false_eq_true, or_true, true_or, or_false, false_or, false_and, and_false, Nat.reduceEqDiff, Nat.reduceLT, Nat.reduceMul, Nat.not_lt_zero, Nat.zero_le, Nat.le_refl, ne_eq, reduceIte, reduceCtorEq]
        exact OPo_same hrel hJ
    · refine ⟨I 195 589, R, I, ?_, fun J hJ => ?_⟩
      · simp (disch := omega) only [e_iconst, e_bipush, e_sipush, e_iload_n, e_iload, e_aload_n, e_aload, e_istore_n, e_istore, e_astore_n, e_astore, e_iinc, e_iadd, e_isub, e_imul, e_iand, e_ishr, e_idiv, e_i2c, e_dup_i, e_dup_r, e_dup2, e_pop, e_goto, e_nop, e_if_eq, e_if_ne, e_if_lt, e_if_ge, e_if_gt, e_if_le, e_icmp_eq, e_icmp_ne, e_icmp_lt, e_icmp_ge, e_icmp_gt, e_icmp_le, e_tsw, e_ret0, e_ret1, e_retn, e_getI, e_getZ, e_getR, e_getV, e_getC, e_putI, e_putZ, e_putF, e_gst0, e_gst1, e_sld, e_iald, e_cald, e_bald, e_iast, e_cast, e_aald, e_aast, e_alen, e_slen, e_blen, e_newa, e_newq, e_new, e_oinit, e_ctor, e_virt, e_stat, e_min, e_copy, e_ldc, List.cons_append, List.nil_append, List.append_nil, List.length_cons, List.length_nil, List.replicate_succ, List.replicate_zero, List.getElem?_cons_zero, List.getElem?_cons_succ, List.set_cons_zero, List.set_cons_succ, List.take_succ_cons, List.take_zero, List.drop_succ_cons, List.drop_zero, List.reverse_cons, List.reverse_nil, Option.toList_some, Option.toList_none, Nat.reduceSub, Nat.reduceAdd, Nat.reduceLeDiff, true_and, and_true, and_self, Option.some.injEq, exists_eq_left', Nat.zero_add, Value.int.injEq, Value.ref.injEq, List.cons.injEq, exists_and_left, and_assoc, exists_eq_left, E_in 81, N_81, B_81_0, bk_81_0, show mTgt 1 147 0 #[59, 67, 75, 83, 91, 99, 107, 115, 123, 131, 139] (nI 8) = 124 from by decide, if_pos, if_neg, not_true_eq_false, not_false_eq_true, or_true, true_or, or_false, false_or, false_and, and_false, Nat.reduceEqDiff, Nat.reduceLT, Nat.reduceMul, Nat.not_lt_zero, Nat.zero_le, Nat.le_refl, ne_eq, reduceIte, reduceCtorEq]
        simp (disch := omega) only [e_iconst, e_bipush, e_sipush, e_iload_n, e_iload, e_aload_n, e_aload, e_istore_n, e_istore, e_astore_n, e_astore, e_iinc, e_iadd, e_isub, e_imul, e_iand, e_ishr, e_idiv, e_i2c, e_dup_i, e_dup_r, e_dup2, e_pop, e_goto, e_nop, e_if_eq, e_if_ne, e_if_lt, e_if_ge, e_if_gt, e_if_le, e_icmp_eq, e_icmp_ne, e_icmp_lt, e_icmp_ge, e_icmp_gt, e_icmp_le, e_tsw, e_ret0, e_ret1, e_retn, e_getI, e_getZ, e_getR, e_getV, e_getC, e_putI, e_putZ, e_putF, e_gst0, e_gst1, e_sld, e_iald, e_cald, e_bald, e_iast, e_cast, e_aald, e_aast, e_alen, e_slen, e_blen, e_newa, e_newq, e_new, e_oinit, e_ctor, e_virt, e_stat, e_min, e_copy, e_ldc, List.cons_append, List.nil_append, List.append_nil, List.length_cons, List.length_nil, List.replicate_succ, List.replicate_zero, List.getElem?_cons_zero, List.getElem?_cons_succ, List.set_cons_zero, List.set_cons_succ, List.take_succ_cons, List.take_zero, List.drop_succ_cons, List.drop_zero, List.reverse_cons, List.reverse_nil, Option.toList_some, Option.toList_none, Nat.reduceSub, Nat.reduceAdd, Nat.reduceLeDiff, true_and, and_true, and_self, Option.some.injEq, exists_eq_left', Nat.zero_add, Value.int.injEq, Value.ref.injEq, List.cons.injEq, exists_and_left, and_assoc, exists_eq_left, B_81_124, bk_81_124, a0, a1, a2, a4, b0, gs0, gh0, hn, t2, e2, e3, e4, e5, e6, e7, e8, C_26, C_27, m_spools gs, m_letters gs, ec, el, if_pos, if_neg, not_true_eq_false, not_false_eq_true, or_true, true_or, or_false, false_or, false_and, and_false, Nat.reduceEqDiff, Nat.reduceLT, Nat.reduceMul, Nat.not_lt_zero, Nat.zero_le, Nat.le_refl, ne_eq, reduceIte, reduceCtorEq]
      · obtain ⟨hr, j5, j2, j7⟩ := hfu J hJ
        simp (disch := omega) only [e_iconst, e_bipush, e_sipush, e_iload_n, e_iload, e_aload_n, e_aload, e_istore_n, e_istore, e_astore_n, e_astore, e_iinc, e_iadd, e_isub, e_imul, e_iand, e_ishr, e_idiv, e_i2c, e_dup_i, e_dup_r, e_dup2, e_pop, e_goto, e_nop, e_if_eq, e_if_ne, e_if_lt, e_if_ge, e_if_gt, e_if_le, e_icmp_eq, e_icmp_ne, e_icmp_lt, e_icmp_ge, e_icmp_gt, e_icmp_le, e_tsw, e_ret0, e_ret1, e_retn, e_getI, e_getZ, e_getR, e_getV, e_getC, e_putI, e_putZ, e_putF, e_gst0, e_gst1, e_sld, e_iald, e_cald, e_bald, e_iast, e_cast, e_aald, e_aast, e_alen, e_slen, e_blen, e_newa, e_newq, e_new, e_oinit, e_ctor, e_virt, e_stat, e_min, e_copy, e_ldc, List.cons_append, List.nil_append, List.append_nil, List.length_cons, List.length_nil, List.replicate_succ, List.replicate_zero, List.getElem?_cons_zero, List.getElem?_cons_succ, List.set_cons_zero, List.set_cons_succ, List.take_succ_cons, List.take_zero, List.drop_succ_cons, List.drop_zero, List.reverse_cons, List.reverse_nil, Option.toList_some, Option.toList_none, Nat.reduceSub, Nat.reduceAdd, Nat.reduceLeDiff, true_and, and_true, and_self, Option.some.injEq, exists_eq_left', Nat.zero_add, Value.int.injEq, Value.ref.injEq, List.cons.injEq, exists_and_left, and_assoc, exists_eq_left, E_in 143, N_143, B_143_0, bk_143_0, show mTgt 1 142 0 #[59, 64, 69, 78, 87, 96, 105, 114, 123, 132, 137] (nI 8) = 124 from by decide, if_pos, if_neg, not_true_eq_false, not_false_eq_true, or_true, true_or, or_false, false_or, false_and, and_false, Nat.reduceEqDiff, Nat.reduceLT, Nat.reduceMul, Nat.not_lt_zero, Nat.zero_le, Nat.le_refl, ne_eq, reduceIte, reduceCtorEq]
        simp (disch := omega) only [e_iconst, e_bipush, e_sipush, e_iload_n, e_iload, e_aload_n, e_aload, e_istore_n, e_istore, e_astore_n, e_astore, e_iinc, e_iadd, e_isub, e_imul, e_iand, e_ishr, e_idiv, e_i2c, e_dup_i, e_dup_r, e_dup2, e_pop, e_goto, e_nop, e_if_eq, e_if_ne, e_if_lt, e_if_ge, e_if_gt, e_if_le, e_icmp_eq, e_icmp_ne, e_icmp_lt, e_icmp_ge, e_icmp_gt, e_icmp_le, e_tsw, e_ret0, e_ret1, e_retn, e_getI, e_getZ, e_getR, e_getV, e_getC, e_putI, e_putZ, e_putF, e_gst0, e_gst1, e_sld, e_iald, e_cald, e_bald, e_iast, e_cast, e_aald, e_aast, e_alen, e_slen, e_blen, e_newa, e_newq, e_new, e_oinit, e_ctor, e_virt, e_stat, e_min, e_copy, e_ldc, List.cons_append, List.nil_append, List.append_nil, List.length_cons, List.length_nil, List.replicate_succ, List.replicate_zero, List.getElem?_cons_zero, List.getElem?_cons_succ, List.set_cons_zero, List.set_cons_succ, List.take_succ_cons, List.take_zero, List.drop_succ_cons, List.drop_zero, List.reverse_cons, List.reverse_nil, Option.toList_some, Option.toList_none, Nat.reduceSub, Nat.reduceAdd, Nat.reduceLeDiff, true_and, and_true, and_self, Option.some.injEq, exists_eq_left', Nat.zero_add, Value.int.injEq, Value.ref.injEq, List.cons.injEq, exists_and_left, and_assoc, exists_eq_left, B_143_124, bk_143_124, m0, m1, m2, C_123, C_142, r_full gm, r_letters gm, j5, j2, j7, o_in, o_cl, if_pos, if_neg, not_true_eq_false, not_false_eq_true, or_true, true_or, or_false, false_or, false_and, and_false, Nat.reduceEqDiff, Nat.reduceLT, Nat.reduceMul, Nat.not_lt_zero, Nat.zero_le, Nat.le_refl, ne_eq, reduceIte, reduceCtorEq]
        exact OPo_same hrel hJ
    · refine ⟨nI n, R, I, ?_, fun J hJ => ?_⟩
      · simp (disch := omega) only [e_iconst, e_bipush, e_sipush, e_iload_n, e_iload, e_aload_n, e_aload, e_istore_n, e_istore, e_astore_n, e_astore, e_iinc, e_iadd, e_isub, e_imul, e_iand, e_ishr, e_idiv, e_i2c, e_dup_i, e_dup_r, e_dup2, e_pop, e_goto, e_nop, e_if_eq, e_if_ne, e_if_lt, e_if_ge, e_if_gt, e_if_le, e_icmp_eq, e_icmp_ne, e_icmp_lt, e_icmp_ge, e_icmp_gt, e_icmp_le, e_tsw, e_ret0, e_ret1, e_retn, e_getI, e_getZ, e_getR, e_getV, e_getC, e_putI, e_putZ, e_putF, e_gst0, e_gst1, e_sld, e_iald, e_cald, e_bald, e_iast, e_cast, e_aald, e_aast, e_alen, e_slen, e_blen, e_newa, e_newq, e_new, e_oinit, e_ctor, e_virt, e_stat, e_min, e_copy, e_ldc, List.cons_append, List.nil_append, List.append_nil, List.length_cons, List.length_nil, List.replicate_succ, List.replicate_zero, List.getElem?_cons_zero, List.getElem?_cons_succ, List.set_cons_zero, List.set_cons_succ, List.take_succ_cons, List.take_zero, List.drop_succ_cons, List.drop_zero, List.reverse_cons, List.reverse_nil, Option.toList_some, Option.toList_none, Nat.reduceSub, Nat.reduceAdd, Nat.reduceLeDiff, true_and, and_true, and_self, Option.some.injEq, exists_eq_left', Nat.zero_add, Value.int.injEq, Value.ref.injEq, List.cons.injEq, exists_and_left, and_assoc, exists_eq_left, E_in 81, N_81, B_81_0, bk_81_0, show mTgt 1 147 0 #[59, 67, 75, 83, 91, 99, 107, 115, 123, 131, 139] (nI 9) = 132 from by decide, if_pos, if_neg, not_true_eq_false, not_false_eq_true, or_true, true_or, or_false, false_or, false_and, and_false, Nat.reduceEqDiff, Nat.reduceLT, Nat.reduceMul, Nat.not_lt_zero, Nat.zero_le, Nat.le_refl, ne_eq, reduceIte, reduceCtorEq]
        simp (disch := omega) only [e_iconst, e_bipush, e_sipush, e_iload_n, e_iload, e_aload_n, e_aload, e_istore_n, e_istore, e_astore_n, e_astore, e_iinc, e_iadd, e_isub, e_imul, e_iand, e_ishr, e_idiv, e_i2c, e_dup_i, e_dup_r, e_dup2, e_pop, e_goto, e_nop, e_if_eq, e_if_ne, e_if_lt, e_if_ge, e_if_gt, e_if_le, e_icmp_eq, e_icmp_ne, e_icmp_lt, e_icmp_ge, e_icmp_gt, e_icmp_le, e_tsw, e_ret0, e_ret1, e_retn, e_getI, e_getZ, e_getR, e_getV, e_getC, e_putI, e_putZ, e_putF, e_gst0, e_gst1, e_sld, e_iald, e_cald, e_bald, e_iast, e_cast, e_aald, e_aast, e_alen, e_slen, e_blen, e_newa, e_newq, e_new, e_oinit, e_ctor, e_virt, e_stat, e_min, e_copy, e_ldc, List.cons_append, List.nil_append, List.append_nil, List.length_cons, List.length_nil, List.replicate_succ, List.replicate_zero, List.getElem?_cons_zero, List.getElem?_cons_succ, List.set_cons_zero, List.set_cons_succ, List.take_succ_cons, List.take_zero, List.drop_succ_cons, List.drop_zero, List.reverse_cons, List.reverse_nil, Option.toList_some, Option.toList_none, Nat.reduceSub, Nat.reduceAdd, Nat.reduceLeDiff, true_and, and_true, and_self, Option.some.injEq, exists_eq_left', Nat.zero_add, Value.int.injEq, Value.ref.injEq, List.cons.injEq, exists_and_left, and_assoc, exists_eq_left, B_81_132, bk_81_132, a0, a1, a2, a4, b0, gs0, gh0, hn, t2, e2, e3, e4, e5, e6, e7, e8, C_26, C_27, m_spools gs, m_letters gs, ec, el, if_pos, if_neg, not_true_eq_false, not_false_eq_true, or_true, true_or, or_false, false_or, false_and, and_false, Nat.reduceEqDiff, Nat.reduceLT, Nat.reduceMul, Nat.not_lt_zero, Nat.zero_le, Nat.le_refl, ne_eq, reduceIte, reduceCtorEq]
      · obtain ⟨hr, j5, j2, j7⟩ := hfu J hJ
        simp (disch := omega) only [e_iconst, e_bipush, e_sipush, e_iload_n, e_iload, e_aload_n, e_aload, e_istore_n, e_istore, e_astore_n, e_astore, e_iinc, e_iadd, e_isub, e_imul, e_iand, e_ishr, e_idiv, e_i2c, e_dup_i, e_dup_r, e_dup2, e_pop, e_goto, e_nop, e_if_eq, e_if_ne, e_if_lt, e_if_ge, e_if_gt, e_if_le, e_icmp_eq, e_icmp_ne, e_icmp_lt, e_icmp_ge, e_icmp_gt, e_icmp_le, e_tsw, e_ret0, e_ret1, e_retn, e_getI, e_getZ, e_getR, e_getV, e_getC, e_putI, e_putZ, e_putF, e_gst0, e_gst1, e_sld, e_iald, e_cald, e_bald, e_iast, e_cast, e_aald, e_aast, e_alen, e_slen, e_blen, e_newa, e_newq, e_new, e_oinit, e_ctor, e_virt, e_stat, e_min, e_copy, e_ldc, List.cons_append, List.nil_append, List.append_nil, List.length_cons, List.length_nil, List.replicate_succ, List.replicate_zero, List.getElem?_cons_zero, List.getElem?_cons_succ, List.set_cons_zero, List.set_cons_succ, List.take_succ_cons, List.take_zero, List.drop_succ_cons, List.drop_zero, List.reverse_cons, List.reverse_nil, Option.toList_some, Option.toList_none, Nat.reduceSub, Nat.reduceAdd, Nat.reduceLeDiff, true_and, and_true, and_self, Option.some.injEq, exists_eq_left', Nat.zero_add, Value.int.injEq, Value.ref.injEq, List.cons.injEq, exists_and_left, and_assoc, exists_eq_left, E_in 143, N_143, B_143_0, bk_143_0, show mTgt 1 142 0 #[59, 64, 69, 78, 87, 96, 105, 114, 123, 132, 137] (nI 9) = 133 from by decide, if_pos, if_neg, not_true_eq_false, not_false_eq_true, or_true, true_or, or_false, false_or, false_and, and_false, Nat.reduceEqDiff, Nat.reduceLT, Nat.reduceMul, Nat.not_lt_zero, Nat.zero_le, Nat.le_refl, ne_eq, reduceIte, reduceCtorEq]
        simp (disch := omega) only [e_iconst, e_bipush, e_sipush, e_iload_n, e_iload, e_aload_n, e_aload, e_istore_n, e_istore, e_astore_n, e_astore, e_iinc, e_iadd, e_isub, e_imul, e_iand, e_ishr, e_idiv, e_i2c, e_dup_i, e_dup_r, e_dup2, e_pop, e_goto, e_nop, e_if_eq, e_if_ne, e_if_lt, e_if_ge, e_if_gt, e_if_le, e_icmp_eq, e_icmp_ne, e_icmp_lt, e_icmp_ge, e_icmp_gt, e_icmp_le, e_tsw, e_ret0, e_ret1, e_retn, e_getI, e_getZ, e_getR, e_getV, e_getC, e_putI, e_putZ, e_putF, e_gst0, e_gst1, e_sld, e_iald, e_cald, e_bald, e_iast, e_cast, e_aald, e_aast, e_alen, e_slen, e_blen, e_newa, e_newq, e_new, e_oinit, e_ctor, e_virt, e_stat, e_min, e_copy, e_ldc, List.cons_append, List.nil_append, List.append_nil, List.length_cons, List.length_nil, List.replicate_succ, List.replicate_zero, List.getElem?_cons_zero, List.getElem?_cons_succ, List.set_cons_zero, List.set_cons_succ, List.take_succ_cons, List.take_zero, List.drop_succ_cons, List.drop_zero, List.reverse_cons, List.reverse_nil, Option.toList_some, Option.toList_none, Nat.reduceSub, Nat.reduceAdd, Nat.reduceLeDiff, true_and, and_true, and_self, Option.some.injEq, exists_eq_left', Nat.zero_add, Value.int.injEq, Value.ref.injEq, List.cons.injEq, exists_and_left, and_assoc, exists_eq_left, B_143_133, bk_143_133, m0, m1, m2, C_123, C_142, r_full gm, r_letters gm, j5, j2, j7, o_in, o_cl, if_pos, if_neg, not_true_eq_false, not_false_eq_true, or_true, true_or, or_false, false_or, false_and, and_false, Nat.reduceEqDiff, Nat.reduceLT, Nat.reduceMul, Nat.not_lt_zero, Nat.zero_le, Nat.le_refl, ne_eq, reduceIte, reduceCtorEq]
        exact OPo_same hrel hJ
    · refine ⟨nI t, R, I, ?_, fun J hJ => ?_⟩
      · simp (disch := omega) only [e_iconst, e_bipush, e_sipush, e_iload_n, e_iload, e_aload_n, e_aload, e_istore_n, e_istore, e_astore_n, e_astore, e_iinc, e_iadd, e_isub, e_imul, e_iand, e_ishr, e_idiv, e_i2c, e_dup_i, e_dup_r, e_dup2, e_pop, e_goto, e_nop, e_if_eq, e_if_ne, e_if_lt, e_if_ge, e_if_gt, e_if_le, e_icmp_eq, e_icmp_ne, e_icmp_lt, e_icmp_ge, e_icmp_gt, e_icmp_le, e_tsw, e_ret0, e_ret1, e_retn, e_getI, e_getZ, e_getR, e_getV, e_getC, e_putI, e_putZ, e_putF, e_gst0, e_gst1, e_sld, e_iald, e_cald, e_bald, e_iast, e_cast, e_aald, e_aast, e_alen, e_slen, e_blen, e_newa, e_newq, e_new, e_oinit, e_ctor, e_virt, e_stat, e_min, e_copy, e_ldc, List.cons_append, List.nil_append, List.append_nil, List.length_cons, List.length_nil, List.replicate_succ, List.replicate_zero, List.getElem?_cons_zero, List.getElem?_cons_succ, List.set_cons_zero, List.set_cons_succ, List.take_succ_cons, List.take_zero, List.drop_succ_cons, List.drop_zero, List.reverse_cons, List.reverse_nil, Option.toList_some, Option.toList_none, Nat.reduceSub, Nat.reduceAdd, Nat.reduceLeDiff, true_and, and_true, and_self, Option.some.injEq, exists_eq_left', Nat.zero_add, Value.int.injEq, Value.ref.injEq, List.cons.injEq, exists_and_left, and_assoc, exists_eq_left, E_in 81, N_81, B_81_0, bk_81_0, show mTgt 1 147 0 #[59, 67, 75, 83, 91, 99, 107, 115, 123, 131, 139] (nI 10) = 140 from by decide, if_pos, if_neg, not_true_eq_false, not_false_eq_true, or_true, true_or, or_false, false_or, false_and, and_false, Nat.reduceEqDiff, Nat.reduceLT, Nat.reduceMul, Nat.not_lt_zero, Nat.zero_le, Nat.le_refl, ne_eq, reduceIte, reduceCtorEq]
        simp (disch := omega) only [e_iconst, e_bipush, e_sipush, e_iload_n, e_iload, e_aload_n, e_aload, e_istore_n, e_istore, e_astore_n, e_astore, e_iinc, e_iadd, e_isub, e_imul, e_iand, e_ishr, e_idiv, e_i2c, e_dup_i, e_dup_r, e_dup2, e_pop, e_goto, e_nop, e_if_eq, e_if_ne, e_if_lt, e_if_ge, e_if_gt, e_if_le, e_icmp_eq, e_icmp_ne, e_icmp_lt, e_icmp_ge, e_icmp_gt, e_icmp_le, e_tsw, e_ret0, e_ret1, e_retn, e_getI, e_getZ, e_getR, e_getV, e_getC, e_putI, e_putZ, e_putF, e_gst0, e_gst1, e_sld, e_iald, e_cald, e_bald, e_iast, e_cast, e_aald, e_aast, e_alen, e_slen, e_blen, e_newa, e_newq, e_new, e_oinit, e_ctor, e_virt, e_stat, e_min, e_copy, e_ldc, List.cons_append, List.nil_append, List.append_nil, List.length_cons, List.length_nil, List.replicate_succ, List.replicate_zero, List.getElem?_cons_zero, List.getElem?_cons_succ, List.set_cons_zero, List.set_cons_succ, List.take_succ_cons, List.take_zero, List.drop_succ_cons, List.drop_zero, List.reverse_cons, List.reverse_nil, Option.toList_some, Option.toList_none, Nat.reduceSub, Nat.reduceAdd, Nat.reduceLeDiff, true_and, and_true, and_self, Option.some.injEq, exists_eq_left', Nat.zero_add, Value.int.injEq, Value.ref.injEq, List.cons.injEq, exists_and_left, and_assoc, exists_eq_left, B_81_140, bk_81_140, a0, a1, a2, a4, b0, gs0, gh0, hn, t2, e2, e3, e4, e5, e6, e7, e8, C_26, C_27, m_spools gs, m_letters gs, ec, el, if_pos, if_neg, not_true_eq_false, not_false_eq_true, or_true, true_or, or_false, false_or, false_and, and_false, Nat.reduceEqDiff, Nat.reduceLT, Nat.reduceMul, Nat.not_lt_zero, Nat.zero_le, Nat.le_refl, ne_eq, reduceIte, reduceCtorEq]
      · obtain ⟨hr, j5, j2, j7⟩ := hfu J hJ
        simp (disch := omega) only [e_iconst, e_bipush, e_sipush, e_iload_n, e_iload, e_aload_n, e_aload, e_istore_n, e_istore, e_astore_n, e_astore, e_iinc, e_iadd, e_isub, e_imul, e_iand, e_ishr, e_idiv, e_i2c, e_dup_i, e_dup_r, e_dup2, e_pop, e_goto, e_nop, e_if_eq, e_if_ne, e_if_lt, e_if_ge, e_if_gt, e_if_le, e_icmp_eq, e_icmp_ne, e_icmp_lt, e_icmp_ge, e_icmp_gt, e_icmp_le, e_tsw, e_ret0, e_ret1, e_retn, e_getI, e_getZ, e_getR, e_getV, e_getC, e_putI, e_putZ, e_putF, e_gst0, e_gst1, e_sld, e_iald, e_cald, e_bald, e_iast, e_cast, e_aald, e_aast, e_alen, e_slen, e_blen, e_newa, e_newq, e_new, e_oinit, e_ctor, e_virt, e_stat, e_min, e_copy, e_ldc, List.cons_append, List.nil_append, List.append_nil, List.length_cons, List.length_nil, List.replicate_succ, List.replicate_zero, List.getElem?_cons_zero, List.getElem?_cons_succ, List.set_cons_zero, List.set_cons_succ, List.take_succ_cons, List.take_zero, List.drop_succ_cons, List.drop_zero, List.reverse_cons, List.reverse_nil, Option.toList_some, Option.toList_none, Nat.reduceSub, Nat.reduceAdd, Nat.reduceLeDiff, true_and, and_true, and_self, Option.some.injEq, exists_eq_left', Nat.zero_add, Value.int.injEq, Value.ref.injEq, List.cons.injEq, exists_and_left, and_assoc, exists_eq_left, E_in 143, N_143, B_143_0, bk_143_0, show mTgt 1 142 0 #[59, 64, 69, 78, 87, 96, 105, 114, 123, 132, 137] (nI 10) = 138 from by decide, if_pos, if_neg, not_true_eq_false, not_false_eq_true, or_true, true_or, or_false, false_or, false_and, and_false, Nat.reduceEqDiff, Nat.reduceLT, Nat.reduceMul, Nat.not_lt_zero, Nat.zero_le, Nat.le_refl, ne_eq, reduceIte, reduceCtorEq]
        simp (disch := omega) only [e_iconst, e_bipush, e_sipush, e_iload_n, e_iload, e_aload_n, e_aload, e_istore_n, e_istore, e_astore_n, e_astore, e_iinc, e_iadd, e_isub, e_imul, e_iand, e_ishr, e_idiv, e_i2c, e_dup_i, e_dup_r, e_dup2, e_pop, e_goto, e_nop, e_if_eq, e_if_ne, e_if_lt, e_if_ge, e_if_gt, e_if_le, e_icmp_eq, e_icmp_ne, e_icmp_lt, e_icmp_ge, e_icmp_gt, e_icmp_le, e_tsw, e_ret0, e_ret1, e_retn, e_getI, e_getZ, e_getR, e_getV, e_getC, e_putI, e_putZ, e_putF, e_gst0, e_gst1, e_sld, e_iald, e_cald, e_bald, e_iast, e_cast, e_aald, e_aast, e_alen, e_slen, e_blen, e_newa, e_newq, e_new, e_oinit, e_ctor, e_virt, e_stat, e_min, e_copy, e_ldc, List.cons_append, List.nil_append, List.append_nil, List.length_cons, List.length_nil, List.replicate_succ, List.replicate_zero, List.getElem?_cons_zero, List.getElem?_cons_succ, List.set_cons_zero, List.set_cons_succ, List.take_succ_cons, List.take_zero, List.drop_succ_cons, List.drop_zero, List.reverse_cons, List.reverse_nil, Option.toList_some, Option.toList_none, Nat.reduceSub, Nat.reduceAdd, Nat.reduceLeDiff, true_and, and_true, and_self, Option.some.injEq, exists_eq_left', Nat.zero_add, Value.int.injEq, Value.ref.injEq, List.cons.injEq, exists_and_left, and_assoc, exists_eq_left, B_143_138, bk_143_138, m0, m1, m2, C_123, C_142, r_full gm, r_letters gm, j5, j2, j7, o_in, o_cl, if_pos, if_neg, not_true_eq_false, not_false_eq_true, or_true, true_or, or_false, false_or, false_and, and_false, Nat.reduceEqDiff, Nat.reduceLT, Nat.reduceMul, Nat.not_lt_zero, Nat.zero_le, Nat.le_refl, ne_eq, reduceIte, reduceCtorEq]
        exact OPo_same hrel hJ
  · refine ⟨-2, R, I, ?_, fun J hJ => ?_⟩
    · simp (disch := omega) only [e_iconst, e_bipush, e_sipush, e_iload_n, e_iload, e_aload_n, e_aload, e_istore_n, e_istore, e_astore_n, e_astore, e_iinc, e_iadd, e_isub, e_imul, e_iand, e_ishr, e_idiv, e_i2c, e_dup_i, e_dup_r, e_dup2, e_pop, e_goto, e_nop, e_if_eq, e_if_ne, e_if_lt, e_if_ge, e_if_gt, e_if_le, e_icmp_eq, e_icmp_ne, e_icmp_lt, e_icmp_ge, e_icmp_gt, e_icmp_le, e_tsw, e_ret0, e_ret1, e_retn, e_getI, e_getZ, e_getR, e_getV, e_getC, e_putI, e_putZ, e_putF, e_gst0, e_gst1, e_sld, e_iald, e_cald, e_bald, e_iast, e_cast, e_aald, e_aast, e_alen, e_slen, e_blen, e_newa, e_newq, e_new, e_oinit, e_ctor, e_virt, e_stat, e_min, e_copy, e_ldc, List.cons_append, List.nil_append, List.append_nil, List.length_cons, List.length_nil, List.replicate_succ, List.replicate_zero, List.getElem?_cons_zero, List.getElem?_cons_succ, List.set_cons_zero, List.set_cons_succ, List.take_succ_cons, List.take_zero, List.drop_succ_cons, List.drop_zero, List.reverse_cons, List.reverse_nil, Option.toList_some, Option.toList_none, Nat.reduceSub, Nat.reduceAdd, Nat.reduceLeDiff, true_and, and_true, and_self, Option.some.injEq, exists_eq_left', Nat.zero_add, Value.int.injEq, Value.ref.injEq, List.cons.injEq, exists_and_left, and_assoc, exists_eq_left, E_in 81, N_81, B_81_0, bk_81_0, if_pos, if_neg, not_true_eq_false, not_false_eq_true, or_true, true_or, or_false, false_or, false_and, and_false, Nat.reduceEqDiff, Nat.reduceLT, Nat.reduceMul, Nat.not_lt_zero, Nat.zero_le, Nat.le_refl, ne_eq, reduceIte, reduceCtorEq]
      rw [tgt_out (a := 1) (n := 11) (d := 147) (offs := #[59, 67, 75, 83, 91, 99, 107, 115, 123, 131, 139]) (by omega) rfl q, show (((1 : Nat) : Int) + 147).toNat = 148 from rfl, B_81_148]
      simp (disch := omega) only [e_iconst, e_bipush, e_sipush, e_iload_n, e_iload, e_aload_n, e_aload, e_istore_n, e_istore, e_astore_n, e_astore, e_iinc, e_iadd, e_isub, e_imul, e_iand, e_ishr, e_idiv, e_i2c, e_dup_i, e_dup_r, e_dup2, e_pop, e_goto, e_nop, e_if_eq, e_if_ne, e_if_lt, e_if_ge, e_if_gt, e_if_le, e_icmp_eq, e_icmp_ne, e_icmp_lt, e_icmp_ge, e_icmp_gt, e_icmp_le, e_tsw, e_ret0, e_ret1, e_retn, e_getI, e_getZ, e_getR, e_getV, e_getC, e_putI, e_putZ, e_putF, e_gst0, e_gst1, e_sld, e_iald, e_cald, e_bald, e_iast, e_cast, e_aald, e_aast, e_alen, e_slen, e_blen, e_newa, e_newq, e_new, e_oinit, e_ctor, e_virt, e_stat, e_min, e_copy, e_ldc, List.cons_append, List.nil_append, List.append_nil, List.length_cons, List.length_nil, List.replicate_succ, List.replicate_zero, List.getElem?_cons_zero, List.getElem?_cons_succ, List.set_cons_zero, List.set_cons_succ, List.take_succ_cons, List.take_zero, List.drop_succ_cons, List.drop_zero, List.reverse_cons, List.reverse_nil, Option.toList_some, Option.toList_none, Nat.reduceSub, Nat.reduceAdd, Nat.reduceLeDiff, true_and, and_true, and_self, Option.some.injEq, exists_eq_left', Nat.zero_add, Value.int.injEq, Value.ref.injEq, List.cons.injEq, exists_and_left, and_assoc, exists_eq_left, bk_81_148, if_pos, if_neg, not_true_eq_false, not_false_eq_true, or_true, true_or, or_false, false_or, false_and, and_false, Nat.reduceEqDiff, Nat.reduceLT, Nat.reduceMul, Nat.not_lt_zero, Nat.zero_le, Nat.le_refl, ne_eq, reduceIte, reduceCtorEq]
    · simp (disch := omega) only [e_iconst, e_bipush, e_sipush, e_iload_n, e_iload, e_aload_n, e_aload, e_istore_n, e_istore, e_astore_n, e_astore, e_iinc, e_iadd, e_isub, e_imul, e_iand, e_ishr, e_idiv, e_i2c, e_dup_i, e_dup_r, e_dup2, e_pop, e_goto, e_nop, e_if_eq, e_if_ne, e_if_lt, e_if_ge, e_if_gt, e_if_le, e_icmp_eq, e_icmp_ne, e_icmp_lt, e_icmp_ge, e_icmp_gt, e_icmp_le, e_tsw, e_ret0, e_ret1, e_retn, e_getI, e_getZ, e_getR, e_getV, e_getC, e_putI, e_putZ, e_putF, e_gst0, e_gst1, e_sld, e_iald, e_cald, e_bald, e_iast, e_cast, e_aald, e_aast, e_alen, e_slen, e_blen, e_newa, e_newq, e_new, e_oinit, e_ctor, e_virt, e_stat, e_min, e_copy, e_ldc, List.cons_append, List.nil_append, List.append_nil, List.length_cons, List.length_nil, List.replicate_succ, List.replicate_zero, List.getElem?_cons_zero, List.getElem?_cons_succ, List.set_cons_zero, List.set_cons_succ, List.take_succ_cons, List.take_zero, List.drop_succ_cons, List.drop_zero, List.reverse_cons, List.reverse_nil, Option.toList_some, Option.toList_none, Nat.reduceSub, Nat.reduceAdd, Nat.reduceLeDiff, true_and, and_true, and_self, Option.some.injEq, exists_eq_left', Nat.zero_add, Value.int.injEq, Value.ref.injEq, List.cons.injEq, exists_and_left, and_assoc, exists_eq_left, E_in 143, N_143, B_143_0, bk_143_0, if_pos, if_neg, not_true_eq_false, not_false_eq_true, or_true, true_or, or_false, false_or, false_and, and_false, Nat.reduceEqDiff, Nat.reduceLT, Nat.reduceMul, Nat.not_lt_zero, Nat.zero_le, Nat.le_refl, ne_eq, reduceIte, reduceCtorEq]
      rw [tgt_out (a := 1) (n := 11) (d := 142) (offs := #[59, 64, 69, 78, 87, 96, 105, 114, 123, 132, 137]) (by omega) rfl q, show (((1 : Nat) : Int) + 142).toNat = 143 from rfl, B_143_143]
      simp (disch := omega) only [e_iconst, e_bipush, e_sipush, e_iload_n, e_iload, e_aload_n, e_aload, e_istore_n, e_istore, e_astore_n, e_astore, e_iinc, e_iadd, e_isub, e_imul, e_iand, e_ishr, e_idiv, e_i2c, e_dup_i, e_dup_r, e_dup2, e_pop, e_goto, e_nop, e_if_eq, e_if_ne, e_if_lt, e_if_ge, e_if_gt, e_if_le, e_icmp_eq, e_icmp_ne, e_icmp_lt, e_icmp_ge, e_icmp_gt, e_icmp_le, e_tsw, e_ret0, e_ret1, e_retn, e_getI, e_getZ, e_getR, e_getV, e_getC, e_putI, e_putZ, e_putF, e_gst0, e_gst1, e_sld, e_iald, e_cald, e_bald, e_iast, e_cast, e_aald, e_aast, e_alen, e_slen, e_blen, e_newa, e_newq, e_new, e_oinit, e_ctor, e_virt, e_stat, e_min, e_copy, e_ldc, List.cons_append, List.nil_append, List.append_nil, List.length_cons, List.length_nil, List.replicate_succ, List.replicate_zero, List.getElem?_cons_zero, List.getElem?_cons_succ, List.set_cons_zero, List.set_cons_succ, List.take_succ_cons, List.take_zero, List.drop_succ_cons, List.drop_zero, List.reverse_cons, List.reverse_nil, Option.toList_some, Option.toList_none, Nat.reduceSub, Nat.reduceAdd, Nat.reduceLeDiff, true_and, and_true, and_self, Option.some.injEq, exists_eq_left', Nat.zero_add, Value.int.injEq, Value.ref.injEq, List.cons.injEq, exists_and_left, and_assoc, exists_eq_left, bk_143_143, if_pos, if_neg, not_true_eq_false, not_false_eq_true, or_true, true_or, or_false, false_or, false_and, and_false, Nat.reduceEqDiff, Nat.reduceLT, Nat.reduceMul, Nat.not_lt_zero, Nat.zero_le, Nat.le_refl, ne_eq, reduceIte, reduceCtorEq]
      exact OPo_same hrel hJ
end
section
/-! event -/
set_option maxHeartbeats 8000000 in
theorem op_event (b w : Int32) : OP 80 141 [.int b, .int w] := by
  intro K R I hrel
  obtain ⟨f, n, g, hv, hn2, hn, hk, hH, hP, hT⟩ := id hrel
  have q4 := qTu_lt g hn2
  obtain ⟨gm, gs, -, gh, gw, gr, gr', ⟨a0, a1, a2, a3, a4, a5, a6, a7, a8⟩, ⟨b0, b1, b2⟩, cc0⟩ := id g
  have gs0 : K.2.2.1 1 = (1, 4) := gs.1
  have gs1 : R 1 0 = some 2 := gs.2.1
  have gs2 : K.2.2.1 2 = (4, 6) := gs.2.2.1
  have gs3 : R 1 1 = some 3 := gs.2.2.2.1
  have gs4 : zL K R 3 := gs.2.2.2.2.1
  have gW : ∀ s, s < 6 → zW K R (7 + 4 * s) := fun s hs => (gs.2.2.2.2.2.2 s hs).2
  have gR : ∀ s, s < 6 → R 2 s = some (7 + 4 * s) := fun s hs => (gs.2.2.2.2.2.2 s hs).1
  have gh0 := gh.1
  have gsl : K.2.2.1 3 = (1, 2) := gs4.1
  obtain ⟨m0, m1, m2, m3, m4, m5, m6, m7, m8, m9, m10, m11, m12, m13, m14⟩ := id gm
  have gT := zG_tu (n := n) g
  have gmt : zM K (RTu R n) := gT.1
  have gst : zS K (RTu R n) 1 := gT.2.1
  have gt1 : RTu R n 1 0 = some 2 := gst.2.1
  have gt3 : RTu R n 1 1 = some 3 := gst.2.2.2.1
  have gt4 : zL K (RTu R n) 3 := gst.2.2.2.2.1
  have gWt : ∀ s, s < 6 → zW K (RTu R n) (7 + 4 * s) := fun s hs => (gst.2.2.2.2.2.2 s hs).2
  have gRt : ∀ s, s < 6 → RTu R n 2 s = some (7 + 4 * s) := fun s hs => (gst.2.2.2.2.2.2 s hs).1
  obtain ⟨-, m1t, -⟩ := id gmt
  obtain ⟨-, a1t, a2t, a3t, a4t, a5t, a6t, a7t, a8t⟩ := gT.2.2.2.2.2.2.2.1
  obtain ⟨-, -, -, -, -, -, -, -, -, l, l1, l2, l3, l4⟩ := id hv.2
  by_cases c1 : b < 0
  · refine ⟨-2, R, I, ?_, fun J hJ => ?_⟩
    · simp (disch := omega) only [e_iconst, e_bipush, e_sipush, e_iload_n, e_iload, e_aload_n, e_aload, e_istore_n, e_istore, e_astore_n, e_astore, e_iinc, e_iadd, e_isub, e_imul, e_iand, e_ishr, e_idiv, e_i2c, e_dup_i, e_dup_r, e_dup2, e_pop, e_goto, e_nop, e_if_eq, e_if_ne, e_if_lt, e_if_ge, e_if_gt, e_if_le, e_icmp_eq, e_icmp_ne, e_icmp_lt, e_icmp_ge, e_icmp_gt, e_icmp_le, e_tsw, e_ret0, e_ret1, e_retn, e_getI, e_getZ, e_getR, e_getV, e_getC, e_putI, e_putZ, e_putF, e_gst0, e_gst1, e_sld, e_iald, e_cald, e_bald, e_iast, e_cast, e_aald, e_aast, e_alen, e_slen, e_blen, e_newa, e_newq, e_new, e_oinit, e_ctor, e_virt, e_stat, e_min, e_copy, e_ldc, List.cons_append, List.nil_append, List.append_nil, List.length_cons, List.length_nil, List.replicate_succ, List.replicate_zero, List.getElem?_cons_zero, List.getElem?_cons_succ, List.set_cons_zero, List.set_cons_succ, List.take_succ_cons, List.take_zero, List.drop_succ_cons, List.drop_zero, List.reverse_cons, List.reverse_nil, Option.toList_some, Option.toList_none, Nat.reduceSub, Nat.reduceAdd, Nat.reduceLeDiff, true_and, and_true, and_self, Option.some.injEq, exists_eq_left', Nat.zero_add, Value.int.injEq, Value.ref.injEq, List.cons.injEq, exists_and_left, and_assoc, exists_eq_left, E_in 80, N_80, B_80_0, bk_80_0, B_80_13, bk_80_13, c1, if_pos, if_neg, not_true_eq_false, not_false_eq_true, or_true, true_or, or_false, false_or, false_and, and_false, Nat.reduceEqDiff, Nat.reduceLT, Nat.reduceMul, Nat.not_lt_zero, Nat.zero_le, Nat.le_refl, ne_eq, reduceIte, reduceCtorEq]
    · simp (disch := omega) only [e_iconst, e_bipush, e_sipush, e_iload_n, e_iload, e_aload_n, e_aload, e_istore_n, e_istore, e_astore_n, e_astore, e_iinc, e_iadd, e_isub, e_imul, e_iand, e_ishr, e_idiv, e_i2c, e_dup_i, e_dup_r, e_dup2, e_pop, e_goto, e_nop, e_if_eq, e_if_ne, e_if_lt, e_if_ge, e_if_gt, e_if_le, e_icmp_eq, e_icmp_ne, e_icmp_lt, e_icmp_ge, e_icmp_gt, e_icmp_le, e_tsw, e_ret0, e_ret1, e_retn, e_getI, e_getZ, e_getR, e_getV, e_getC, e_putI, e_putZ, e_putF, e_gst0, e_gst1, e_sld, e_iald, e_cald, e_bald, e_iast, e_cast, e_aald, e_aast, e_alen, e_slen, e_blen, e_newa, e_newq, e_new, e_oinit, e_ctor, e_virt, e_stat, e_min, e_copy, e_ldc, List.cons_append, List.nil_append, List.append_nil, List.length_cons, List.length_nil, List.replicate_succ, List.replicate_zero, List.getElem?_cons_zero, List.getElem?_cons_succ, List.set_cons_zero, List.set_cons_succ, List.take_succ_cons, List.take_zero, List.drop_succ_cons, List.drop_zero, List.reverse_cons, List.reverse_nil, Option.toList_some, Option.toList_none, Nat.reduceSub, Nat.reduceAdd, Nat.reduceLeDiff, true_and, and_true, and_self, Option.some.injEq, exists_eq_left', Nat.zero_add, Value.int.injEq, Value.ref.injEq, List.cons.injEq, exists_and_left, and_assoc, exists_eq_left, E_in 141, N_141, B_141_0, bk_141_0, B_141_13, bk_141_13, c1, if_pos, if_neg, not_true_eq_false, not_false_eq_true, or_true, true_or, or_false, false_or, false_and, and_false, Nat.reduceEqDiff, Nat.reduceLT, Nat.reduceMul, Nat.not_lt_zero, Nat.zero_le, Nat.le_refl, ne_eq, reduceIte, reduceCtorEq]
      exact OPo_same hrel hJ
  by_cases c2 : w < 0
  · refine ⟨-2, R, I, ?_, fun J hJ => ?_⟩
    · simp (disch := omega) only [e_iconst, e_bipush, e_sipush, e_iload_n, e_iload, e_aload_n, e_aload, e_istore_n, e_istore, e_astore_n, e_astore, e_iinc, e_iadd, e_isub, e_imul, e_iand, e_ishr, e_idiv, e_i2c, e_dup_i, e_dup_r, e_dup2, e_pop, e_goto, e_nop, e_if_eq, e_if_ne, e_if_lt, e_if_ge, e_if_gt, e_if_le, e_icmp_eq, e_icmp_ne, e_icmp_lt, e_icmp_ge, e_icmp_gt, e_icmp_le, e_tsw, e_ret0, e_ret1, e_retn, e_getI, e_getZ, e_getR, e_getV, e_getC, e_putI, e_putZ, e_putF, e_gst0, e_gst1, e_sld, e_iald, e_cald, e_bald, e_iast, e_cast, e_aald, e_aast, e_alen, e_slen, e_blen, e_newa, e_newq, e_new, e_oinit, e_ctor, e_virt, e_stat, e_min, e_copy, e_ldc, List.cons_append, List.nil_append, List.append_nil, List.length_cons, List.length_nil, List.replicate_succ, List.replicate_zero, List.getElem?_cons_zero, List.getElem?_cons_succ, List.set_cons_zero, List.set_cons_succ, List.take_succ_cons, List.take_zero, List.drop_succ_cons, List.drop_zero, List.reverse_cons, List.reverse_nil, Option.toList_some, Option.toList_none, Nat.reduceSub, Nat.reduceAdd, Nat.reduceLeDiff, true_and, and_true, and_self, Option.some.injEq, exists_eq_left', Nat.zero_add, Value.int.injEq, Value.ref.injEq, List.cons.injEq, exists_and_left, and_assoc, exists_eq_left, E_in 80, N_80, B_80_0, bk_80_0, B_80_13, bk_80_13, c1, c2, if_pos, if_neg, not_true_eq_false, not_false_eq_true, or_true, true_or, or_false, false_or, false_and, and_false, Nat.reduceEqDiff, Nat.reduceLT, Nat.reduceMul, Nat.not_lt_zero, Nat.zero_le, Nat.le_refl, ne_eq, reduceIte, reduceCtorEq]
    · simp (disch := omega) only [e_iconst, e_bipush, e_sipush, e_iload_n, e_iload, e_aload_n, e_aload, e_istore_n, e_istore, e_astore_n, e_astore, e_iinc, e_iadd, e_isub, e_imul, e_iand, e_ishr, e_idiv, e_i2c, e_dup_i, e_dup_r, e_dup2, e_pop, e_goto, e_nop, e_if_eq, e_if_ne, e_if_lt, e_if_ge, e_if_gt, e_if_le, e_icmp_eq, e_icmp_ne, e_icmp_lt, e_icmp_ge, e_icmp_gt, e_icmp_le, e_tsw, e_ret0, e_ret1, e_retn, e_getI, e_getZ, e_getR, e_getV, e_getC, e_putI, e_putZ, e_putF, e_gst0, e_gst1, e_sld, e_iald, e_cald, e_bald, e_iast, e_cast, e_aald, e_aast, e_alen, e_slen, e_blen, e_newa, e_newq, e_new, e_oinit, e_ctor, e_virt, e_stat, e_min, e_copy, e_ldc, List.cons_append, List.nil_append, List.append_nil, List.length_cons, List.length_nil, List.replicate_succ, List.replicate_zero, List.getElem?_cons_zero, List.getElem?_cons_succ, List.set_cons_zero, List.set_cons_succ, List.take_succ_cons, List.take_zero, List.drop_succ_cons, List.drop_zero, List.reverse_cons, List.reverse_nil, Option.toList_some, Option.toList_none, Nat.reduceSub, Nat.reduceAdd, Nat.reduceLeDiff, true_and, and_true, and_self, Option.some.injEq, exists_eq_left', Nat.zero_add, Value.int.injEq, Value.ref.injEq, List.cons.injEq, exists_and_left, and_assoc, exists_eq_left, E_in 141, N_141, B_141_0, bk_141_0, B_141_13, bk_141_13, c1, c2, C_89, r_in, if_pos, if_neg, not_true_eq_false, not_false_eq_true, or_true, true_or, or_false, false_or, false_and, and_false, Nat.reduceEqDiff, Nat.reduceLT, Nat.reduceMul, Nat.not_lt_zero, Nat.zero_le, Nat.le_refl, ne_eq, reduceIte, reduceCtorEq]
      exact OPo_same hrel hJ
  by_cases c3 : nI 2 < w
  · have c3' : (2 : Int32) < w := c3
    have c4 : ¬ w ≤ 2 := Int32.not_le.mpr c3
    refine ⟨-2, R, I, ?_, fun J hJ => ?_⟩
    · simp (disch := omega) only [e_iconst, e_bipush, e_sipush, e_iload_n, e_iload, e_aload_n, e_aload, e_istore_n, e_istore, e_astore_n, e_astore, e_iinc, e_iadd, e_isub, e_imul, e_iand, e_ishr, e_idiv, e_i2c, e_dup_i, e_dup_r, e_dup2, e_pop, e_goto, e_nop, e_if_eq, e_if_ne, e_if_lt, e_if_ge, e_if_gt, e_if_le, e_icmp_eq, e_icmp_ne, e_icmp_lt, e_icmp_ge, e_icmp_gt, e_icmp_le, e_tsw, e_ret0, e_ret1, e_retn, e_getI, e_getZ, e_getR, e_getV, e_getC, e_putI, e_putZ, e_putF, e_gst0, e_gst1, e_sld, e_iald, e_cald, e_bald, e_iast, e_cast, e_aald, e_aast, e_alen, e_slen, e_blen, e_newa, e_newq, e_new, e_oinit, e_ctor, e_virt, e_stat, e_min, e_copy, e_ldc, List.cons_append, List.nil_append, List.append_nil, List.length_cons, List.length_nil, List.replicate_succ, List.replicate_zero, List.getElem?_cons_zero, List.getElem?_cons_succ, List.set_cons_zero, List.set_cons_succ, List.take_succ_cons, List.take_zero, List.drop_succ_cons, List.drop_zero, List.reverse_cons, List.reverse_nil, Option.toList_some, Option.toList_none, Nat.reduceSub, Nat.reduceAdd, Nat.reduceLeDiff, true_and, and_true, and_self, Option.some.injEq, exists_eq_left', Nat.zero_add, Value.int.injEq, Value.ref.injEq, List.cons.injEq, exists_and_left, and_assoc, exists_eq_left, E_in 80, N_80, B_80_0, bk_80_0, B_80_13, bk_80_13, c1, c2, c4, if_pos, if_neg, not_true_eq_false, not_false_eq_true, or_true, true_or, or_false, false_or, false_and, and_false, Nat.reduceEqDiff, Nat.reduceLT, Nat.reduceMul, Nat.not_lt_zero, Nat.zero_le, Nat.le_refl, ne_eq, reduceIte, reduceCtorEq]
    · simp (disch := omega) only [e_iconst, e_bipush, e_sipush, e_iload_n, e_iload, e_aload_n, e_aload, e_istore_n, e_istore, e_astore_n, e_astore, e_iinc, e_iadd, e_isub, e_imul, e_iand, e_ishr, e_idiv, e_i2c, e_dup_i, e_dup_r, e_dup2, e_pop, e_goto, e_nop, e_if_eq, e_if_ne, e_if_lt, e_if_ge, e_if_gt, e_if_le, e_icmp_eq, e_icmp_ne, e_icmp_lt, e_icmp_ge, e_icmp_gt, e_icmp_le, e_tsw, e_ret0, e_ret1, e_retn, e_getI, e_getZ, e_getR, e_getV, e_getC, e_putI, e_putZ, e_putF, e_gst0, e_gst1, e_sld, e_iald, e_cald, e_bald, e_iast, e_cast, e_aald, e_aast, e_alen, e_slen, e_blen, e_newa, e_newq, e_new, e_oinit, e_ctor, e_virt, e_stat, e_min, e_copy, e_ldc, List.cons_append, List.nil_append, List.append_nil, List.length_cons, List.length_nil, List.replicate_succ, List.replicate_zero, List.getElem?_cons_zero, List.getElem?_cons_succ, List.set_cons_zero, List.set_cons_succ, List.take_succ_cons, List.take_zero, List.drop_succ_cons, List.drop_zero, List.reverse_cons, List.reverse_nil, Option.toList_some, Option.toList_none, Nat.reduceSub, Nat.reduceAdd, Nat.reduceLeDiff, true_and, and_true, and_self, Option.some.injEq, exists_eq_left', Nat.zero_add, Value.int.injEq, Value.ref.injEq, List.cons.injEq, exists_and_left, and_assoc, exists_eq_left, E_in 141, N_141, B_141_0, bk_141_0, B_141_13, bk_141_13, c1, c2, c3', C_89, r_in, if_pos, if_neg, not_true_eq_false, not_false_eq_true, or_true, true_or, or_false, false_or, false_and, and_false, Nat.reduceEqDiff, Nat.reduceLT, Nat.reduceMul, Nat.not_lt_zero, Nat.zero_le, Nat.le_refl, ne_eq, reduceIte, reduceCtorEq]
      exact OPo_same hrel hJ
  obtain ⟨k, k1, rfl⟩ := in_rng (by omega) c2 c3
  have c5 : (0 : Int32) ≤ b := Int32.not_lt.mp c1
  rcases sp_cases b (n := l) (by omega) with ⟨e, he, rfl⟩ | q
  · obtain ⟨x1, x2, x3⟩ := l4 (l - 1 - e) (by omega)
    refine ⟨I 195 (596 + 3 * (l - 1 - e) + k), R, I, ?_, fun J hJ => ?_⟩
    · simp (disch := omega) only [e_iconst, e_bipush, e_sipush, e_iload_n, e_iload, e_aload_n, e_aload, e_istore_n, e_istore, e_astore_n, e_astore, e_iinc, e_iadd, e_isub, e_imul, e_iand, e_ishr, e_idiv, e_i2c, e_dup_i, e_dup_r, e_dup2, e_pop, e_goto, e_nop, e_if_eq, e_if_ne, e_if_lt, e_if_ge, e_if_gt, e_if_le, e_icmp_eq, e_icmp_ne, e_icmp_lt, e_icmp_ge, e_icmp_gt, e_icmp_le, e_tsw, e_ret0, e_ret1, e_retn, e_getI, e_getZ, e_getR, e_getV, e_getC, e_putI, e_putZ, e_putF, e_gst0, e_gst1, e_sld, e_iald, e_cald, e_bald, e_iast, e_cast, e_aald, e_aast, e_alen, e_slen, e_blen, e_newa, e_newq, e_new, e_oinit, e_ctor, e_virt, e_stat, e_min, e_copy, e_ldc, List.cons_append, List.nil_append, List.append_nil, List.length_cons, List.length_nil, List.replicate_succ, List.replicate_zero, List.getElem?_cons_zero, List.getElem?_cons_succ, List.set_cons_zero, List.set_cons_succ, List.take_succ_cons, List.take_zero, List.drop_succ_cons, List.drop_zero, List.reverse_cons, List.reverse_nil, Option.toList_some, Option.toList_none, Nat.reduceSub, Nat.reduceAdd, Nat.reduceLeDiff, true_and, and_true, and_self, Option.some.injEq, exists_eq_left', Nat.zero_add, Value.int.injEq, Value.ref.injEq, List.cons.injEq, exists_and_left, and_assoc, exists_eq_left, E_in 80, N_80, B_80_0, bk_80_0, n_ne0, o_le_l, if_pos, if_neg, not_true_eq_false, not_false_eq_true, or_true, true_or, or_false, false_or, false_and, and_false, Nat.reduceEqDiff, Nat.reduceLT, Nat.reduceMul, Nat.not_lt_zero, Nat.zero_le, Nat.le_refl, ne_eq, reduceIte, reduceCtorEq]
      simp (disch := omega) only [e_iconst, e_bipush, e_sipush, e_iload_n, e_iload, e_aload_n, e_aload, e_istore_n, e_istore, e_astore_n, e_astore, e_iinc, e_iadd, e_isub, e_imul, e_iand, e_ishr, e_idiv, e_i2c, e_dup_i, e_dup_r, e_dup2, e_pop, e_goto, e_nop, e_if_eq, e_if_ne, e_if_lt, e_if_ge, e_if_gt, e_if_le, e_icmp_eq, e_icmp_ne, e_icmp_lt, e_icmp_ge, e_icmp_gt, e_icmp_le, e_tsw, e_ret0, e_ret1, e_retn, e_getI, e_getZ, e_getR, e_getV, e_getC, e_putI, e_putZ, e_putF, e_gst0, e_gst1, e_sld, e_iald, e_cald, e_bald, e_iast, e_cast, e_aald, e_aast, e_alen, e_slen, e_blen, e_newa, e_newq, e_new, e_oinit, e_ctor, e_virt, e_stat, e_min, e_copy, e_ldc, List.cons_append, List.nil_append, List.append_nil, List.length_cons, List.length_nil, List.replicate_succ, List.replicate_zero, List.getElem?_cons_zero, List.getElem?_cons_succ, List.set_cons_zero, List.set_cons_succ, List.take_succ_cons, List.take_zero, List.drop_succ_cons, List.drop_zero, List.reverse_cons, List.reverse_nil, Option.toList_some, Option.toList_none, Nat.reduceSub, Nat.reduceAdd, Nat.reduceLeDiff, true_and, and_true, and_self, Option.some.injEq, exists_eq_left', Nat.zero_add, Value.int.injEq, Value.ref.injEq, List.cons.injEq, exists_and_left, and_assoc, exists_eq_left, B_80_16, bk_80_16, a0, a1, gs0, gs3, gsl, C_16, m_logTell gs4 l2 l1 c5, n_le, n_cl, if_neg, if_pos, if_neg, not_true_eq_false, not_false_eq_true, or_true, true_or, or_false, false_or, false_and, and_false, Nat.reduceEqDiff, Nat.reduceLT, Nat.reduceMul, Nat.not_lt_zero, Nat.zero_le, Nat.le_refl, ne_eq, reduceIte, reduceCtorEq]
      rcases (show k = 0 ∨ k = 1 ∨ k = 2 by omega) with rfl | rfl | rfl
      · rw [if_pos (by rfl)]; exact x1
      · rw [if_neg (by decide), if_pos (by rfl)]; rw [show 596 + 3 * (l - 1 - e) + 1 = 597 + 3 * (l - 1 - e) by omega]; exact x2
      · rw [if_neg (by decide), if_neg (by decide)]; rw [show 596 + 3 * (l - 1 - e) + 2 = 598 + 3 * (l - 1 - e) by omega]; exact x3
    · have j5 : J 195 = I 195 := SCR_row hJ (by omega)
      simp (disch := omega) only [e_iconst, e_bipush, e_sipush, e_iload_n, e_iload, e_aload_n, e_aload, e_istore_n, e_istore, e_astore_n, e_astore, e_iinc, e_iadd, e_isub, e_imul, e_iand, e_ishr, e_idiv, e_i2c, e_dup_i, e_dup_r, e_dup2, e_pop, e_goto, e_nop, e_if_eq, e_if_ne, e_if_lt, e_if_ge, e_if_gt, e_if_le, e_icmp_eq, e_icmp_ne, e_icmp_lt, e_icmp_ge, e_icmp_gt, e_icmp_le, e_tsw, e_ret0, e_ret1, e_retn, e_getI, e_getZ, e_getR, e_getV, e_getC, e_putI, e_putZ, e_putF, e_gst0, e_gst1, e_sld, e_iald, e_cald, e_bald, e_iast, e_cast, e_aald, e_aast, e_alen, e_slen, e_blen, e_newa, e_newq, e_new, e_oinit, e_ctor, e_virt, e_stat, e_min, e_copy, e_ldc, List.cons_append, List.nil_append, List.append_nil, List.length_cons, List.length_nil, List.replicate_succ, List.replicate_zero, List.getElem?_cons_zero, List.getElem?_cons_succ, List.set_cons_zero, List.set_cons_succ, List.take_succ_cons, List.take_zero, List.drop_succ_cons, List.drop_zero, List.reverse_cons, List.reverse_nil, Option.toList_some, Option.toList_none, Nat.reduceSub, Nat.reduceAdd, Nat.reduceLeDiff, true_and, and_true, and_self, Option.some.injEq, exists_eq_left', Nat.zero_add, Value.int.injEq, Value.ref.injEq, List.cons.injEq, exists_and_left, and_assoc, exists_eq_left, E_in 141, N_141, B_141_0, bk_141_0, n_ne0, o_lt_r, C_89, r_in, o_eq, if_pos, if_neg, not_true_eq_false, not_false_eq_true, or_true, true_or, or_false, false_or, false_and, and_false, Nat.reduceEqDiff, Nat.reduceLT, Nat.reduceMul, Nat.not_lt_zero, Nat.zero_le, Nat.le_refl, ne_eq, reduceIte, reduceCtorEq]
      rw [B_141_16]
      simp (disch := omega) only [e_iconst, e_bipush, e_sipush, e_iload_n, e_iload, e_aload_n, e_aload, e_istore_n, e_istore, e_astore_n, e_astore, e_iinc, e_iadd, e_isub, e_imul, e_iand, e_ishr, e_idiv, e_i2c, e_dup_i, e_dup_r, e_dup2, e_pop, e_goto, e_nop, e_if_eq, e_if_ne, e_if_lt, e_if_ge, e_if_gt, e_if_le, e_icmp_eq, e_icmp_ne, e_icmp_lt, e_icmp_ge, e_icmp_gt, e_icmp_le, e_tsw, e_ret0, e_ret1, e_retn, e_getI, e_getZ, e_getR, e_getV, e_getC, e_putI, e_putZ, e_putF, e_gst0, e_gst1, e_sld, e_iald, e_cald, e_bald, e_iast, e_cast, e_aald, e_aast, e_alen, e_slen, e_blen, e_newa, e_newq, e_new, e_oinit, e_ctor, e_virt, e_stat, e_min, e_copy, e_ldc, List.cons_append, List.nil_append, List.append_nil, List.length_cons, List.length_nil, List.replicate_succ, List.replicate_zero, List.getElem?_cons_zero, List.getElem?_cons_succ, List.set_cons_zero, List.set_cons_succ, List.take_succ_cons, List.take_zero, List.drop_succ_cons, List.drop_zero, List.reverse_cons, List.reverse_nil, Option.toList_some, Option.toList_none, Nat.reduceSub, Nat.reduceAdd, Nat.reduceLeDiff, true_and, and_true, and_self, Option.some.injEq, exists_eq_left', Nat.zero_add, Value.int.injEq, Value.ref.injEq, List.cons.injEq, exists_and_left, and_assoc, exists_eq_left, bk_141_16, m0, m1, m2, j5, l3, o_in, o_cl, n_in, n_cl, n_le, if_neg, o_sub_l, n_sub, o_mul_r, o_add_r, n_add, B_141_58, bk_141_58, if_pos, if_neg, not_true_eq_false, not_false_eq_true, or_true, true_or, or_false, false_or, false_and, and_false, Nat.reduceEqDiff, Nat.reduceLT, Nat.reduceMul, Nat.not_lt_zero, Nat.zero_le, Nat.le_refl, ne_eq, reduceIte, reduceCtorEq]
      exact OPo_same hrel hJ
  · have q2 : nI l ≤ b := by
      rcases q with q | q
      · exact absurd q c1
      · exact q
    refine ⟨-5, R, I, ?_, fun J hJ => ?_⟩
    · simp (disch := omega) only [e_iconst, e_bipush, e_sipush, e_iload_n, e_iload, e_aload_n, e_aload, e_istore_n, e_istore, e_astore_n, e_astore, e_iinc, e_iadd, e_isub, e_imul, e_iand, e_ishr, e_idiv, e_i2c, e_dup_i, e_dup_r, e_dup2, e_pop, e_goto, e_nop, e_if_eq, e_if_ne, e_if_lt, e_if_ge, e_if_gt, e_if_le, e_icmp_eq, e_icmp_ne, e_icmp_lt, e_icmp_ge, e_icmp_gt, e_icmp_le, e_tsw, e_ret0, e_ret1, e_retn, e_getI, e_getZ, e_getR, e_getV, e_getC, e_putI, e_putZ, e_putF, e_gst0, e_gst1, e_sld, e_iald, e_cald, e_bald, e_iast, e_cast, e_aald, e_aast, e_alen, e_slen, e_blen, e_newa, e_newq, e_new, e_oinit, e_ctor, e_virt, e_stat, e_min, e_copy, e_ldc, List.cons_append, List.nil_append, List.append_nil, List.length_cons, List.length_nil, List.replicate_succ, List.replicate_zero, List.getElem?_cons_zero, List.getElem?_cons_succ, List.set_cons_zero, List.set_cons_succ, List.take_succ_cons, List.take_zero, List.drop_succ_cons, List.drop_zero, List.reverse_cons, List.reverse_nil, Option.toList_some, Option.toList_none, Nat.reduceSub, Nat.reduceAdd, Nat.reduceLeDiff, true_and, and_true, and_self, Option.some.injEq, exists_eq_left', Nat.zero_add, Value.int.injEq, Value.ref.injEq, List.cons.injEq, exists_and_left, and_assoc, exists_eq_left, E_in 80, N_80, B_80_0, bk_80_0, c1, n_ne0, o_le_l, if_pos, if_neg, not_true_eq_false, not_false_eq_true, or_true, true_or, or_false, false_or, false_and, and_false, Nat.reduceEqDiff, Nat.reduceLT, Nat.reduceMul, Nat.not_lt_zero, Nat.zero_le, Nat.le_refl, ne_eq, reduceIte, reduceCtorEq]
      simp (disch := omega) only [e_iconst, e_bipush, e_sipush, e_iload_n, e_iload, e_aload_n, e_aload, e_istore_n, e_istore, e_astore_n, e_astore, e_iinc, e_iadd, e_isub, e_imul, e_iand, e_ishr, e_idiv, e_i2c, e_dup_i, e_dup_r, e_dup2, e_pop, e_goto, e_nop, e_if_eq, e_if_ne, e_if_lt, e_if_ge, e_if_gt, e_if_le, e_icmp_eq, e_icmp_ne, e_icmp_lt, e_icmp_ge, e_icmp_gt, e_icmp_le, e_tsw, e_ret0, e_ret1, e_retn, e_getI, e_getZ, e_getR, e_getV, e_getC, e_putI, e_putZ, e_putF, e_gst0, e_gst1, e_sld, e_iald, e_cald, e_bald, e_iast, e_cast, e_aald, e_aast, e_alen, e_slen, e_blen, e_newa, e_newq, e_new, e_oinit, e_ctor, e_virt, e_stat, e_min, e_copy, e_ldc, List.cons_append, List.nil_append, List.append_nil, List.length_cons, List.length_nil, List.replicate_succ, List.replicate_zero, List.getElem?_cons_zero, List.getElem?_cons_succ, List.set_cons_zero, List.set_cons_succ, List.take_succ_cons, List.take_zero, List.drop_succ_cons, List.drop_zero, List.reverse_cons, List.reverse_nil, Option.toList_some, Option.toList_none, Nat.reduceSub, Nat.reduceAdd, Nat.reduceLeDiff, true_and, and_true, and_self, Option.some.injEq, exists_eq_left', Nat.zero_add, Value.int.injEq, Value.ref.injEq, List.cons.injEq, exists_and_left, and_assoc, exists_eq_left, B_80_16, bk_80_16, a0, a1, gs0, gs3, gsl, C_16, m_logTell gs4 l2 l1 c5, q2, if_pos, if_neg, not_true_eq_false, not_false_eq_true, or_true, true_or, or_false, false_or, false_and, and_false, Nat.reduceEqDiff, Nat.reduceLT, Nat.reduceMul, Nat.not_lt_zero, Nat.zero_le, Nat.le_refl, ne_eq, reduceIte, reduceCtorEq]
    · have j5 : J 195 = I 195 := SCR_row hJ (by omega)
      simp (disch := omega) only [e_iconst, e_bipush, e_sipush, e_iload_n, e_iload, e_aload_n, e_aload, e_istore_n, e_istore, e_astore_n, e_astore, e_iinc, e_iadd, e_isub, e_imul, e_iand, e_ishr, e_idiv, e_i2c, e_dup_i, e_dup_r, e_dup2, e_pop, e_goto, e_nop, e_if_eq, e_if_ne, e_if_lt, e_if_ge, e_if_gt, e_if_le, e_icmp_eq, e_icmp_ne, e_icmp_lt, e_icmp_ge, e_icmp_gt, e_icmp_le, e_tsw, e_ret0, e_ret1, e_retn, e_getI, e_getZ, e_getR, e_getV, e_getC, e_putI, e_putZ, e_putF, e_gst0, e_gst1, e_sld, e_iald, e_cald, e_bald, e_iast, e_cast, e_aald, e_aast, e_alen, e_slen, e_blen, e_newa, e_newq, e_new, e_oinit, e_ctor, e_virt, e_stat, e_min, e_copy, e_ldc, List.cons_append, List.nil_append, List.append_nil, List.length_cons, List.length_nil, List.replicate_succ, List.replicate_zero, List.getElem?_cons_zero, List.getElem?_cons_succ, List.set_cons_zero, List.set_cons_succ, List.take_succ_cons, List.take_zero, List.drop_succ_cons, List.drop_zero, List.reverse_cons, List.reverse_nil, Option.toList_some, Option.toList_none, Nat.reduceSub, Nat.reduceAdd, Nat.reduceLeDiff, true_and, and_true, and_self, Option.some.injEq, exists_eq_left', Nat.zero_add, Value.int.injEq, Value.ref.injEq, List.cons.injEq, exists_and_left, and_assoc, exists_eq_left, E_in 141, N_141, B_141_0, bk_141_0, c1, n_ne0, o_lt_r, C_89, r_in, o_eq, if_pos, if_neg, not_true_eq_false, not_false_eq_true, or_true, true_or, or_false, false_or, false_and, and_false, Nat.reduceEqDiff, Nat.reduceLT, Nat.reduceMul, Nat.not_lt_zero, Nat.zero_le, Nat.le_refl, ne_eq, reduceIte, reduceCtorEq]
      rw [B_141_16]
      simp (disch := omega) only [e_iconst, e_bipush, e_sipush, e_iload_n, e_iload, e_aload_n, e_aload, e_istore_n, e_istore, e_astore_n, e_astore, e_iinc, e_iadd, e_isub, e_imul, e_iand, e_ishr, e_idiv, e_i2c, e_dup_i, e_dup_r, e_dup2, e_pop, e_goto, e_nop, e_if_eq, e_if_ne, e_if_lt, e_if_ge, e_if_gt, e_if_le, e_icmp_eq, e_icmp_ne, e_icmp_lt, e_icmp_ge, e_icmp_gt, e_icmp_le, e_tsw, e_ret0, e_ret1, e_retn, e_getI, e_getZ, e_getR, e_getV, e_getC, e_putI, e_putZ, e_putF, e_gst0, e_gst1, e_sld, e_iald, e_cald, e_bald, e_iast, e_cast, e_aald, e_aast, e_alen, e_slen, e_blen, e_newa, e_newq, e_new, e_oinit, e_ctor, e_virt, e_stat, e_min, e_copy, e_ldc, List.cons_append, List.nil_append, List.append_nil, List.length_cons, List.length_nil, List.replicate_succ, List.replicate_zero, List.getElem?_cons_zero, List.getElem?_cons_succ, List.set_cons_zero, List.set_cons_succ, List.take_succ_cons, List.take_zero, List.drop_succ_cons, List.drop_zero, List.reverse_cons, List.reverse_nil, Option.toList_some, Option.toList_none, Nat.reduceSub, Nat.reduceAdd, Nat.reduceLeDiff, true_and, and_true, and_self, Option.some.injEq, exists_eq_left', Nat.zero_add, Value.int.injEq, Value.ref.injEq, List.cons.injEq, exists_and_left, and_assoc, exists_eq_left, bk_141_16, m0, m1, m2, j5, l3, o_in, o_cl, q2, B_141_56, bk_141_56, B_141_58, bk_141_58, if_pos, if_neg, not_true_eq_false, not_false_eq_true, or_true, true_or, or_false, false_or, false_and, and_false, Nat.reduceEqDiff, Nat.reduceLT, Nat.reduceMul, Nat.not_lt_zero, Nat.zero_le, Nat.le_refl, ne_eq, reduceIte, reduceCtorEq]
      exact OPo_same hrel hJ
/-! texts -/
theorem n_16 {ch : Nat} (h : ch < 65536) : ((nI ch).toUInt32 % 65536).toInt32 = nI ch := by
  apply Int32.toBitVec_inj.mp
  show (BitVec.ofNat 32 ch) % 65536#32 = BitVec.ofNat 32 ch
  apply BitVec.eq_of_toNat_eq
  rw [BitVec.toNat_umod, BitVec.toNat_ofNat, BitVec.toNat_ofNat]
  simp only [Nat.reducePow, Nat.reduceMod]
  omega
theorem n_i2c (x : Int32) : ∃ ch, ch < 65536 ∧ (x.toUInt32 % 65536).toInt32 = nI ch := by
  refine ⟨(x.toBitVec.toNat % 65536), by omega, ?_⟩
  apply Int32.toBitVec_inj.mp
  show x.toBitVec % 65536#32 = BitVec.ofNat 32 (x.toBitVec.toNat % 65536)
  apply BitVec.eq_of_toNat_eq
  rw [BitVec.toNat_umod, BitVec.toNat_ofNat, BitVec.toNat_ofNat]
  simp only [Nat.reducePow, Nat.reduceMod]
  omega
set_option maxHeartbeats 8000000 in
theorem op_clearText : OP 67 114 [] := by
  intro K R I hrel
  obtain ⟨f, n, g, hv, hn2, hn, hk, hH, hP, hT⟩ := id hrel
  have q4 := qTu_lt g hn2
  obtain ⟨gm, gs, -, gh, gw, gr, gr', ⟨a0, a1, a2, a3, a4, a5, a6, a7, a8⟩, ⟨b0, b1, b2⟩, cc0⟩ := id g
  have gs0 : K.2.2.1 1 = (1, 4) := gs.1
  have gs1 : R 1 0 = some 2 := gs.2.1
  have gs2 : K.2.2.1 2 = (4, 6) := gs.2.2.1
  have gs3 : R 1 1 = some 3 := gs.2.2.2.1
  have gs4 : zL K R 3 := gs.2.2.2.2.1
  have gW : ∀ s, s < 6 → zW K R (7 + 4 * s) := fun s hs => (gs.2.2.2.2.2.2 s hs).2
  have gR : ∀ s, s < 6 → R 2 s = some (7 + 4 * s) := fun s hs => (gs.2.2.2.2.2.2 s hs).1
  have gh0 := gh.1
  have gsl : K.2.2.1 3 = (1, 2) := gs4.1
  obtain ⟨m0, m1, m2, m3, m4, m5, m6, m7, m8, m9, m10, m11, m12, m13, m14⟩ := id gm
  have gT := zG_tu (n := n) g
  have gmt : zM K (RTu R n) := gT.1
  have gst : zS K (RTu R n) 1 := gT.2.1
  have gt1 : RTu R n 1 0 = some 2 := gst.2.1
  have gt3 : RTu R n 1 1 = some 3 := gst.2.2.2.1
  have gt4 : zL K (RTu R n) 3 := gst.2.2.2.2.1
  have gWt : ∀ s, s < 6 → zW K (RTu R n) (7 + 4 * s) := fun s hs => (gst.2.2.2.2.2.2 s hs).2
  have gRt : ∀ s, s < 6 → RTu R n 2 s = some (7 + 4 * s) := fun s hs => (gst.2.2.2.2.2.2 s hs).1
  obtain ⟨-, m1t, -⟩ := id gmt
  obtain ⟨-, a1t, a2t, a3t, a4t, a5t, a6t, a7t, a8t⟩ := gT.2.2.2.2.2.2.2.1
  obtain ⟨t, t1, t2, t3, t4⟩ := hT
  refine ⟨nI t, R, mSet I 183 1 0, ?_, fun J hJ => ?_⟩
  · simp (disch := omega) only [e_iconst, e_bipush, e_sipush, e_iload_n, e_iload, e_aload_n, e_aload, e_istore_n, e_istore, e_astore_n, e_astore, e_iinc, e_iadd, e_isub, e_imul, e_iand, e_ishr, e_idiv, e_i2c, e_dup_i, e_dup_r, e_dup2, e_pop, e_goto, e_nop, e_if_eq, e_if_ne, e_if_lt, e_if_ge, e_if_gt, e_if_le, e_icmp_eq, e_icmp_ne, e_icmp_lt, e_icmp_ge, e_icmp_gt, e_icmp_le, e_tsw, e_ret0, e_ret1, e_retn, e_getI, e_getZ, e_getR, e_getV, e_getC, e_putI, e_putZ, e_putF, e_gst0, e_gst1, e_sld, e_iald, e_cald, e_bald, e_iast, e_cast, e_aald, e_aast, e_alen, e_slen, e_blen, e_newa, e_newq, e_new, e_oinit, e_ctor, e_virt, e_stat, e_min, e_copy, e_ldc, List.cons_append, List.nil_append, List.append_nil, List.length_cons, List.length_nil, List.replicate_succ, List.replicate_zero, List.getElem?_cons_zero, List.getElem?_cons_succ, List.set_cons_zero, List.set_cons_succ, List.take_succ_cons, List.take_zero, List.drop_succ_cons, List.drop_zero, List.reverse_cons, List.reverse_nil, Option.toList_some, Option.toList_none, Nat.reduceSub, Nat.reduceAdd, Nat.reduceLeDiff, true_and, and_true, and_self, Option.some.injEq, exists_eq_left', Nat.zero_add, Value.int.injEq, Value.ref.injEq, List.cons.injEq, exists_and_left, and_assoc, exists_eq_left, E_in 67, N_67, B_67_0, bk_67_0, a0, a4, b0, t2, if_pos, if_neg, not_true_eq_false, not_false_eq_true, or_true, true_or, or_false, false_or, false_and, and_false, Nat.reduceEqDiff, Nat.reduceLT, Nat.reduceMul, Nat.not_lt_zero, Nat.zero_le, Nat.le_refl, ne_eq, reduceIte, reduceCtorEq]
  · have j7 : J 194 7 = nI t := by rw [SCR_m hJ (by omega), s_ne (by omega)]; exact t3
    simp (disch := omega) only [e_iconst, e_bipush, e_sipush, e_iload_n, e_iload, e_aload_n, e_aload, e_istore_n, e_istore, e_astore_n, e_astore, e_iinc, e_iadd, e_isub, e_imul, e_iand, e_ishr, e_idiv, e_i2c, e_dup_i, e_dup_r, e_dup2, e_pop, e_goto, e_nop, e_if_eq, e_if_ne, e_if_lt, e_if_ge, e_if_gt, e_if_le, e_icmp_eq, e_icmp_ne, e_icmp_lt, e_icmp_ge, e_icmp_gt, e_icmp_le, e_tsw, e_ret0, e_ret1, e_retn, e_getI, e_getZ, e_getR, e_getV, e_getC, e_putI, e_putZ, e_putF, e_gst0, e_gst1, e_sld, e_iald, e_cald, e_bald, e_iast, e_cast, e_aald, e_aast, e_alen, e_slen, e_blen, e_newa, e_newq, e_new, e_oinit, e_ctor, e_virt, e_stat, e_min, e_copy, e_ldc, List.cons_append, List.nil_append, List.append_nil, List.length_cons, List.length_nil, List.replicate_succ, List.replicate_zero, List.getElem?_cons_zero, List.getElem?_cons_succ, List.set_cons_zero, List.set_cons_succ, List.take_succ_cons, List.take_zero, List.drop_succ_cons, List.drop_zero, List.reverse_cons, List.reverse_nil, Option.toList_some, Option.toList_none, Nat.reduceSub, Nat.reduceAdd, Nat.reduceLeDiff, true_and, and_true, and_self, Option.some.injEq, exists_eq_left', Nat.zero_add, Value.int.injEq, Value.ref.injEq, List.cons.injEq, exists_and_left, and_assoc, exists_eq_left, E_in 114, N_114, B_114_0, bk_114_0, m0, j7, if_pos, if_neg, not_true_eq_false, not_false_eq_true, or_true, true_or, or_false, false_or, false_and, and_false, Nat.reduceEqDiff, Nat.reduceLT, Nat.reduceMul, Nat.not_lt_zero, Nat.zero_le, Nat.le_refl, ne_eq, reduceIte, reduceCtorEq]
    refine ⟨rfl, _, _, rfl, f, n, g, ?_, hn2, ?_, ?_, ?_, ?_, 0, by omega, ?_, s_eq, fun k hk => absurd hk (by omega)⟩
    · rw [s_no (by omega), SCR_row hJ (x := 195) (by omega), s_no (by omega)]
      exact RC_out hv (fun x x1 x2 => by rw [s_no (by omega), SCR_row hJ (by omega), s_no (by omega)])
    · rw [s_ne (by omega), SCR_row hJ (x := 31) (by omega), s_ne (by omega)]; exact hn
    · rw [s_ne (by omega), SCR_m hJ (by omega), s_ne (by omega)]; exact hk
    · rw [s_no (by omega), SCR_row hJ (x := 196) (by omega), s_no (by omega)]
      intro j hj
      have := gh.2.2.2.2.1 j (by omega)
      exact RC_out (hH j hj) (fun x x1 x2 => by rw [s_no (by omega), SCR_row hJ (by omega), s_no (by omega)])
    · unfold rP
      rw [s_no (by omega), SCR_row hJ (x := 0) (by omega), s_no (by omega), s_ne (by omega), SCR_m hJ (j := 4) (by omega), s_ne (by omega), s_no (by omega), SCR_row hJ (x := 197) (by omega), s_no (by omega)]
      rcases hP with q | ⟨q1, q2, q3⟩
      · exact Or.inl q
      · exact Or.inr ⟨q1, q2, RC_out q3 (fun x x1 x2 => by rw [s_no (by omega), SCR_row hJ (by omega), s_no (by omega)])⟩
    · rw [s_ne (by omega), SCR_row hJ (x := 183) (by omega), s_eq]; rfl
set_option maxHeartbeats 8000000 in
theorem op_type (ch : Nat) (hch : ch < 65536) : OP 66 113 [.int (nI ch)] := by
  intro K R I hrel
  obtain ⟨f, n, g, hv, hn2, hn, hk, hH, hP, hT⟩ := id hrel
  have q4 := qTu_lt g hn2
  obtain ⟨gm, gs, -, gh, gw, gr, gr', ⟨a0, a1, a2, a3, a4, a5, a6, a7, a8⟩, ⟨b0, b1, b2⟩, cc0⟩ := id g
  have gs0 : K.2.2.1 1 = (1, 4) := gs.1
  have gs1 : R 1 0 = some 2 := gs.2.1
  have gs2 : K.2.2.1 2 = (4, 6) := gs.2.2.1
  have gs3 : R 1 1 = some 3 := gs.2.2.2.1
  have gs4 : zL K R 3 := gs.2.2.2.2.1
  have gW : ∀ s, s < 6 → zW K R (7 + 4 * s) := fun s hs => (gs.2.2.2.2.2.2 s hs).2
  have gR : ∀ s, s < 6 → R 2 s = some (7 + 4 * s) := fun s hs => (gs.2.2.2.2.2.2 s hs).1
  have gh0 := gh.1
  have gsl : K.2.2.1 3 = (1, 2) := gs4.1
  obtain ⟨m0, m1, m2, m3, m4, m5, m6, m7, m8, m9, m10, m11, m12, m13, m14⟩ := id gm
  have gT := zG_tu (n := n) g
  have gmt : zM K (RTu R n) := gT.1
  have gst : zS K (RTu R n) 1 := gT.2.1
  have gt1 : RTu R n 1 0 = some 2 := gst.2.1
  have gt3 : RTu R n 1 1 = some 3 := gst.2.2.2.1
  have gt4 : zL K (RTu R n) 3 := gst.2.2.2.2.1
  have gWt : ∀ s, s < 6 → zW K (RTu R n) (7 + 4 * s) := fun s hs => (gst.2.2.2.2.2.2 s hs).2
  have gRt : ∀ s, s < 6 → RTu R n 2 s = some (7 + 4 * s) := fun s hs => (gst.2.2.2.2.2.2 s hs).1
  obtain ⟨-, m1t, -⟩ := id gmt
  obtain ⟨-, a1t, a2t, a3t, a4t, a5t, a6t, a7t, a8t⟩ := gT.2.2.2.2.2.2.2.1
  obtain ⟨t, t1, t2, t3, t4⟩ := hT
  have c16 := n_16 hch
  by_cases e : t = 50
  · subst e
    refine ⟨-3, R, I, ?_, fun J hJ => ?_⟩
    · simp (disch := omega) only [e_iconst, e_bipush, e_sipush, e_iload_n, e_iload, e_aload_n, e_aload, e_istore_n, e_istore, e_astore_n, e_astore, e_iinc, e_iadd, e_isub, e_imul, e_iand, e_ishr, e_idiv, e_i2c, e_dup_i, e_dup_r, e_dup2, e_pop, e_goto, e_nop, e_if_eq, e_if_ne, e_if_lt, e_if_ge, e_if_gt, e_if_le, e_icmp_eq, e_icmp_ne, e_icmp_lt, e_icmp_ge, e_icmp_gt, e_icmp_le, e_tsw, e_ret0, e_ret1, e_retn, e_getI, e_getZ, e_getR, e_getV, e_getC, e_putI, e_putZ, e_putF, e_gst0, e_gst1, e_sld, e_iald, e_cald, e_bald, e_iast, e_cast, e_aald, e_aast, e_alen, e_slen, e_blen, e_newa, e_newq, e_new, e_oinit, e_ctor, e_virt, e_stat, e_min, e_copy, e_ldc, List.cons_append, List.nil_append, List.append_nil, List.length_cons, List.length_nil, List.replicate_succ, List.replicate_zero, List.getElem?_cons_zero, List.getElem?_cons_succ, List.set_cons_zero, List.set_cons_succ, List.take_succ_cons, List.take_zero, List.drop_succ_cons, List.drop_zero, List.reverse_cons, List.reverse_nil, Option.toList_some, Option.toList_none, Nat.reduceSub, Nat.reduceAdd, Nat.reduceLeDiff, true_and, and_true, and_self, Option.some.injEq, exists_eq_left', Nat.zero_add, Value.int.injEq, Value.ref.injEq, List.cons.injEq, exists_and_left, and_assoc, exists_eq_left, E_in 66, N_66, B_66_0, bk_66_0, C_32, E_in 32, N_32, B_32_0, bk_32_0, a0, a4, b0, t2, o_lt_l, if_neg, Nat.lt_irrefl, o_eq, if_pos, if_neg, not_true_eq_false, not_false_eq_true, or_true, true_or, or_false, false_or, false_and, and_false, Nat.reduceEqDiff, Nat.reduceLT, Nat.reduceMul, Nat.not_lt_zero, Nat.zero_le, Nat.le_refl, ne_eq, reduceIte, reduceCtorEq]
    · have j7 : J 194 7 = nI 50 := by rw [SCR_m hJ (by omega)]; exact t3
      simp (disch := omega) only [e_iconst, e_bipush, e_sipush, e_iload_n, e_iload, e_aload_n, e_aload, e_istore_n, e_istore, e_astore_n, e_astore, e_iinc, e_iadd, e_isub, e_imul, e_iand, e_ishr, e_idiv, e_i2c, e_dup_i, e_dup_r, e_dup2, e_pop, e_goto, e_nop, e_if_eq, e_if_ne, e_if_lt, e_if_ge, e_if_gt, e_if_le, e_icmp_eq, e_icmp_ne, e_icmp_lt, e_icmp_ge, e_icmp_gt, e_icmp_le, e_tsw, e_ret0, e_ret1, e_retn, e_getI, e_getZ, e_getR, e_getV, e_getC, e_putI, e_putZ, e_putF, e_gst0, e_gst1, e_sld, e_iald, e_cald, e_bald, e_iast, e_cast, e_aald, e_aast, e_alen, e_slen, e_blen, e_newa, e_newq, e_new, e_oinit, e_ctor, e_virt, e_stat, e_min, e_copy, e_ldc, List.cons_append, List.nil_append, List.append_nil, List.length_cons, List.length_nil, List.replicate_succ, List.replicate_zero, List.getElem?_cons_zero, List.getElem?_cons_succ, List.set_cons_zero, List.set_cons_succ, List.take_succ_cons, List.take_zero, List.drop_succ_cons, List.drop_zero, List.reverse_cons, List.reverse_nil, Option.toList_some, Option.toList_none, Nat.reduceSub, Nat.reduceAdd, Nat.reduceLeDiff, true_and, and_true, and_self, Option.some.injEq, exists_eq_left', Nat.zero_add, Value.int.injEq, Value.ref.injEq, List.cons.injEq, exists_and_left, and_assoc, exists_eq_left, E_in 113, N_113, B_113_0, bk_113_0, m0, j7, o_eq_l, if_pos, if_neg, not_true_eq_false, not_false_eq_true, or_true, true_or, or_false, false_or, false_and, and_false, Nat.reduceEqDiff, Nat.reduceLT, Nat.reduceMul, Nat.not_lt_zero, Nat.zero_le, Nat.le_refl, ne_eq, reduceIte, reduceCtorEq]
      exact OPo_same hrel hJ
  · refine ⟨nI (t + 1), R, mSet (mSet I 184 t (nI ch)) 183 1 (nI (t + 1)), ?_, fun J hJ => ?_⟩
    · simp (disch := omega) only [e_iconst, e_bipush, e_sipush, e_iload_n, e_iload, e_aload_n, e_aload, e_istore_n, e_istore, e_astore_n, e_astore, e_iinc, e_iadd, e_isub, e_imul, e_iand, e_ishr, e_idiv, e_i2c, e_dup_i, e_dup_r, e_dup2, e_pop, e_goto, e_nop, e_if_eq, e_if_ne, e_if_lt, e_if_ge, e_if_gt, e_if_le, e_icmp_eq, e_icmp_ne, e_icmp_lt, e_icmp_ge, e_icmp_gt, e_icmp_le, e_tsw, e_ret0, e_ret1, e_retn, e_getI, e_getZ, e_getR, e_getV, e_getC, e_putI, e_putZ, e_putF, e_gst0, e_gst1, e_sld, e_iald, e_cald, e_bald, e_iast, e_cast, e_aald, e_aast, e_alen, e_slen, e_blen, e_newa, e_newq, e_new, e_oinit, e_ctor, e_virt, e_stat, e_min, e_copy, e_ldc, List.cons_append, List.nil_append, List.append_nil, List.length_cons, List.length_nil, List.replicate_succ, List.replicate_zero, List.getElem?_cons_zero, List.getElem?_cons_succ, List.set_cons_zero, List.set_cons_succ, List.take_succ_cons, List.take_zero, List.drop_succ_cons, List.drop_zero, List.reverse_cons, List.reverse_nil, Option.toList_some, Option.toList_none, Nat.reduceSub, Nat.reduceAdd, Nat.reduceLeDiff, true_and, and_true, and_self, Option.some.injEq, exists_eq_left', Nat.zero_add, Value.int.injEq, Value.ref.injEq, List.cons.injEq, exists_and_left, and_assoc, exists_eq_left, E_in 66, N_66, B_66_0, bk_66_0, C_32, E_in 32, N_32, B_32_0, bk_32_0, B_32_11, bk_32_11, a0, a4, b0, b1, b2, t2, o_lt_l, if_pos, n_in, n_cl, o_add_l, s_ne, s_eq, c16, o_eq, if_pos, if_neg, not_true_eq_false, not_false_eq_true, or_true, true_or, or_false, false_or, false_and, and_false, Nat.reduceEqDiff, Nat.reduceLT, Nat.reduceMul, Nat.not_lt_zero, Nat.zero_le, Nat.le_refl, ne_eq, reduceIte, reduceCtorEq]
      simp (disch := omega) only [e_iconst, e_bipush, e_sipush, e_iload_n, e_iload, e_aload_n, e_aload, e_istore_n, e_istore, e_astore_n, e_astore, e_iinc, e_iadd, e_isub, e_imul, e_iand, e_ishr, e_idiv, e_i2c, e_dup_i, e_dup_r, e_dup2, e_pop, e_goto, e_nop, e_if_eq, e_if_ne, e_if_lt, e_if_ge, e_if_gt, e_if_le, e_icmp_eq, e_icmp_ne, e_icmp_lt, e_icmp_ge, e_icmp_gt, e_icmp_le, e_tsw, e_ret0, e_ret1, e_retn, e_getI, e_getZ, e_getR, e_getV, e_getC, e_putI, e_putZ, e_putF, e_gst0, e_gst1, e_sld, e_iald, e_cald, e_bald, e_iast, e_cast, e_aald, e_aast, e_alen, e_slen, e_blen, e_newa, e_newq, e_new, e_oinit, e_ctor, e_virt, e_stat, e_min, e_copy, e_ldc, List.cons_append, List.nil_append, List.append_nil, List.length_cons, List.length_nil, List.replicate_succ, List.replicate_zero, List.getElem?_cons_zero, List.getElem?_cons_succ, List.set_cons_zero, List.set_cons_succ, List.take_succ_cons, List.take_zero, List.drop_succ_cons, List.drop_zero, List.reverse_cons, List.reverse_nil, Option.toList_some, Option.toList_none, Nat.reduceSub, Nat.reduceAdd, Nat.reduceLeDiff, true_and, and_true, and_self, Option.some.injEq, exists_eq_left', Nat.zero_add, Value.int.injEq, Value.ref.injEq, List.cons.injEq, exists_and_left, and_assoc, exists_eq_left, B_66_14, bk_66_14, a0, a4, b0, s_eq, if_pos, if_neg, not_true_eq_false, not_false_eq_true, or_true, true_or, or_false, false_or, false_and, and_false, Nat.reduceEqDiff, Nat.reduceLT, Nat.reduceMul, Nat.not_lt_zero, Nat.zero_le, Nat.le_refl, ne_eq, reduceIte, reduceCtorEq]
    · have j7 : J 194 7 = nI t := by rw [SCR_m hJ (by omega), s_ne (by omega), s_ne (by omega)]; exact t3
      simp (disch := omega) only [e_iconst, e_bipush, e_sipush, e_iload_n, e_iload, e_aload_n, e_aload, e_istore_n, e_istore, e_astore_n, e_astore, e_iinc, e_iadd, e_isub, e_imul, e_iand, e_ishr, e_idiv, e_i2c, e_dup_i, e_dup_r, e_dup2, e_pop, e_goto, e_nop, e_if_eq, e_if_ne, e_if_lt, e_if_ge, e_if_gt, e_if_le, e_icmp_eq, e_icmp_ne, e_icmp_lt, e_icmp_ge, e_icmp_gt, e_icmp_le, e_tsw, e_ret0, e_ret1, e_retn, e_getI, e_getZ, e_getR, e_getV, e_getC, e_putI, e_putZ, e_putF, e_gst0, e_gst1, e_sld, e_iald, e_cald, e_bald, e_iast, e_cast, e_aald, e_aast, e_alen, e_slen, e_blen, e_newa, e_newq, e_new, e_oinit, e_ctor, e_virt, e_stat, e_min, e_copy, e_ldc, List.cons_append, List.nil_append, List.append_nil, List.length_cons, List.length_nil, List.replicate_succ, List.replicate_zero, List.getElem?_cons_zero, List.getElem?_cons_succ, List.set_cons_zero, List.set_cons_succ, List.take_succ_cons, List.take_zero, List.drop_succ_cons, List.drop_zero, List.reverse_cons, List.reverse_nil, Option.toList_some, Option.toList_none, Nat.reduceSub, Nat.reduceAdd, Nat.reduceLeDiff, true_and, and_true, and_self, Option.some.injEq, exists_eq_left', Nat.zero_add, Value.int.injEq, Value.ref.injEq, List.cons.injEq, exists_and_left, and_assoc, exists_eq_left, E_in 113, N_113, B_113_0, bk_113_0, m0, j7, o_eq_l, if_pos, B_113_12, bk_113_12, m11, m12, n_in, n_cl, o_add_l, s_ne, s_eq, c16, if_pos, if_neg, not_true_eq_false, not_false_eq_true, or_true, true_or, or_false, false_or, false_and, and_false, Nat.reduceEqDiff, Nat.reduceLT, Nat.reduceMul, Nat.not_lt_zero, Nat.zero_le, Nat.le_refl, ne_eq, reduceIte, reduceCtorEq]
      refine ⟨rfl, _, _, rfl, f, n, g, ?_, hn2, ?_, ?_, ?_, ?_, t + 1, by omega, ?_, s_eq, fun k hk => ?_⟩
      · rw [s_no (by omega), s_no (by omega), SCR_row hJ (x := 195) (by omega), s_no (by omega), s_no (by omega)]
        exact RC_out hv (fun x x1 x2 => by rw [s_no (by omega), s_no (by omega), SCR_row hJ (by omega), s_no (by omega), s_no (by omega)])
      · rw [s_ne (by omega), s_ne (by omega), SCR_row hJ (x := 31) (by omega), s_ne (by omega), s_ne (by omega)]; exact hn
      · rw [s_ne (by omega), s_ne (by omega), SCR_m hJ (by omega), s_ne (by omega), s_ne (by omega)]; exact hk
      · rw [s_no (by omega), s_no (by omega), SCR_row hJ (x := 196) (by omega), s_no (by omega), s_no (by omega)]
        intro j hj
        have := gh.2.2.2.2.1 j (by omega)
        exact RC_out (hH j hj) (fun x x1 x2 => by rw [s_no (by omega), s_no (by omega), SCR_row hJ (by omega), s_no (by omega), s_no (by omega)])
      · unfold rP
        rw [s_no (b := 0) (by omega), s_no (b := 0) (by omega), SCR_row hJ (x := 0) (by omega), s_no (b := 0) (by omega), s_no (b := 0) (by omega), s_ne (b := 194) (j := 4) (by omega), s_ne (b := 194) (j := 4) (by omega), SCR_m hJ (j := 4) (by omega), s_ne (b := 194) (j := 4) (by omega), s_ne (b := 194) (j := 4) (by omega), s_no (b := 197) (by omega), s_no (b := 197) (by omega), SCR_row hJ (x := 197) (by omega), s_no (b := 197) (by omega), s_no (b := 197) (by omega)]
        rcases hP with q | ⟨q1, q2, q3⟩
        · exact Or.inl q
        · exact Or.inr ⟨q1, q2, RC_out q3 (fun x x1 x2 => by rw [s_no (by omega), s_no (by omega), SCR_row hJ (by omega), s_no (by omega), s_no (by omega)])⟩
      · rw [s_ne (by omega), s_ne (by omega), SCR_row hJ (x := 183) (by omega), s_eq]
      · rw [s_ne (b := 184) (by omega), s_ne (b := 184) (by omega), SCR_row hJ (x := 184) (by omega), s_ne (b := 184) (by omega), s_ne (b := 200) (by omega)]
        by_cases c : k = t
        · subst c; rw [s_eq, s_eq]; exact ⟨rfl, ch, hch, rfl⟩
        · rw [s_ne (by omega), s_ne (by omega), SCR_row hJ (x := 200) (by omega), s_ne (by omega), s_ne (by omega)]; exact t4 k (by omega)
end
section
/-! undo, keep, restore -/
set_option maxHeartbeats 8000000 in
theorem op_undo : OP 70 124 [] := by
  intro K R I hrel
  obtain ⟨f, n, g, hv, hn2, hn, hk, hH, hP, hT⟩ := id hrel
  have q4 := qTu_lt g hn2
  obtain ⟨gm, gs, -, gh, gw, gr, gr', ⟨a0, a1, a2, a3, a4, a5, a6, a7, a8⟩, ⟨b0, b1, b2⟩, cc0⟩ := id g
  have gs0 : K.2.2.1 1 = (1, 4) := gs.1
  have gs1 : R 1 0 = some 2 := gs.2.1
  have gs2 : K.2.2.1 2 = (4, 6) := gs.2.2.1
  have gs3 : R 1 1 = some 3 := gs.2.2.2.1
  have gs4 : zL K R 3 := gs.2.2.2.2.1
  have gW : ∀ s, s < 6 → zW K R (7 + 4 * s) := fun s hs => (gs.2.2.2.2.2.2 s hs).2
  have gR : ∀ s, s < 6 → R 2 s = some (7 + 4 * s) := fun s hs => (gs.2.2.2.2.2.2 s hs).1
  have gh0 := gh.1
  have gsl : K.2.2.1 3 = (1, 2) := gs4.1
  obtain ⟨m0, m1, m2, m3, m4, m5, m6, m7, m8, m9, m10, m11, m12, m13, m14⟩ := id gm
  have gT := zG_tu (n := n) g
  have gmt : zM K (RTu R n) := gT.1
  have gst : zS K (RTu R n) 1 := gT.2.1
  have gt1 : RTu R n 1 0 = some 2 := gst.2.1
  have gt3 : RTu R n 1 1 = some 3 := gst.2.2.2.1
  have gt4 : zL K (RTu R n) 3 := gst.2.2.2.2.1
  have gWt : ∀ s, s < 6 → zW K (RTu R n) (7 + 4 * s) := fun s hs => (gst.2.2.2.2.2.2 s hs).2
  have gRt : ∀ s, s < 6 → RTu R n 2 s = some (7 + 4 * s) := fun s hs => (gst.2.2.2.2.2.2 s hs).1
  obtain ⟨-, m1t, -⟩ := id gmt
  obtain ⟨-, a1t, a2t, a3t, a4t, a5t, a6t, a7t, a8t⟩ := gT.2.2.2.2.2.2.2.1
  by_cases e : n = 0
  · subst e
    refine ⟨-5, R, I, ?_, fun J hJ => ?_⟩
    · simp (disch := omega) only [e_iconst, e_bipush, e_sipush, e_iload_n, e_iload, e_aload_n, e_aload, e_istore_n, e_istore, e_astore_n, e_astore, e_iinc, e_iadd, e_isub, e_imul, e_iand, e_ishr, e_idiv, e_i2c, e_dup_i, e_dup_r, e_dup2, e_pop, e_goto, e_nop, e_if_eq, e_if_ne, e_if_lt, e_if_ge, e_if_gt, e_if_le, e_icmp_eq, e_icmp_ne, e_icmp_lt, e_icmp_ge, e_icmp_gt, e_icmp_le, e_tsw, e_ret0, e_ret1, e_retn, e_getI, e_getZ, e_getR, e_getV, e_getC, e_putI, e_putZ, e_putF, e_gst0, e_gst1, e_sld, e_iald, e_cald, e_bald, e_iast, e_cast, e_aald, e_aast, e_alen, e_slen, e_blen, e_newa, e_newq, e_new, e_oinit, e_ctor, e_virt, e_stat, e_min, e_copy, e_ldc, List.cons_append, List.nil_append, List.append_nil, List.length_cons, List.length_nil, List.replicate_succ, List.replicate_zero, List.getElem?_cons_zero, List.getElem?_cons_succ, List.set_cons_zero, List.set_cons_succ, List.take_succ_cons, List.take_zero, List.drop_succ_cons, List.drop_zero, List.reverse_cons, List.reverse_nil, Option.toList_some, Option.toList_none, Nat.reduceSub, Nat.reduceAdd, Nat.reduceLeDiff, true_and, and_true, and_self, Option.some.injEq, exists_eq_left', Nat.zero_add, Value.int.injEq, Value.ref.injEq, List.cons.injEq, exists_and_left, and_assoc, exists_eq_left, E_in 70, N_70, B_70_0, bk_70_0, a0, a1, a2, gh0, C_11, m_takeBack gh gs hn hn2 (fun q => absurd q (by omega)), o_eq, if_pos, if_neg, not_true_eq_false, not_false_eq_true, or_true, true_or, or_false, false_or, false_and, and_false, Nat.reduceEqDiff, Nat.reduceLT, Nat.reduceMul, Nat.not_lt_zero, Nat.zero_le, Nat.le_refl, ne_eq, reduceIte, reduceCtorEq]
    · have j2 : J 194 2 = nI 0 := by rw [SCR_m hJ (by omega)]; exact hk
      simp (disch := omega) only [e_iconst, e_bipush, e_sipush, e_iload_n, e_iload, e_aload_n, e_aload, e_istore_n, e_istore, e_astore_n, e_astore, e_iinc, e_iadd, e_isub, e_imul, e_iand, e_ishr, e_idiv, e_i2c, e_dup_i, e_dup_r, e_dup2, e_pop, e_goto, e_nop, e_if_eq, e_if_ne, e_if_lt, e_if_ge, e_if_gt, e_if_le, e_icmp_eq, e_icmp_ne, e_icmp_lt, e_icmp_ge, e_icmp_gt, e_icmp_le, e_tsw, e_ret0, e_ret1, e_retn, e_getI, e_getZ, e_getR, e_getV, e_getC, e_putI, e_putZ, e_putF, e_gst0, e_gst1, e_sld, e_iald, e_cald, e_bald, e_iast, e_cast, e_aald, e_aast, e_alen, e_slen, e_blen, e_newa, e_newq, e_new, e_oinit, e_ctor, e_virt, e_stat, e_min, e_copy, e_ldc, List.cons_append, List.nil_append, List.append_nil, List.length_cons, List.length_nil, List.replicate_succ, List.replicate_zero, List.getElem?_cons_zero, List.getElem?_cons_succ, List.set_cons_zero, List.set_cons_succ, List.take_succ_cons, List.take_zero, List.drop_succ_cons, List.drop_zero, List.reverse_cons, List.reverse_nil, Option.toList_some, Option.toList_none, Nat.reduceSub, Nat.reduceAdd, Nat.reduceLeDiff, true_and, and_true, and_self, Option.some.injEq, exists_eq_left', Nat.zero_add, Value.int.injEq, Value.ref.injEq, List.cons.injEq, exists_and_left, and_assoc, exists_eq_left, E_in 124, N_124, B_124_0, bk_124_0, m0, j2, o_eq_l, if_pos, if_neg, not_true_eq_false, not_false_eq_true, or_true, true_or, or_false, false_or, false_and, and_false, Nat.reduceEqDiff, Nat.reduceLT, Nat.reduceMul, Nat.not_lt_zero, Nat.zero_le, Nat.le_refl, ne_eq, reduceIte, reduceCtorEq]
      exact OPo_same hrel hJ
  · have z4 := gh.2.2.2.2.1 (n - 1) (by omega)
    refine ⟨nI (n - 1), R, sCp (mSet I 31 1 (nI (n - 1))) 1 (33 + 30 * f (n - 1)), ?_, fun J hJ => ?_⟩
    · have e1 : sCp (mSet I 31 1 (nI (n - 1))) 1 (33 + 30 * f (n - 1)) 31 1 = nI (n - 1) := by rw [sCp_o (by omega), s_eq]
      simp (disch := omega) only [e_iconst, e_bipush, e_sipush, e_iload_n, e_iload, e_aload_n, e_aload, e_istore_n, e_istore, e_astore_n, e_astore, e_iinc, e_iadd, e_isub, e_imul, e_iand, e_ishr, e_idiv, e_i2c, e_dup_i, e_dup_r, e_dup2, e_pop, e_goto, e_nop, e_if_eq, e_if_ne, e_if_lt, e_if_ge, e_if_gt, e_if_le, e_icmp_eq, e_icmp_ne, e_icmp_lt, e_icmp_ge, e_icmp_gt, e_icmp_le, e_tsw, e_ret0, e_ret1, e_retn, e_getI, e_getZ, e_getR, e_getV, e_getC, e_putI, e_putZ, e_putF, e_gst0, e_gst1, e_sld, e_iald, e_cald, e_bald, e_iast, e_cast, e_aald, e_aast, e_alen, e_slen, e_blen, e_newa, e_newq, e_new, e_oinit, e_ctor, e_virt, e_stat, e_min, e_copy, e_ldc, List.cons_append, List.nil_append, List.append_nil, List.length_cons, List.length_nil, List.replicate_succ, List.replicate_zero, List.getElem?_cons_zero, List.getElem?_cons_succ, List.set_cons_zero, List.set_cons_succ, List.take_succ_cons, List.take_zero, List.drop_succ_cons, List.drop_zero, List.reverse_cons, List.reverse_nil, Option.toList_some, Option.toList_none, Nat.reduceSub, Nat.reduceAdd, Nat.reduceLeDiff, true_and, and_true, and_self, Option.some.injEq, exists_eq_left', Nat.zero_add, Value.int.injEq, Value.ref.injEq, List.cons.injEq, exists_and_left, and_assoc, exists_eq_left, E_in 70, N_70, B_70_0, bk_70_0, B_70_17, bk_70_17, a0, a1, a2, gh0, e, C_11, m_takeBack gh gs hn hn2 (fun _ => RC_fl (hH (n - 1) (by omega))), o_eq, e1, if_pos, if_neg, not_true_eq_false, not_false_eq_true, or_true, true_or, or_false, false_or, false_and, and_false, Nat.reduceEqDiff, Nat.reduceLT, Nat.reduceMul, Nat.not_lt_zero, Nat.zero_le, Nat.le_refl, ne_eq, reduceIte, reduceCtorEq]
    · have j2 : J 194 2 = nI n := by rw [SCR_m hJ (by omega), sCp_o (by omega), s_ne (by omega)]; exact hk
      have j6 : J 196 = I 196 := by rw [SCR_row hJ (by omega)]; funext j; rw [sCp_o (by omega), s_ne (by omega)]
      simp (disch := omega) only [e_iconst, e_bipush, e_sipush, e_iload_n, e_iload, e_aload_n, e_aload, e_istore_n, e_istore, e_astore_n, e_astore, e_iinc, e_iadd, e_isub, e_imul, e_iand, e_ishr, e_idiv, e_i2c, e_dup_i, e_dup_r, e_dup2, e_pop, e_goto, e_nop, e_if_eq, e_if_ne, e_if_lt, e_if_ge, e_if_gt, e_if_le, e_icmp_eq, e_icmp_ne, e_icmp_lt, e_icmp_ge, e_icmp_gt, e_icmp_le, e_tsw, e_ret0, e_ret1, e_retn, e_getI, e_getZ, e_getR, e_getV, e_getC, e_putI, e_putZ, e_putF, e_gst0, e_gst1, e_sld, e_iald, e_cald, e_bald, e_iast, e_cast, e_aald, e_aast, e_alen, e_slen, e_blen, e_newa, e_newq, e_new, e_oinit, e_ctor, e_virt, e_stat, e_min, e_copy, e_ldc, List.cons_append, List.nil_append, List.append_nil, List.length_cons, List.length_nil, List.replicate_succ, List.replicate_zero, List.getElem?_cons_zero, List.getElem?_cons_succ, List.set_cons_zero, List.set_cons_succ, List.take_succ_cons, List.take_zero, List.drop_succ_cons, List.drop_zero, List.reverse_cons, List.reverse_nil, Option.toList_some, Option.toList_none, Nat.reduceSub, Nat.reduceAdd, Nat.reduceLeDiff, true_and, and_true, and_self, Option.some.injEq, exists_eq_left', Nat.zero_add, Value.int.injEq, Value.ref.injEq, List.cons.injEq, exists_and_left, and_assoc, exists_eq_left, E_in 124, N_124, B_124_0, bk_124_0, m0, j2, o_eq_l, e, B_124_10, bk_124_10, o_sub_l, if_pos, if_neg, not_true_eq_false, not_false_eq_true, or_true, true_or, or_false, false_or, false_and, and_false, Nat.reduceEqDiff, Nat.reduceLT, Nat.reduceMul, Nat.not_lt_zero, Nat.zero_le, Nat.le_refl, ne_eq, reduceIte, reduceCtorEq]
      have key := loop_dn (n := 626) (P := fun k => Ev 124 (mB 124 22) [.ref 194, .int (nI k)] [] (K, R, rSet (mSet J 194 2 (nI (n - 1))) 195 (fun x => if x < k then J 196 (626 * (n - 1) + x) else J 195 x)) (OPo K (nI (n - 1)))) ?_ ?_
      · refine Ev_cg ?_ rfl key
        funext x j
        simp only [rSet]
        by_cases c : x = 195
        · rw [if_pos c, if_neg (by omega), c, s_ne (by omega)]
        · rw [if_neg c]
      · intro k hk hnext
        have i2 : ∀ {w : Nat → Int32}, rSet (mSet J 194 2 (nI (n - 1))) 195 w 194 2 = nI (n - 1) := by intro w; rw [rSet_o (by omega), s_eq]
        have i6 : ∀ {w : Nat → Int32} {i : Nat}, rSet (mSet J 194 2 (nI (n - 1))) 195 w 196 i = J 196 i := by intro w i; rw [rSet_o (by omega), s_ne (by omega)]
        rw [B_124_22]
        simp (disch := omega) only [e_iconst, e_bipush, e_sipush, e_iload_n, e_iload, e_aload_n, e_aload, e_istore_n, e_istore, e_astore_n, e_astore, e_iinc, e_iadd, e_isub, e_imul, e_iand, e_ishr, e_idiv, e_i2c, e_dup_i, e_dup_r, e_dup2, e_pop, e_goto, e_nop, e_if_eq, e_if_ne, e_if_lt, e_if_ge, e_if_gt, e_if_le, e_icmp_eq, e_icmp_ne, e_icmp_lt, e_icmp_ge, e_icmp_gt, e_icmp_le, e_tsw, e_ret0, e_ret1, e_retn, e_getI, e_getZ, e_getR, e_getV, e_getC, e_putI, e_putZ, e_putF, e_gst0, e_gst1, e_sld, e_iald, e_cald, e_bald, e_iast, e_cast, e_aald, e_aast, e_alen, e_slen, e_blen, e_newa, e_newq, e_new, e_oinit, e_ctor, e_virt, e_stat, e_min, e_copy, e_ldc, List.cons_append, List.nil_append, List.append_nil, List.length_cons, List.length_nil, List.replicate_succ, List.replicate_zero, List.getElem?_cons_zero, List.getElem?_cons_succ, List.set_cons_zero, List.set_cons_succ, List.take_succ_cons, List.take_zero, List.drop_succ_cons, List.drop_zero, List.reverse_cons, List.reverse_nil, Option.toList_some, Option.toList_none, Nat.reduceSub, Nat.reduceAdd, Nat.reduceLeDiff, true_and, and_true, and_self, Option.some.injEq, exists_eq_left', Nat.zero_add, Value.int.injEq, Value.ref.injEq, List.cons.injEq, exists_and_left, and_assoc, exists_eq_left, bk_124_22, m0, m1, m2, m3, m4, o_le_r, if_neg, n_in, n_cl, o_add_l, o_mul_r, n_add, i2, i6, rs_m, if_pos, if_neg, not_true_eq_false, not_false_eq_true, or_true, true_or, or_false, false_or, false_and, and_false, Nat.reduceEqDiff, Nat.reduceLT, Nat.reduceMul, Nat.not_lt_zero, Nat.zero_le, Nat.le_refl, ne_eq, reduceIte, reduceCtorEq]
        refine Ev_cg ?_ rfl hnext
        congr 1
        funext x
        simp only [vU]
        by_cases c : x = k
        · subst c; rw [if_pos rfl, if_pos (by omega)]
        · rw [if_neg c]
          by_cases c2 : x < k
          · rw [if_pos c2, if_pos (by omega)]
          · rw [if_neg c2, if_neg (by omega)]
      · have i2 : ∀ {w : Nat → Int32}, rSet (mSet J 194 2 (nI (n - 1))) 195 w 194 2 = nI (n - 1) := by intro w; rw [rSet_o (by omega), s_eq]
        rw [B_124_22]
        simp (disch := omega) only [e_iconst, e_bipush, e_sipush, e_iload_n, e_iload, e_aload_n, e_aload, e_istore_n, e_istore, e_astore_n, e_astore, e_iinc, e_iadd, e_isub, e_imul, e_iand, e_ishr, e_idiv, e_i2c, e_dup_i, e_dup_r, e_dup2, e_pop, e_goto, e_nop, e_if_eq, e_if_ne, e_if_lt, e_if_ge, e_if_gt, e_if_le, e_icmp_eq, e_icmp_ne, e_icmp_lt, e_icmp_ge, e_icmp_gt, e_icmp_le, e_tsw, e_ret0, e_ret1, e_retn, e_getI, e_getZ, e_getR, e_getV, e_getC, e_putI, e_putZ, e_putF, e_gst0, e_gst1, e_sld, e_iald, e_cald, e_bald, e_iast, e_cast, e_aald, e_aast, e_alen, e_slen, e_blen, e_newa, e_newq, e_new, e_oinit, e_ctor, e_virt, e_stat, e_min, e_copy, e_ldc, List.cons_append, List.nil_append, List.append_nil, List.length_cons, List.length_nil, List.replicate_succ, List.replicate_zero, List.getElem?_cons_zero, List.getElem?_cons_succ, List.set_cons_zero, List.set_cons_succ, List.take_succ_cons, List.take_zero, List.drop_succ_cons, List.drop_zero, List.reverse_cons, List.reverse_nil, Option.toList_some, Option.toList_none, Nat.reduceSub, Nat.reduceAdd, Nat.reduceLeDiff, true_and, and_true, and_self, Option.some.injEq, exists_eq_left', Nat.zero_add, Value.int.injEq, Value.ref.injEq, List.cons.injEq, exists_and_left, and_assoc, exists_eq_left, bk_124_22, B_124_56, bk_124_56, m0, o_le_r, if_pos, Nat.le_refl, i2, if_pos, if_neg, not_true_eq_false, not_false_eq_true, or_true, true_or, or_false, false_or, false_and, and_false, Nat.reduceEqDiff, Nat.reduceLT, Nat.reduceMul, Nat.not_lt_zero, Nat.zero_le, Nat.le_refl, ne_eq, reduceIte, reduceCtorEq]
        have jo : ∀ x, x < 185 → ∀ w : Nat → Int32, rSet (mSet J 194 2 (nI (n - 1))) 195 w x = sCp (mSet I 31 1 (nI (n - 1))) 1 (33 + 30 * f (n - 1)) x := fun x hx w => by rw [rSet_o (by omega), s_no (by omega), SCR_row hJ (by omega)]
        have jp : ∀ x, 32 ≤ x → x < 185 → ∀ w : Nat → Int32, rSet (mSet J 194 2 (nI (n - 1))) 195 w x = I x := fun x hx0 hx w => by
          rw [jo x hx]; funext j; rw [sCp_o (by omega), s_ne (by omega)]
        refine ⟨rfl, _, _, rfl, f, n - 1, g, ?_, by omega, ?_, ?_, ?_, ?_, ?_⟩
        · rw [rSet_s]
          refine RC_cong (hH (n - 1) (by omega)) (fun d j hd hvd => ?_) (fun x hx => ?_)
          · rw [jo _ (by omega), sCp_in hd hvd, s_ne (by omega)]
          · show (if x < 626 then _ else _) = _
            rw [if_pos hx, j6]
        · rw [jo _ (by omega), sCp_o (by omega), s_eq]
        · rw [rSet_o (by omega), s_eq]
        · rw [rSet_o (x := 196) (by omega), s_no (by omega), j6]
          intro j hj
          have z5 := gh.2.2.2.2.1 j (by omega)
          exact RC_out (hH j (by omega)) (fun x x1 x2 => jp x (by omega) (by omega) _)
        · unfold rP
          rw [jo 0 (by omega), rSet_o (x := 194) (by omega), s_ne (b := 194) (j := 4) (by omega), SCR_m hJ (j := 4) (by omega), rSet_o (x := 197) (by omega), s_no (b := 197) (by omega), SCR_row hJ (x := 197) (by omega)]
          have k0 : sCp (mSet I 31 1 (nI (n - 1))) 1 (33 + 30 * f (n - 1)) 0 3 = I 0 3 := by rw [sCp_o (by omega), s_ne (by omega)]
          have k1 : sCp (mSet I 31 1 (nI (n - 1))) 1 (33 + 30 * f (n - 1)) 194 4 = I 194 4 := by rw [sCp_o (by omega), s_ne (by omega)]
          have k2 : sCp (mSet I 31 1 (nI (n - 1))) 1 (33 + 30 * f (n - 1)) 197 = I 197 := by funext j; rw [sCp_o (by omega), s_ne (by omega)]
          rw [k0, k1, k2]
          rcases hP with q | ⟨q1, q2, q3⟩
          · exact Or.inl q
          · exact Or.inr ⟨q1, q2, RC_out q3 (fun x x1 x2 => jp x (by omega) (by omega) _)⟩
        · obtain ⟨t, t1, t2, t3, t4⟩ := hT
          refine ⟨t, t1, ?_, ?_, fun k hk => ?_⟩
          · rw [jp _ (by omega) (by omega)]; exact t2
          · rw [rSet_o (by omega), s_ne (by omega), SCR_m hJ (by omega), sCp_o (by omega), s_ne (by omega)]; exact t3
          · rw [jp _ (by omega) (by omega), rSet_o (x := 200) (by omega), s_no (b := 200) (by omega), SCR_row hJ (x := 200) (by omega), sCp_o (by omega), s_ne (by omega)]; exact t4 k hk
set_option maxHeartbeats 8000000 in
theorem op_keep : OP 71 125 [] := by
  intro K R I hrel
  obtain ⟨f, n, g, hv, hn2, hn, hk, hH, hP, hT⟩ := id hrel
  have q4 := qTu_lt g hn2
  obtain ⟨gm, gs, -, gh, gw, gr, gr', ⟨a0, a1, a2, a3, a4, a5, a6, a7, a8⟩, ⟨b0, b1, b2⟩, cc0⟩ := id g
  have gs0 : K.2.2.1 1 = (1, 4) := gs.1
  have gs1 : R 1 0 = some 2 := gs.2.1
  have gs2 : K.2.2.1 2 = (4, 6) := gs.2.2.1
  have gs3 : R 1 1 = some 3 := gs.2.2.2.1
  have gs4 : zL K R 3 := gs.2.2.2.2.1
  have gW : ∀ s, s < 6 → zW K R (7 + 4 * s) := fun s hs => (gs.2.2.2.2.2.2 s hs).2
  have gR : ∀ s, s < 6 → R 2 s = some (7 + 4 * s) := fun s hs => (gs.2.2.2.2.2.2 s hs).1
  have gh0 := gh.1
  have gsl : K.2.2.1 3 = (1, 2) := gs4.1
  obtain ⟨m0, m1, m2, m3, m4, m5, m6, m7, m8, m9, m10, m11, m12, m13, m14⟩ := id gm
  have gT := zG_tu (n := n) g
  have gmt : zM K (RTu R n) := gT.1
  have gst : zS K (RTu R n) 1 := gT.2.1
  have gt1 : RTu R n 1 0 = some 2 := gst.2.1
  have gt3 : RTu R n 1 1 = some 3 := gst.2.2.2.1
  have gt4 : zL K (RTu R n) 3 := gst.2.2.2.2.1
  have gWt : ∀ s, s < 6 → zW K (RTu R n) (7 + 4 * s) := fun s hs => (gst.2.2.2.2.2.2 s hs).2
  have gRt : ∀ s, s < 6 → RTu R n 2 s = some (7 + 4 * s) := fun s hs => (gst.2.2.2.2.2.2 s hs).1
  obtain ⟨-, m1t, -⟩ := id gmt
  obtain ⟨-, a1t, a2t, a3t, a4t, a5t, a6t, a7t, a8t⟩ := gT.2.2.2.2.2.2.2.1
  have g3 : zS K R 153 := g.2.2.1
  have g30 := g3.1
  have ec := RC_cnt hv
  have e1 : ∀ s, s < 6 → sCp I 153 1 (1 + 6 + 4 * s) 3 = I (1 + 6 + 4 * s) 3 := fun s hs => sCp_o (by omega)
  have e2 : cnt (fun s => !(mSet (sCp I 153 1) 0 3 1 (1 + 6 + 4 * s) 3 == 0)) 6 = cnt (fun s => !(I 195 (98 * s) == 0)) 6 := by
    rw [← ec]
    exact cnt_cg 6 (fun s hs => by rw [s_ne (by omega), e1 s hs])
  refine ⟨nI (cnt (fun s => !(I 195 (98 * s) == 0)) 6), R, mSet (sCp I 153 1) 0 3 1, ?_, fun J hJ => ?_⟩
  · simp (disch := omega) only [e_iconst, e_bipush, e_sipush, e_iload_n, e_iload, e_aload_n, e_aload, e_istore_n, e_istore, e_astore_n, e_astore, e_iinc, e_iadd, e_isub, e_imul, e_iand, e_ishr, e_idiv, e_i2c, e_dup_i, e_dup_r, e_dup2, e_pop, e_goto, e_nop, e_if_eq, e_if_ne, e_if_lt, e_if_ge, e_if_gt, e_if_le, e_icmp_eq, e_icmp_ne, e_icmp_lt, e_icmp_ge, e_icmp_gt, e_icmp_le, e_tsw, e_ret0, e_ret1, e_retn, e_getI, e_getZ, e_getR, e_getV, e_getC, e_putI, e_putZ, e_putF, e_gst0, e_gst1, e_sld, e_iald, e_cald, e_bald, e_iast, e_cast, e_aald, e_aast, e_alen, e_slen, e_blen, e_newa, e_newq, e_new, e_oinit, e_ctor, e_virt, e_stat, e_min, e_copy, e_ldc, List.cons_append, List.nil_append, List.append_nil, List.length_cons, List.length_nil, List.replicate_succ, List.replicate_zero, List.getElem?_cons_zero, List.getElem?_cons_succ, List.set_cons_zero, List.set_cons_succ, List.take_succ_cons, List.take_zero, List.drop_succ_cons, List.drop_zero, List.reverse_cons, List.reverse_nil, Option.toList_some, Option.toList_none, Nat.reduceSub, Nat.reduceAdd, Nat.reduceLeDiff, true_and, and_true, and_self, Option.some.injEq, exists_eq_left', Nat.zero_add, Value.int.injEq, Value.ref.injEq, List.cons.injEq, exists_and_left, and_assoc, exists_eq_left, E_in 71, N_71, B_71_0, bk_71_0, a0, a1, a3, g30, gs0, C_25, C_26, m_scopy g3 gs (Or.inr (by omega)) (RC_fl hv), m_spools gs, e2, o_eq, if_pos, if_neg, not_true_eq_false, not_false_eq_true, or_true, true_or, or_false, false_or, false_and, and_false, Nat.reduceEqDiff, Nat.reduceLT, Nat.reduceMul, Nat.not_lt_zero, Nat.zero_le, Nat.le_refl, ne_eq, reduceIte, reduceCtorEq]
  · have j5 : J 195 = I 195 := by rw [SCR_row hJ (by omega), s_no (by omega)]; funext j; rw [sCp_o (by omega)]
    have jm : ∀ j, j < 9 → J 194 j = I 194 j := fun j hj => by rw [SCR_m hJ (by omega), s_ne (by omega), sCp_o (by omega)]
    rw [E_in 125]
    rw [B_125_0]
    simp (disch := omega) only [e_iconst, e_bipush, e_sipush, e_iload_n, e_iload, e_aload_n, e_aload, e_istore_n, e_istore, e_astore_n, e_astore, e_iinc, e_iadd, e_isub, e_imul, e_iand, e_ishr, e_idiv, e_i2c, e_dup_i, e_dup_r, e_dup2, e_pop, e_goto, e_nop, e_if_eq, e_if_ne, e_if_lt, e_if_ge, e_if_gt, e_if_le, e_icmp_eq, e_icmp_ne, e_icmp_lt, e_icmp_ge, e_icmp_gt, e_icmp_le, e_tsw, e_ret0, e_ret1, e_retn, e_getI, e_getZ, e_getR, e_getV, e_getC, e_putI, e_putZ, e_putF, e_gst0, e_gst1, e_sld, e_iald, e_cald, e_bald, e_iast, e_cast, e_aald, e_aast, e_alen, e_slen, e_blen, e_newa, e_newq, e_new, e_oinit, e_ctor, e_virt, e_stat, e_min, e_copy, e_ldc, List.cons_append, List.nil_append, List.append_nil, List.length_cons, List.length_nil, List.replicate_succ, List.replicate_zero, List.getElem?_cons_zero, List.getElem?_cons_succ, List.set_cons_zero, List.set_cons_succ, List.take_succ_cons, List.take_zero, List.drop_succ_cons, List.drop_zero, List.reverse_cons, List.reverse_nil, Option.toList_some, Option.toList_none, Nat.reduceSub, Nat.reduceAdd, Nat.reduceLeDiff, true_and, and_true, and_self, Option.some.injEq, exists_eq_left', Nat.zero_add, Value.int.injEq, Value.ref.injEq, List.cons.injEq, exists_and_left, and_assoc, exists_eq_left, N_125, bk_125_0, if_pos, if_neg, not_true_eq_false, not_false_eq_true, or_true, true_or, or_false, false_or, false_and, and_false, Nat.reduceEqDiff, Nat.reduceLT, Nat.reduceMul, Nat.not_lt_zero, Nat.zero_le, Nat.le_refl, ne_eq, reduceIte, reduceCtorEq]
    have key := loop_dn (n := 626) (P := fun k => Ev 125 (mB 125 2) [.ref 194, .int (nI k)] [] (K, R, rSet J 197 (fun x => if x < k then J 195 x else J 197 x)) (OPo K (nI (cnt (fun s => !(I 195 (98 * s) == 0)) 6)))) ?_ ?_
    · refine Ev_cg ?_ rfl key
      funext x j
      simp only [rSet]
      by_cases c : x = 197
      · rw [if_pos c, if_neg (by omega), c]
      · rw [if_neg c]
    · intro k hk hnext
      have i6 : ∀ {w : Nat → Int32} {i : Nat}, rSet J 197 w 195 i = J 195 i := by intro w i; rw [rSet_o (by omega)]
      rw [B_125_2]
      simp (disch := omega) only [e_iconst, e_bipush, e_sipush, e_iload_n, e_iload, e_aload_n, e_aload, e_istore_n, e_istore, e_astore_n, e_astore, e_iinc, e_iadd, e_isub, e_imul, e_iand, e_ishr, e_idiv, e_i2c, e_dup_i, e_dup_r, e_dup2, e_pop, e_goto, e_nop, e_if_eq, e_if_ne, e_if_lt, e_if_ge, e_if_gt, e_if_le, e_icmp_eq, e_icmp_ne, e_icmp_lt, e_icmp_ge, e_icmp_gt, e_icmp_le, e_tsw, e_ret0, e_ret1, e_retn, e_getI, e_getZ, e_getR, e_getV, e_getC, e_putI, e_putZ, e_putF, e_gst0, e_gst1, e_sld, e_iald, e_cald, e_bald, e_iast, e_cast, e_aald, e_aast, e_alen, e_slen, e_blen, e_newa, e_newq, e_new, e_oinit, e_ctor, e_virt, e_stat, e_min, e_copy, e_ldc, List.cons_append, List.nil_append, List.append_nil, List.length_cons, List.length_nil, List.replicate_succ, List.replicate_zero, List.getElem?_cons_zero, List.getElem?_cons_succ, List.set_cons_zero, List.set_cons_succ, List.take_succ_cons, List.take_zero, List.drop_succ_cons, List.drop_zero, List.reverse_cons, List.reverse_nil, Option.toList_some, Option.toList_none, Nat.reduceSub, Nat.reduceAdd, Nat.reduceLeDiff, true_and, and_true, and_self, Option.some.injEq, exists_eq_left', Nat.zero_add, Value.int.injEq, Value.ref.injEq, List.cons.injEq, exists_and_left, and_assoc, exists_eq_left, bk_125_2, m0, m1, m2, m5, m6, o_le_r, if_neg, n_in, n_cl, o_add_l, i6, rs_m, if_pos, if_neg, not_true_eq_false, not_false_eq_true, or_true, true_or, or_false, false_or, false_and, and_false, Nat.reduceEqDiff, Nat.reduceLT, Nat.reduceMul, Nat.not_lt_zero, Nat.zero_le, Nat.le_refl, ne_eq, reduceIte, reduceCtorEq]
      refine Ev_cg ?_ rfl hnext
      congr 1
      funext x
      simp only [vU]
      by_cases c : x = k
      · subst c; rw [if_pos rfl, if_pos (by omega)]
      · rw [if_neg c]
        by_cases c2 : x < k
        · rw [if_pos c2, if_pos (by omega)]
        · rw [if_neg c2, if_neg (by omega)]
    · have i6 : ∀ {w : Nat → Int32} {y : Int32} {i : Nat}, mSet (rSet J 197 w) 194 4 y 195 i = I 195 i := by intro w y i; rw [s_ne (by omega), rSet_o (by omega), j5]
      rw [B_125_2]
      simp (disch := omega) only [e_iconst, e_bipush, e_sipush, e_iload_n, e_iload, e_aload_n, e_aload, e_istore_n, e_istore, e_astore_n, e_astore, e_iinc, e_iadd, e_isub, e_imul, e_iand, e_ishr, e_idiv, e_i2c, e_dup_i, e_dup_r, e_dup2, e_pop, e_goto, e_nop, e_if_eq, e_if_ne, e_if_lt, e_if_ge, e_if_gt, e_if_le, e_icmp_eq, e_icmp_ne, e_icmp_lt, e_icmp_ge, e_icmp_gt, e_icmp_le, e_tsw, e_ret0, e_ret1, e_retn, e_getI, e_getZ, e_getR, e_getV, e_getC, e_putI, e_putZ, e_putF, e_gst0, e_gst1, e_sld, e_iald, e_cald, e_bald, e_iast, e_cast, e_aald, e_aast, e_alen, e_slen, e_blen, e_newa, e_newq, e_new, e_oinit, e_ctor, e_virt, e_stat, e_min, e_copy, e_ldc, List.cons_append, List.nil_append, List.append_nil, List.length_cons, List.length_nil, List.replicate_succ, List.replicate_zero, List.getElem?_cons_zero, List.getElem?_cons_succ, List.set_cons_zero, List.set_cons_succ, List.take_succ_cons, List.take_zero, List.drop_succ_cons, List.drop_zero, List.reverse_cons, List.reverse_nil, Option.toList_some, Option.toList_none, Nat.reduceSub, Nat.reduceAdd, Nat.reduceLeDiff, true_and, and_true, and_self, Option.some.injEq, exists_eq_left', Nat.zero_add, Value.int.injEq, Value.ref.injEq, List.cons.injEq, exists_and_left, and_assoc, exists_eq_left, bk_125_2, B_125_27, bk_125_27, m0, o_le_r, if_pos, Nat.le_refl, C_123, r_full gm, i6, o_eq, if_pos, if_neg, not_true_eq_false, not_false_eq_true, or_true, true_or, or_false, false_or, false_and, and_false, Nat.reduceEqDiff, Nat.reduceLT, Nat.reduceMul, Nat.not_lt_zero, Nat.zero_le, Nat.le_refl, ne_eq, reduceIte, reduceCtorEq]
      have jo : ∀ x, x < 185 → ∀ (w : Nat → Int32) (y : Int32), mSet (rSet J 197 w) 194 4 y x = mSet (sCp I 153 1) 0 3 1 x := fun x hx w y => by rw [s_no (by omega), rSet_o (by omega), SCR_row hJ (by omega)]
      have jp : ∀ x, 0 < x → x < 153 ∨ 183 ≤ x → x < 185 → ∀ (w : Nat → Int32) (y : Int32), mSet (rSet J 197 w) 194 4 y x = I x := fun x hx0 hx1 hx w y => by
        rw [jo x hx, s_no (by omega)]; funext j; rw [sCp_o (by omega)]
      refine ⟨rfl, _, _, rfl, f, n, g, ?_, hn2, ?_, ?_, ?_, ?_, ?_⟩
      · rw [s_no (b := 195) (by omega), rSet_o (x := 195) (by omega), j5]
        exact RC_out hv (fun x x1 x2 => jp x (by omega) (by omega) (by omega) _ _)
      · rw [jp _ (by omega) (by omega) (by omega)]; exact hn
      · rw [s_ne (by omega), rSet_o (by omega), jm _ (by omega)]; exact hk
      · rw [s_no (b := 196) (by omega), rSet_o (x := 196) (by omega), SCR_row hJ (x := 196) (by omega), s_no (b := 196) (by omega)]
        intro j hj
        have z5 := gh.2.2.2.2.1 j (by omega)
        refine RC_cong (hH j hj) (fun d i hd _ => by rw [jp _ (by omega) (by omega) (by omega)]) (fun x hx => ?_)
        show sCp I 153 1 196 _ = _
        rw [sCp_o (by omega)]
      · refine Or.inr ⟨?_, s_eq, ?_⟩
        · rw [jo _ (by omega), s_eq]
        · rw [s_no (b := 197) (by omega), rSet_s]
          refine RC_cong hv (fun d j hd hvd => ?_) (fun x hx => ?_)
          · rw [jo _ (by omega), s_ne (by omega), sCp_in hd hvd]
          · show (if x < 626 then _ else _) = _
            rw [if_pos hx, j5]
      · obtain ⟨t, t1, t2, t3, t4⟩ := hT
        refine ⟨t, t1, ?_, ?_, fun k hk => ?_⟩
        · rw [jp _ (by omega) (by omega) (by omega)]; exact t2
        · rw [s_ne (by omega), rSet_o (by omega), jm _ (by omega)]; exact t3
        · rw [jp _ (by omega) (by omega) (by omega), s_no (b := 200) (by omega), rSet_o (x := 200) (by omega), SCR_row hJ (x := 200) (by omega), s_no (b := 200) (by omega), sCp_o (by omega)]; exact t4 k hk
set_option maxHeartbeats 8000000 in
theorem op_restore : OP 72 126 [] := by
  intro K R I hrel
  obtain ⟨f, n, g, hv, hn2, hn, hk, hH, hP, hT⟩ := id hrel
  have q4 := qTu_lt g hn2
  obtain ⟨gm, gs, -, gh, gw, gr, gr', ⟨a0, a1, a2, a3, a4, a5, a6, a7, a8⟩, ⟨b0, b1, b2⟩, cc0⟩ := id g
  have gs0 : K.2.2.1 1 = (1, 4) := gs.1
  have gs1 : R 1 0 = some 2 := gs.2.1
  have gs2 : K.2.2.1 2 = (4, 6) := gs.2.2.1
  have gs3 : R 1 1 = some 3 := gs.2.2.2.1
  have gs4 : zL K R 3 := gs.2.2.2.2.1
  have gW : ∀ s, s < 6 → zW K R (7 + 4 * s) := fun s hs => (gs.2.2.2.2.2.2 s hs).2
  have gR : ∀ s, s < 6 → R 2 s = some (7 + 4 * s) := fun s hs => (gs.2.2.2.2.2.2 s hs).1
  have gh0 := gh.1
  have gsl : K.2.2.1 3 = (1, 2) := gs4.1
  obtain ⟨m0, m1, m2, m3, m4, m5, m6, m7, m8, m9, m10, m11, m12, m13, m14⟩ := id gm
  have gT := zG_tu (n := n) g
  have gmt : zM K (RTu R n) := gT.1
  have gst : zS K (RTu R n) 1 := gT.2.1
  have gt1 : RTu R n 1 0 = some 2 := gst.2.1
  have gt3 : RTu R n 1 1 = some 3 := gst.2.2.2.1
  have gt4 : zL K (RTu R n) 3 := gst.2.2.2.2.1
  have gWt : ∀ s, s < 6 → zW K (RTu R n) (7 + 4 * s) := fun s hs => (gst.2.2.2.2.2.2 s hs).2
  have gRt : ∀ s, s < 6 → RTu R n 2 s = some (7 + 4 * s) := fun s hs => (gst.2.2.2.2.2.2 s hs).1
  obtain ⟨-, m1t, -⟩ := id gmt
  obtain ⟨-, a1t, a2t, a3t, a4t, a5t, a6t, a7t, a8t⟩ := gT.2.2.2.2.2.2.2.1
  have g3 : zS K (RTu R n) 153 := gT.2.2.1
  rcases id hP with ⟨p1, p2⟩ | ⟨p1, p2, p3⟩
  · refine ⟨-5, R, I, ?_, fun J hJ => ?_⟩
    · simp (disch := omega) only [e_iconst, e_bipush, e_sipush, e_iload_n, e_iload, e_aload_n, e_aload, e_istore_n, e_istore, e_astore_n, e_astore, e_iinc, e_iadd, e_isub, e_imul, e_iand, e_ishr, e_idiv, e_i2c, e_dup_i, e_dup_r, e_dup2, e_pop, e_goto, e_nop, e_if_eq, e_if_ne, e_if_lt, e_if_ge, e_if_gt, e_if_le, e_icmp_eq, e_icmp_ne, e_icmp_lt, e_icmp_ge, e_icmp_gt, e_icmp_le, e_tsw, e_ret0, e_ret1, e_retn, e_getI, e_getZ, e_getR, e_getV, e_getC, e_putI, e_putZ, e_putF, e_gst0, e_gst1, e_sld, e_iald, e_cald, e_bald, e_iast, e_cast, e_aald, e_aast, e_alen, e_slen, e_blen, e_newa, e_newq, e_new, e_oinit, e_ctor, e_virt, e_stat, e_min, e_copy, e_ldc, List.cons_append, List.nil_append, List.append_nil, List.length_cons, List.length_nil, List.replicate_succ, List.replicate_zero, List.getElem?_cons_zero, List.getElem?_cons_succ, List.set_cons_zero, List.set_cons_succ, List.take_succ_cons, List.take_zero, List.drop_succ_cons, List.drop_zero, List.reverse_cons, List.reverse_nil, Option.toList_some, Option.toList_none, Nat.reduceSub, Nat.reduceAdd, Nat.reduceLeDiff, true_and, and_true, and_self, Option.some.injEq, exists_eq_left', Nat.zero_add, Value.int.injEq, Value.ref.injEq, List.cons.injEq, exists_and_left, and_assoc, exists_eq_left, E_in 72, N_72, B_72_0, bk_72_0, a0, p1, if_pos, if_neg, not_true_eq_false, not_false_eq_true, or_true, true_or, or_false, false_or, false_and, and_false, Nat.reduceEqDiff, Nat.reduceLT, Nat.reduceMul, Nat.not_lt_zero, Nat.zero_le, Nat.le_refl, ne_eq, reduceIte, reduceCtorEq]
    · have j4 : J 194 4 = 0 := by rw [SCR_m hJ (by omega)]; exact p2
      simp (disch := omega) only [e_iconst, e_bipush, e_sipush, e_iload_n, e_iload, e_aload_n, e_aload, e_istore_n, e_istore, e_astore_n, e_astore, e_iinc, e_iadd, e_isub, e_imul, e_iand, e_ishr, e_idiv, e_i2c, e_dup_i, e_dup_r, e_dup2, e_pop, e_goto, e_nop, e_if_eq, e_if_ne, e_if_lt, e_if_ge, e_if_gt, e_if_le, e_icmp_eq, e_icmp_ne, e_icmp_lt, e_icmp_ge, e_icmp_gt, e_icmp_le, e_tsw, e_ret0, e_ret1, e_retn, e_getI, e_getZ, e_getR, e_getV, e_getC, e_putI, e_putZ, e_putF, e_gst0, e_gst1, e_sld, e_iald, e_cald, e_bald, e_iast, e_cast, e_aald, e_aast, e_alen, e_slen, e_blen, e_newa, e_newq, e_new, e_oinit, e_ctor, e_virt, e_stat, e_min, e_copy, e_ldc, List.cons_append, List.nil_append, List.append_nil, List.length_cons, List.length_nil, List.replicate_succ, List.replicate_zero, List.getElem?_cons_zero, List.getElem?_cons_succ, List.set_cons_zero, List.set_cons_succ, List.take_succ_cons, List.take_zero, List.drop_succ_cons, List.drop_zero, List.reverse_cons, List.reverse_nil, Option.toList_some, Option.toList_none, Nat.reduceSub, Nat.reduceAdd, Nat.reduceLeDiff, true_and, and_true, and_self, Option.some.injEq, exists_eq_left', Nat.zero_add, Value.int.injEq, Value.ref.injEq, List.cons.injEq, exists_and_left, and_assoc, exists_eq_left, E_in 126, N_126, B_126_0, bk_126_0, m0, j4, if_pos, if_neg, not_true_eq_false, not_false_eq_true, or_true, true_or, or_false, false_or, false_and, and_false, Nat.reduceEqDiff, Nat.reduceLT, Nat.reduceMul, Nat.not_lt_zero, Nat.zero_le, Nat.le_refl, ne_eq, reduceIte, reduceCtorEq]
      exact OPo_same hrel hJ
  · have p3' : RC (hRm I (qTu f n) n) 153 (I 197) := RC_out p3 (fun x x1 x2 => hRm_w (by omega) (by omega))
    have e2 : cnt (fun s => !(sCp (hRm I (qTu f n) n) 1 153 (1 + 6 + 4 * s) 3 == 0)) 6 = cnt (fun s => !(I 197 (98 * s) == 0)) 6 := by
      rw [← RC_cnt p3']
      exact cnt_cg 6 (fun s hs => by rw [show 1 + 6 + 4 * s = 1 + (6 + 4 * s) by omega, sCp_in (by omega) (Or.inr (Or.inr (Or.inr (Or.inl ⟨by omega, by omega, by omega, by omega, by omega⟩)))), show 153 + (6 + 4 * s) = 153 + 6 + 4 * s by omega])
    have so : ∀ x, x = 0 ∨ 31 ≤ x → sCp (hRm I (qTu f n) n) 1 153 x = hRm I (qTu f n) n x := fun x hx => by funext j; rw [sCp_o (by omega)]
    refine ⟨nI (cnt (fun s => !(I 197 (98 * s) == 0)) 6), RTu R n, sCp (hRm I (qTu f n) n) 1 153, ?_, fun J hJ => ?_⟩
    · simp (disch := omega) only [e_iconst, e_bipush, e_sipush, e_iload_n, e_iload, e_aload_n, e_aload, e_istore_n, e_istore, e_astore_n, e_astore, e_iinc, e_iadd, e_isub, e_imul, e_iand, e_ishr, e_idiv, e_i2c, e_dup_i, e_dup_r, e_dup2, e_pop, e_goto, e_nop, e_if_eq, e_if_ne, e_if_lt, e_if_ge, e_if_gt, e_if_le, e_icmp_eq, e_icmp_ne, e_icmp_lt, e_icmp_ge, e_icmp_gt, e_icmp_le, e_tsw, e_ret0, e_ret1, e_retn, e_getI, e_getZ, e_getR, e_getV, e_getC, e_putI, e_putZ, e_putF, e_gst0, e_gst1, e_sld, e_iald, e_cald, e_bald, e_iast, e_cast, e_aald, e_aast, e_alen, e_slen, e_blen, e_newa, e_newq, e_new, e_oinit, e_ctor, e_virt, e_stat, e_min, e_copy, e_ldc, List.cons_append, List.nil_append, List.append_nil, List.length_cons, List.length_nil, List.replicate_succ, List.replicate_zero, List.getElem?_cons_zero, List.getElem?_cons_succ, List.set_cons_zero, List.set_cons_succ, List.take_succ_cons, List.take_zero, List.drop_succ_cons, List.drop_zero, List.reverse_cons, List.reverse_nil, Option.toList_some, Option.toList_none, Nat.reduceSub, Nat.reduceAdd, Nat.reduceLeDiff, true_and, and_true, and_self, Option.some.injEq, exists_eq_left', Nat.zero_add, Value.int.injEq, Value.ref.injEq, List.cons.injEq, exists_and_left, and_assoc, exists_eq_left, E_in 72, N_72, B_72_0, bk_72_0, a0, p1, o_eq, B_72_10, bk_72_10, if_pos, if_neg, not_true_eq_false, not_false_eq_true, or_true, true_or, or_false, false_or, false_and, and_false, Nat.reduceEqDiff, Nat.reduceLT, Nat.reduceMul, Nat.not_lt_zero, Nat.zero_le, Nat.le_refl, ne_eq, reduceIte, reduceCtorEq]
      simp (disch := omega) only [e_iconst, e_bipush, e_sipush, e_iload_n, e_iload, e_aload_n, e_aload, e_istore_n, e_istore, e_astore_n, e_astore, e_iinc, e_iadd, e_isub, e_imul, e_iand, e_ishr, e_idiv, e_i2c, e_dup_i, e_dup_r, e_dup2, e_pop, e_goto, e_nop, e_if_eq, e_if_ne, e_if_lt, e_if_ge, e_if_gt, e_if_le, e_icmp_eq, e_icmp_ne, e_icmp_lt, e_icmp_ge, e_icmp_gt, e_icmp_le, e_tsw, e_ret0, e_ret1, e_retn, e_getI, e_getZ, e_getR, e_getV, e_getC, e_putI, e_putZ, e_putF, e_gst0, e_gst1, e_sld, e_iald, e_cald, e_bald, e_iast, e_cast, e_aald, e_aast, e_alen, e_slen, e_blen, e_newa, e_newq, e_new, e_oinit, e_ctor, e_virt, e_stat, e_min, e_copy, e_ldc, List.cons_append, List.nil_append, List.append_nil, List.length_cons, List.length_nil, List.replicate_succ, List.replicate_zero, List.getElem?_cons_zero, List.getElem?_cons_succ, List.set_cons_zero, List.set_cons_succ, List.take_succ_cons, List.take_zero, List.drop_succ_cons, List.drop_zero, List.reverse_cons, List.reverse_nil, Option.toList_some, Option.toList_none, Nat.reduceSub, Nat.reduceAdd, Nat.reduceLeDiff, true_and, and_true, and_self, Option.some.injEq, exists_eq_left', Nat.zero_add, Value.int.injEq, Value.ref.injEq, List.cons.injEq, exists_and_left, and_assoc, exists_eq_left, a0, a1, a2, a1t, a3t, gs0, gh0, C_9, C_25, C_26, a_remember g hv hn hn2, m_scopy gst g3 (Or.inl (by omega)) (RC_fl p3'), m_spools gst, e2, if_pos, if_neg, not_true_eq_false, not_false_eq_true, or_true, true_or, or_false, false_or, false_and, and_false, Nat.reduceEqDiff, Nat.reduceLT, Nat.reduceMul, Nat.not_lt_zero, Nat.zero_le, Nat.le_refl, ne_eq, reduceIte, reduceCtorEq]
    · have j4 : J 194 4 = 1 := by rw [SCR_m hJ (by omega), so 194 (by omega), hRm_o (by omega) (by omega)]; exact p2
      have j2 : J 194 2 = nI n := by rw [SCR_m hJ (by omega), so 194 (by omega), hRm_o (by omega) (by omega)]; exact hk
      have j7 : J 197 = I 197 := by rw [SCR_row hJ (by omega), so 197 (by omega), hRm_w (by omega) (by omega)]
      simp (disch := omega) only [e_iconst, e_bipush, e_sipush, e_iload_n, e_iload, e_aload_n, e_aload, e_istore_n, e_istore, e_astore_n, e_astore, e_iinc, e_iadd, e_isub, e_imul, e_iand, e_ishr, e_idiv, e_i2c, e_dup_i, e_dup_r, e_dup2, e_pop, e_goto, e_nop, e_if_eq, e_if_ne, e_if_lt, e_if_ge, e_if_gt, e_if_le, e_icmp_eq, e_icmp_ne, e_icmp_lt, e_icmp_ge, e_icmp_gt, e_icmp_le, e_tsw, e_ret0, e_ret1, e_retn, e_getI, e_getZ, e_getR, e_getV, e_getC, e_putI, e_putZ, e_putF, e_gst0, e_gst1, e_sld, e_iald, e_cald, e_bald, e_iast, e_cast, e_aald, e_aast, e_alen, e_slen, e_blen, e_newa, e_newq, e_new, e_oinit, e_ctor, e_virt, e_stat, e_min, e_copy, e_ldc, List.cons_append, List.nil_append, List.append_nil, List.length_cons, List.length_nil, List.replicate_succ, List.replicate_zero, List.getElem?_cons_zero, List.getElem?_cons_succ, List.set_cons_zero, List.set_cons_succ, List.take_succ_cons, List.take_zero, List.drop_succ_cons, List.drop_zero, List.reverse_cons, List.reverse_nil, Option.toList_some, Option.toList_none, Nat.reduceSub, Nat.reduceAdd, Nat.reduceLeDiff, true_and, and_true, and_self, Option.some.injEq, exists_eq_left', Nat.zero_add, Value.int.injEq, Value.ref.injEq, List.cons.injEq, exists_and_left, and_assoc, exists_eq_left, E_in 126, N_126, B_126_0, bk_126_0, m0, j4, o_eq, if_pos, if_neg, not_true_eq_false, not_false_eq_true, or_true, true_or, or_false, false_or, false_and, and_false, Nat.reduceEqDiff, Nat.reduceLT, Nat.reduceMul, Nat.not_lt_zero, Nat.zero_le, Nat.le_refl, ne_eq, reduceIte, reduceCtorEq]
      rw [B_126_10]
      simp (disch := omega) only [e_iconst, e_bipush, e_sipush, e_iload_n, e_iload, e_aload_n, e_aload, e_istore_n, e_istore, e_astore_n, e_astore, e_iinc, e_iadd, e_isub, e_imul, e_iand, e_ishr, e_idiv, e_i2c, e_dup_i, e_dup_r, e_dup2, e_pop, e_goto, e_nop, e_if_eq, e_if_ne, e_if_lt, e_if_ge, e_if_gt, e_if_le, e_icmp_eq, e_icmp_ne, e_icmp_lt, e_icmp_ge, e_icmp_gt, e_icmp_le, e_tsw, e_ret0, e_ret1, e_retn, e_getI, e_getZ, e_getR, e_getV, e_getC, e_putI, e_putZ, e_putF, e_gst0, e_gst1, e_sld, e_iald, e_cald, e_bald, e_iast, e_cast, e_aald, e_aast, e_alen, e_slen, e_blen, e_newa, e_newq, e_new, e_oinit, e_ctor, e_virt, e_stat, e_min, e_copy, e_ldc, List.cons_append, List.nil_append, List.append_nil, List.length_cons, List.length_nil, List.replicate_succ, List.replicate_zero, List.getElem?_cons_zero, List.getElem?_cons_succ, List.set_cons_zero, List.set_cons_succ, List.take_succ_cons, List.take_zero, List.drop_succ_cons, List.drop_zero, List.reverse_cons, List.reverse_nil, Option.toList_some, Option.toList_none, Nat.reduceSub, Nat.reduceAdd, Nat.reduceLeDiff, true_and, and_true, and_self, Option.some.injEq, exists_eq_left', Nat.zero_add, Value.int.injEq, Value.ref.injEq, List.cons.injEq, exists_and_left, and_assoc, exists_eq_left, bk_126_10, m0, C_95, r_record gmt j2 hn2, if_pos, if_neg, not_true_eq_false, not_false_eq_true, or_true, true_or, or_false, false_or, false_and, and_false, Nat.reduceEqDiff, Nat.reduceLT, Nat.reduceMul, Nat.not_lt_zero, Nat.zero_le, Nat.le_refl, ne_eq, reduceIte, reduceCtorEq]
      have key := loop_dn (n := 626) (P := fun k => Ev 126 (mB 126 16) [.ref 194, .int (nI k)] [] (K, RTu R n, rSet (rRec J n) 195 (fun x => if x < k then J 197 x else J 195 x)) (OPo K (nI (cnt (fun s => !(I 197 (98 * s) == 0)) 6)))) ?_ ?_
      · refine Ev_cg ?_ rfl key
        funext x j
        simp only [rSet]
        by_cases c : x = 195
        · rw [if_pos c, if_neg (by omega), c, rRec_o (by omega)]
        · rw [if_neg c]
      · intro k hk hnext
        have i6 : ∀ {w : Nat → Int32} {i : Nat}, rSet (rRec J n) 195 w 197 i = J 197 i := by intro w i; rw [rSet_o (by omega), rRec_o (by omega)]
        have m5t := gmt.2.2.2.2.2.1
        rw [B_126_16]
        simp (disch := omega) only [e_iconst, e_bipush, e_sipush, e_iload_n, e_iload, e_aload_n, e_aload, e_istore_n, e_istore, e_astore_n, e_astore, e_iinc, e_iadd, e_isub, e_imul, e_iand, e_ishr, e_idiv, e_i2c, e_dup_i, e_dup_r, e_dup2, e_pop, e_goto, e_nop, e_if_eq, e_if_ne, e_if_lt, e_if_ge, e_if_gt, e_if_le, e_icmp_eq, e_icmp_ne, e_icmp_lt, e_icmp_ge, e_icmp_gt, e_icmp_le, e_tsw, e_ret0, e_ret1, e_retn, e_getI, e_getZ, e_getR, e_getV, e_getC, e_putI, e_putZ, e_putF, e_gst0, e_gst1, e_sld, e_iald, e_cald, e_bald, e_iast, e_cast, e_aald, e_aast, e_alen, e_slen, e_blen, e_newa, e_newq, e_new, e_oinit, e_ctor, e_virt, e_stat, e_min, e_copy, e_ldc, List.cons_append, List.nil_append, List.append_nil, List.length_cons, List.length_nil, List.replicate_succ, List.replicate_zero, List.getElem?_cons_zero, List.getElem?_cons_succ, List.set_cons_zero, List.set_cons_succ, List.take_succ_cons, List.take_zero, List.drop_succ_cons, List.drop_zero, List.reverse_cons, List.reverse_nil, Option.toList_some, Option.toList_none, Nat.reduceSub, Nat.reduceAdd, Nat.reduceLeDiff, true_and, and_true, and_self, Option.some.injEq, exists_eq_left', Nat.zero_add, Value.int.injEq, Value.ref.injEq, List.cons.injEq, exists_and_left, and_assoc, exists_eq_left, bk_126_16, m0, m1t, m2, m5t, m6, o_le_r, if_neg, n_in, n_cl, o_add_l, i6, rs_m, if_pos, if_neg, not_true_eq_false, not_false_eq_true, or_true, true_or, or_false, false_or, false_and, and_false, Nat.reduceEqDiff, Nat.reduceLT, Nat.reduceMul, Nat.not_lt_zero, Nat.zero_le, Nat.le_refl, ne_eq, reduceIte, reduceCtorEq]
        refine Ev_cg ?_ rfl hnext
        congr 1
        funext x
        simp only [vU]
        by_cases c : x = k
        · subst c; rw [if_pos rfl, if_pos (by omega)]
        · rw [if_neg c]
          by_cases c2 : x < k
          · rw [if_pos c2, if_pos (by omega)]
          · rw [if_neg c2, if_neg (by omega)]
      · rw [B_126_16]
        have e3 : cnt (fun s => !(rSet (rRec J n) 195 (fun x => if x < 626 then J 197 x else J 195 x) 195 (98 * s) == 0)) 6 = cnt (fun s => !(I 197 (98 * s) == 0)) 6 :=
          cnt_cg 6 (fun s hs => by rw [rSet_s, if_pos (by omega), j7])
        simp (disch := omega) only [e_iconst, e_bipush, e_sipush, e_iload_n, e_iload, e_aload_n, e_aload, e_istore_n, e_istore, e_astore_n, e_astore, e_iinc, e_iadd, e_isub, e_imul, e_iand, e_ishr, e_idiv, e_i2c, e_dup_i, e_dup_r, e_dup2, e_pop, e_goto, e_nop, e_if_eq, e_if_ne, e_if_lt, e_if_ge, e_if_gt, e_if_le, e_icmp_eq, e_icmp_ne, e_icmp_lt, e_icmp_ge, e_icmp_gt, e_icmp_le, e_tsw, e_ret0, e_ret1, e_retn, e_getI, e_getZ, e_getR, e_getV, e_getC, e_putI, e_putZ, e_putF, e_gst0, e_gst1, e_sld, e_iald, e_cald, e_bald, e_iast, e_cast, e_aald, e_aast, e_alen, e_slen, e_blen, e_newa, e_newq, e_new, e_oinit, e_ctor, e_virt, e_stat, e_min, e_copy, e_ldc, List.cons_append, List.nil_append, List.append_nil, List.length_cons, List.length_nil, List.replicate_succ, List.replicate_zero, List.getElem?_cons_zero, List.getElem?_cons_succ, List.set_cons_zero, List.set_cons_succ, List.take_succ_cons, List.take_zero, List.drop_succ_cons, List.drop_zero, List.reverse_cons, List.reverse_nil, Option.toList_some, Option.toList_none, Nat.reduceSub, Nat.reduceAdd, Nat.reduceLeDiff, true_and, and_true, and_self, Option.some.injEq, exists_eq_left', Nat.zero_add, Value.int.injEq, Value.ref.injEq, List.cons.injEq, exists_and_left, and_assoc, exists_eq_left, bk_126_16, B_126_41, bk_126_41, m0, o_le_r, if_pos, Nat.le_refl, C_123, r_full gmt, e3, if_pos, if_neg, not_true_eq_false, not_false_eq_true, or_true, true_or, or_false, false_or, false_and, and_false, Nat.reduceEqDiff, Nat.reduceLT, Nat.reduceMul, Nat.not_lt_zero, Nat.zero_le, Nat.le_refl, ne_eq, reduceIte, reduceCtorEq]
        exact OPo_act g hv hn2 hH hP hT (fun x x1 x2 => so x (by omega)) (by rw [so 0 (by omega), hRm_w (by omega) (by omega)]) (fun x hx => by rw [so x (by omega), hRm_w (by omega) (by omega)])
          (RC_cong p3' (fun d j hd hvd => sCp_in hd hvd) (fun x hx => by
            show (if x < 626 then _ else _) = _
            rw [if_pos hx, j7])) hJ
end
section
/-! close -/
theorem okG_n {n : Nat} (h : 2000 ≤ n) (h2 : n ≤ 9000) : okG (nI n) (nI n) := ⟨n, n, rfl, rfl, h, h2, Nat.le_refl _, by omega⟩
theorem okG_5 : okG 5000 5000 := okG_n (n := 5000) (by omega) (by omega)
theorem hRm_l {I : Nat → Nat → Int32} {q n x : Nat} (h : x < 31) : hRm I q n x = I x := hRm_w (by omega) (by omega)
set_option maxHeartbeats 8000000 in
theorem op_close (x : Int32) : OP 64 106 [.int x] := by
  intro K R I hrel
  obtain ⟨f, n, g, hv, hn2, hn, hk, hH, hP, hT⟩ := id hrel
  have q4 := qTu_lt g hn2
  obtain ⟨gm, gs, -, gh, gw, gr, gr', ⟨a0, a1, a2, a3, a4, a5, a6, a7, a8⟩, ⟨b0, b1, b2⟩, cc0⟩ := id g
  have gs0 : K.2.2.1 1 = (1, 4) := gs.1
  have gs1 : R 1 0 = some 2 := gs.2.1
  have gs2 : K.2.2.1 2 = (4, 6) := gs.2.2.1
  have gs3 : R 1 1 = some 3 := gs.2.2.2.1
  have gs4 : zL K R 3 := gs.2.2.2.2.1
  have gW : ∀ s, s < 6 → zW K R (7 + 4 * s) := fun s hs => (gs.2.2.2.2.2.2 s hs).2
  have gR : ∀ s, s < 6 → R 2 s = some (7 + 4 * s) := fun s hs => (gs.2.2.2.2.2.2 s hs).1
  have gh0 := gh.1
  have gsl : K.2.2.1 3 = (1, 2) := gs4.1
  obtain ⟨m0, m1, m2, m3, m4, m5, m6, m7, m8, m9, m10, m11, m12, m13, m14⟩ := id gm
  have gT := zG_tu (n := n) g
  have gmt : zM K (RTu R n) := gT.1
  have gst : zS K (RTu R n) 1 := gT.2.1
  have gt1 : RTu R n 1 0 = some 2 := gst.2.1
  have gt3 : RTu R n 1 1 = some 3 := gst.2.2.2.1
  have gt4 : zL K (RTu R n) 3 := gst.2.2.2.2.1
  have gWt : ∀ s, s < 6 → zW K (RTu R n) (7 + 4 * s) := fun s hs => (gst.2.2.2.2.2.2 s hs).2
  have gRt : ∀ s, s < 6 → RTu R n 2 s = some (7 + 4 * s) := fun s hs => (gst.2.2.2.2.2.2 s hs).1
  obtain ⟨-, m1t, -⟩ := id gmt
  obtain ⟨-, a1t, a2t, a3t, a4t, a5t, a6t, a7t, a8t⟩ := gT.2.2.2.2.2.2.2.1
  rcases sp_cases x (n := 6) (by omega) with ⟨s, hs, rfl⟩ | q
  · obtain ⟨p, cl, c, hw⟩ := hv.1 s hs
    rw [show 1 + 6 + 4 * s = 7 + 4 * s by omega] at hw
    obtain ⟨wf, vf, k0, k1, k2, k3, k4, k5⟩ := id hw
    obtain ⟨f1, f2, f3, f4, f5, f6⟩ := id wf
    obtain ⟨v1, v2, v3, -⟩ := id vf
    have zw := gW s hs
    have zwt := gWt s hs
    have rw := gR s hs
    have rwt := gRt s hs
    have zw0 : K.2.2.1 (7 + 4 * s) = (1, 6) := zw.1
    obtain ⟨e2, e3, e4, e5, e6, e7, e8, e9, e10, ln, l1, l2, l3, l4⟩ := id hv.2
    rcases (show p = 0 ∨ p = 1 by omega) with rfl | rfl
    · refine ⟨-4, R, I, ?_, fun J hJ => ?_⟩
      · simp (disch := omega) only [e_iconst, e_bipush, e_sipush, e_iload_n, e_iload, e_aload_n, e_aload, e_istore_n, e_istore, e_astore_n, e_astore, e_iinc, e_iadd, e_isub, e_imul, e_iand, e_ishr, e_idiv, e_i2c, e_dup_i, e_dup_r, e_dup2, e_pop, e_goto, e_nop, e_if_eq, e_if_ne, e_if_lt, e_if_ge, e_if_gt, e_if_le, e_icmp_eq, e_icmp_ne, e_icmp_lt, e_icmp_ge, e_icmp_gt, e_icmp_le, e_tsw, e_ret0, e_ret1, e_retn, e_getI, e_getZ, e_getR, e_getV, e_getC, e_putI, e_putZ, e_putF, e_gst0, e_gst1, e_sld, e_iald, e_cald, e_bald, e_iast, e_cast, e_aald, e_aast, e_alen, e_slen, e_blen, e_newa, e_newq, e_new, e_oinit, e_ctor, e_virt, e_stat, e_min, e_copy, e_ldc, List.cons_append, List.nil_append, List.append_nil, List.length_cons, List.length_nil, List.replicate_succ, List.replicate_zero, List.getElem?_cons_zero, List.getElem?_cons_succ, List.set_cons_zero, List.set_cons_succ, List.take_succ_cons, List.take_zero, List.drop_succ_cons, List.drop_zero, List.reverse_cons, List.reverse_nil, Option.toList_some, Option.toList_none, Nat.reduceSub, Nat.reduceAdd, Nat.reduceLeDiff, true_and, and_true, and_self, Option.some.injEq, exists_eq_left', Nat.zero_add, Value.int.injEq, Value.ref.injEq, List.cons.injEq, exists_and_left, and_assoc, exists_eq_left, E_in 64, N_64, B_64_0, bk_64_0, C_82, m_isSp hs, o_eq, if_pos, if_neg, not_true_eq_false, not_false_eq_true, or_true, true_or, or_false, false_or, false_and, and_false, Nat.reduceEqDiff, Nat.reduceLT, Nat.reduceMul, Nat.not_lt_zero, Nat.zero_le, Nat.le_refl, ne_eq, reduceIte, reduceCtorEq]
        simp (disch := omega) only [e_iconst, e_bipush, e_sipush, e_iload_n, e_iload, e_aload_n, e_aload, e_istore_n, e_istore, e_astore_n, e_astore, e_iinc, e_iadd, e_isub, e_imul, e_iand, e_ishr, e_idiv, e_i2c, e_dup_i, e_dup_r, e_dup2, e_pop, e_goto, e_nop, e_if_eq, e_if_ne, e_if_lt, e_if_ge, e_if_gt, e_if_le, e_icmp_eq, e_icmp_ne, e_icmp_lt, e_icmp_ge, e_icmp_gt, e_icmp_le, e_tsw, e_ret0, e_ret1, e_retn, e_getI, e_getZ, e_getR, e_getV, e_getC, e_putI, e_putZ, e_putF, e_gst0, e_gst1, e_sld, e_iald, e_cald, e_bald, e_iast, e_cast, e_aald, e_aast, e_alen, e_slen, e_blen, e_newa, e_newq, e_new, e_oinit, e_ctor, e_virt, e_stat, e_min, e_copy, e_ldc, List.cons_append, List.nil_append, List.append_nil, List.length_cons, List.length_nil, List.replicate_succ, List.replicate_zero, List.getElem?_cons_zero, List.getElem?_cons_succ, List.set_cons_zero, List.set_cons_succ, List.take_succ_cons, List.take_zero, List.drop_succ_cons, List.drop_zero, List.reverse_cons, List.reverse_nil, Option.toList_some, Option.toList_none, Nat.reduceSub, Nat.reduceAdd, Nat.reduceLeDiff, true_and, and_true, and_self, Option.some.injEq, exists_eq_left', Nat.zero_add, Value.int.injEq, Value.ref.injEq, List.cons.injEq, exists_and_left, and_assoc, exists_eq_left, B_64_9, bk_64_9, a0, a1, gs0, gs1, gs2, zw0, rw, n_in, n_cl, true_or, or_true, f1, o_eq_l, if_pos, if_neg, not_true_eq_false, not_false_eq_true, or_true, true_or, or_false, false_or, false_and, and_false, Nat.reduceEqDiff, Nat.reduceLT, Nat.reduceMul, Nat.not_lt_zero, Nat.zero_le, Nat.le_refl, ne_eq, reduceIte, reduceCtorEq]
      · have j5 : J 195 = I 195 := SCR_row hJ (by omega)
        simp (disch := omega) only [e_iconst, e_bipush, e_sipush, e_iload_n, e_iload, e_aload_n, e_aload, e_istore_n, e_istore, e_astore_n, e_astore, e_iinc, e_iadd, e_isub, e_imul, e_iand, e_ishr, e_idiv, e_i2c, e_dup_i, e_dup_r, e_dup2, e_pop, e_goto, e_nop, e_if_eq, e_if_ne, e_if_lt, e_if_ge, e_if_gt, e_if_le, e_icmp_eq, e_icmp_ne, e_icmp_lt, e_icmp_ge, e_icmp_gt, e_icmp_le, e_tsw, e_ret0, e_ret1, e_retn, e_getI, e_getZ, e_getR, e_getV, e_getC, e_putI, e_putZ, e_putF, e_gst0, e_gst1, e_sld, e_iald, e_cald, e_bald, e_iast, e_cast, e_aald, e_aast, e_alen, e_slen, e_blen, e_newa, e_newq, e_new, e_oinit, e_ctor, e_virt, e_stat, e_min, e_copy, e_ldc, List.cons_append, List.nil_append, List.append_nil, List.length_cons, List.length_nil, List.replicate_succ, List.replicate_zero, List.getElem?_cons_zero, List.getElem?_cons_succ, List.set_cons_zero, List.set_cons_succ, List.take_succ_cons, List.take_zero, List.drop_succ_cons, List.drop_zero, List.reverse_cons, List.reverse_nil, Option.toList_some, Option.toList_none, Nat.reduceSub, Nat.reduceAdd, Nat.reduceLeDiff, true_and, and_true, and_self, Option.some.injEq, exists_eq_left', Nat.zero_add, Value.int.injEq, Value.ref.injEq, List.cons.injEq, exists_and_left, and_assoc, exists_eq_left, E_in 106, N_106, B_106_0, bk_106_0, C_90, r_isSp hs, o_eq, if_pos, if_neg, not_true_eq_false, not_false_eq_true, or_true, true_or, or_false, false_or, false_and, and_false, Nat.reduceEqDiff, Nat.reduceLT, Nat.reduceMul, Nat.not_lt_zero, Nat.zero_le, Nat.le_refl, ne_eq, reduceIte, reduceCtorEq]
        simp (disch := omega) only [e_iconst, e_bipush, e_sipush, e_iload_n, e_iload, e_aload_n, e_aload, e_istore_n, e_istore, e_astore_n, e_astore, e_iinc, e_iadd, e_isub, e_imul, e_iand, e_ishr, e_idiv, e_i2c, e_dup_i, e_dup_r, e_dup2, e_pop, e_goto, e_nop, e_if_eq, e_if_ne, e_if_lt, e_if_ge, e_if_gt, e_if_le, e_icmp_eq, e_icmp_ne, e_icmp_lt, e_icmp_ge, e_icmp_gt, e_icmp_le, e_tsw, e_ret0, e_ret1, e_retn, e_getI, e_getZ, e_getR, e_getV, e_getC, e_putI, e_putZ, e_putF, e_gst0, e_gst1, e_sld, e_iald, e_cald, e_bald, e_iast, e_cast, e_aald, e_aast, e_alen, e_slen, e_blen, e_newa, e_newq, e_new, e_oinit, e_ctor, e_virt, e_stat, e_min, e_copy, e_ldc, List.cons_append, List.nil_append, List.append_nil, List.length_cons, List.length_nil, List.replicate_succ, List.replicate_zero, List.getElem?_cons_zero, List.getElem?_cons_succ, List.set_cons_zero, List.set_cons_succ, List.take_succ_cons, List.take_zero, List.drop_succ_cons, List.drop_zero, List.reverse_cons, List.reverse_nil, Option.toList_some, Option.toList_none, Nat.reduceSub, Nat.reduceAdd, Nat.reduceLeDiff, true_and, and_true, and_self, Option.some.injEq, exists_eq_left', Nat.zero_add, Value.int.injEq, Value.ref.injEq, List.cons.injEq, exists_and_left, and_assoc, exists_eq_left, B_106_9, bk_106_9, m0, C_93, r_isEmpty gm hs, j5, v1, o_eq_l, o_eq, if_pos, if_neg, not_true_eq_false, not_false_eq_true, or_true, true_or, or_false, false_or, false_and, and_false, Nat.reduceEqDiff, Nat.reduceLT, Nat.reduceMul, Nat.not_lt_zero, Nat.zero_le, Nat.le_refl, ne_eq, reduceIte, reduceCtorEq]
        exact OPo_same hrel hJ
    rcases (show cl = 1 ∨ cl = 0 by omega) with rfl | rfl
    · refine ⟨-5, R, I, ?_, fun J hJ => ?_⟩
      · simp (disch := omega) only [e_iconst, e_bipush, e_sipush, e_iload_n, e_iload, e_aload_n, e_aload, e_istore_n, e_istore, e_astore_n, e_astore, e_iinc, e_iadd, e_isub, e_imul, e_iand, e_ishr, e_idiv, e_i2c, e_dup_i, e_dup_r, e_dup2, e_pop, e_goto, e_nop, e_if_eq, e_if_ne, e_if_lt, e_if_ge, e_if_gt, e_if_le, e_icmp_eq, e_icmp_ne, e_icmp_lt, e_icmp_ge, e_icmp_gt, e_icmp_le, e_tsw, e_ret0, e_ret1, e_retn, e_getI, e_getZ, e_getR, e_getV, e_getC, e_putI, e_putZ, e_putF, e_gst0, e_gst1, e_sld, e_iald, e_cald, e_bald, e_iast, e_cast, e_aald, e_aast, e_alen, e_slen, e_blen, e_newa, e_newq, e_new, e_oinit, e_ctor, e_virt, e_stat, e_min, e_copy, e_ldc, List.cons_append, List.nil_append, List.append_nil, List.length_cons, List.length_nil, List.replicate_succ, List.replicate_zero, List.getElem?_cons_zero, List.getElem?_cons_succ, List.set_cons_zero, List.set_cons_succ, List.take_succ_cons, List.take_zero, List.drop_succ_cons, List.drop_zero, List.reverse_cons, List.reverse_nil, Option.toList_some, Option.toList_none, Nat.reduceSub, Nat.reduceAdd, Nat.reduceLeDiff, true_and, and_true, and_self, Option.some.injEq, exists_eq_left', Nat.zero_add, Value.int.injEq, Value.ref.injEq, List.cons.injEq, exists_and_left, and_assoc, exists_eq_left, E_in 64, N_64, B_64_0, bk_64_0, C_82, m_isSp hs, o_eq, if_pos, if_neg, not_true_eq_false, not_false_eq_true, or_true, true_or, or_false, false_or, false_and, and_false, Nat.reduceEqDiff, Nat.reduceLT, Nat.reduceMul, Nat.not_lt_zero, Nat.zero_le, Nat.le_refl, ne_eq, reduceIte, reduceCtorEq]
        simp (disch := omega) only [e_iconst, e_bipush, e_sipush, e_iload_n, e_iload, e_aload_n, e_aload, e_istore_n, e_istore, e_astore_n, e_astore, e_iinc, e_iadd, e_isub, e_imul, e_iand, e_ishr, e_idiv, e_i2c, e_dup_i, e_dup_r, e_dup2, e_pop, e_goto, e_nop, e_if_eq, e_if_ne, e_if_lt, e_if_ge, e_if_gt, e_if_le, e_icmp_eq, e_icmp_ne, e_icmp_lt, e_icmp_ge, e_icmp_gt, e_icmp_le, e_tsw, e_ret0, e_ret1, e_retn, e_getI, e_getZ, e_getR, e_getV, e_getC, e_putI, e_putZ, e_putF, e_gst0, e_gst1, e_sld, e_iald, e_cald, e_bald, e_iast, e_cast, e_aald, e_aast, e_alen, e_slen, e_blen, e_newa, e_newq, e_new, e_oinit, e_ctor, e_virt, e_stat, e_min, e_copy, e_ldc, List.cons_append, List.nil_append, List.append_nil, List.length_cons, List.length_nil, List.replicate_succ, List.replicate_zero, List.getElem?_cons_zero, List.getElem?_cons_succ, List.set_cons_zero, List.set_cons_succ, List.take_succ_cons, List.take_zero, List.drop_succ_cons, List.drop_zero, List.reverse_cons, List.reverse_nil, Option.toList_some, Option.toList_none, Nat.reduceSub, Nat.reduceAdd, Nat.reduceLeDiff, true_and, and_true, and_self, Option.some.injEq, exists_eq_left', Nat.zero_add, Value.int.injEq, Value.ref.injEq, List.cons.injEq, exists_and_left, and_assoc, exists_eq_left, B_64_9, bk_64_9, B_64_29, bk_64_29, a0, a1, gs0, gs1, gs2, zw0, rw, n_in, n_cl, true_or, or_true, f1, f2, o_eq_l, if_pos, if_neg, if_pos, if_neg, not_true_eq_false, not_false_eq_true, or_true, true_or, or_false, false_or, false_and, and_false, Nat.reduceEqDiff, Nat.reduceLT, Nat.reduceMul, Nat.not_lt_zero, Nat.zero_le, Nat.le_refl, ne_eq, reduceIte, reduceCtorEq]
      · have j5 : J 195 = I 195 := SCR_row hJ (by omega)
        simp (disch := omega) only [e_iconst, e_bipush, e_sipush, e_iload_n, e_iload, e_aload_n, e_aload, e_istore_n, e_istore, e_astore_n, e_astore, e_iinc, e_iadd, e_isub, e_imul, e_iand, e_ishr, e_idiv, e_i2c, e_dup_i, e_dup_r, e_dup2, e_pop, e_goto, e_nop, e_if_eq, e_if_ne, e_if_lt, e_if_ge, e_if_gt, e_if_le, e_icmp_eq, e_icmp_ne, e_icmp_lt, e_icmp_ge, e_icmp_gt, e_icmp_le, e_tsw, e_ret0, e_ret1, e_retn, e_getI, e_getZ, e_getR, e_getV, e_getC, e_putI, e_putZ, e_putF, e_gst0, e_gst1, e_sld, e_iald, e_cald, e_bald, e_iast, e_cast, e_aald, e_aast, e_alen, e_slen, e_blen, e_newa, e_newq, e_new, e_oinit, e_ctor, e_virt, e_stat, e_min, e_copy, e_ldc, List.cons_append, List.nil_append, List.append_nil, List.length_cons, List.length_nil, List.replicate_succ, List.replicate_zero, List.getElem?_cons_zero, List.getElem?_cons_succ, List.set_cons_zero, List.set_cons_succ, List.take_succ_cons, List.take_zero, List.drop_succ_cons, List.drop_zero, List.reverse_cons, List.reverse_nil, Option.toList_some, Option.toList_none, Nat.reduceSub, Nat.reduceAdd, Nat.reduceLeDiff, true_and, and_true, and_self, Option.some.injEq, exists_eq_left', Nat.zero_add, Value.int.injEq, Value.ref.injEq, List.cons.injEq, exists_and_left, and_assoc, exists_eq_left, E_in 106, N_106, B_106_0, bk_106_0, C_90, r_isSp hs, o_eq, if_pos, if_neg, not_true_eq_false, not_false_eq_true, or_true, true_or, or_false, false_or, false_and, and_false, Nat.reduceEqDiff, Nat.reduceLT, Nat.reduceMul, Nat.not_lt_zero, Nat.zero_le, Nat.le_refl, ne_eq, reduceIte, reduceCtorEq]
        simp (disch := omega) only [e_iconst, e_bipush, e_sipush, e_iload_n, e_iload, e_aload_n, e_aload, e_istore_n, e_istore, e_astore_n, e_astore, e_iinc, e_iadd, e_isub, e_imul, e_iand, e_ishr, e_idiv, e_i2c, e_dup_i, e_dup_r, e_dup2, e_pop, e_goto, e_nop, e_if_eq, e_if_ne, e_if_lt, e_if_ge, e_if_gt, e_if_le, e_icmp_eq, e_icmp_ne, e_icmp_lt, e_icmp_ge, e_icmp_gt, e_icmp_le, e_tsw, e_ret0, e_ret1, e_retn, e_getI, e_getZ, e_getR, e_getV, e_getC, e_putI, e_putZ, e_putF, e_gst0, e_gst1, e_sld, e_iald, e_cald, e_bald, e_iast, e_cast, e_aald, e_aast, e_alen, e_slen, e_blen, e_newa, e_newq, e_new, e_oinit, e_ctor, e_virt, e_stat, e_min, e_copy, e_ldc, List.cons_append, List.nil_append, List.append_nil, List.length_cons, List.length_nil, List.replicate_succ, List.replicate_zero, List.getElem?_cons_zero, List.getElem?_cons_succ, List.set_cons_zero, List.set_cons_succ, List.take_succ_cons, List.take_zero, List.drop_succ_cons, List.drop_zero, List.reverse_cons, List.reverse_nil, Option.toList_some, Option.toList_none, Nat.reduceSub, Nat.reduceAdd, Nat.reduceLeDiff, true_and, and_true, and_self, Option.some.injEq, exists_eq_left', Nat.zero_add, Value.int.injEq, Value.ref.injEq, List.cons.injEq, exists_and_left, and_assoc, exists_eq_left, B_106_9, bk_106_9, B_106_20, bk_106_20, m0, C_93, C_91, r_isEmpty gm hs, r_ofL gm hs, j5, v1, v2, o_eq_l, o_eq, if_neg, if_pos, if_pos, if_neg, not_true_eq_false, not_false_eq_true, or_true, true_or, or_false, false_or, false_and, and_false, Nat.reduceEqDiff, Nat.reduceLT, Nat.reduceMul, Nat.not_lt_zero, Nat.zero_le, Nat.le_refl, ne_eq, reduceIte, reduceCtorEq]
        exact OPo_same hrel hJ
    · refine ⟨nI c, RTu R n, lAd (mSet (mSet (mSet (mSet (mSet (hRm I (qTu f n) n) (7 + 4 * s) 4 1) (7 + 4 * s + 1) (c + 1) 5000) (7 + 4 * s + 2) (c + 1) 5000) (7 + 4 * s + 3) (c + 1) (-1)) 1 5 (I 195 591 + 5000)) 3 ln 5 (nI s) (nI c), ?_, fun J hJ => ?_⟩
      · simp (disch := omega) only [e_iconst, e_bipush, e_sipush, e_iload_n, e_iload, e_aload_n, e_aload, e_istore_n, e_istore, e_astore_n, e_astore, e_iinc, e_iadd, e_isub, e_imul, e_iand, e_ishr, e_idiv, e_i2c, e_dup_i, e_dup_r, e_dup2, e_pop, e_goto, e_nop, e_if_eq, e_if_ne, e_if_lt, e_if_ge, e_if_gt, e_if_le, e_icmp_eq, e_icmp_ne, e_icmp_lt, e_icmp_ge, e_icmp_gt, e_icmp_le, e_tsw, e_ret0, e_ret1, e_retn, e_getI, e_getZ, e_getR, e_getV, e_getC, e_putI, e_putZ, e_putF, e_gst0, e_gst1, e_sld, e_iald, e_cald, e_bald, e_iast, e_cast, e_aald, e_aast, e_alen, e_slen, e_blen, e_newa, e_newq, e_new, e_oinit, e_ctor, e_virt, e_stat, e_min, e_copy, e_ldc, List.cons_append, List.nil_append, List.append_nil, List.length_cons, List.length_nil, List.replicate_succ, List.replicate_zero, List.getElem?_cons_zero, List.getElem?_cons_succ, List.set_cons_zero, List.set_cons_succ, List.take_succ_cons, List.take_zero, List.drop_succ_cons, List.drop_zero, List.reverse_cons, List.reverse_nil, Option.toList_some, Option.toList_none, Nat.reduceSub, Nat.reduceAdd, Nat.reduceLeDiff, true_and, and_true, and_self, Option.some.injEq, exists_eq_left', Nat.zero_add, Value.int.injEq, Value.ref.injEq, List.cons.injEq, exists_and_left, and_assoc, exists_eq_left, E_in 64, N_64, B_64_0, bk_64_0, C_82, m_isSp hs, o_eq, if_pos, if_neg, not_true_eq_false, not_false_eq_true, or_true, true_or, or_false, false_or, false_and, and_false, Nat.reduceEqDiff, Nat.reduceLT, Nat.reduceMul, Nat.not_lt_zero, Nat.zero_le, Nat.le_refl, ne_eq, reduceIte, reduceCtorEq]
        simp (disch := omega) only [e_iconst, e_bipush, e_sipush, e_iload_n, e_iload, e_aload_n, e_aload, e_istore_n, e_istore, e_astore_n, e_astore, e_iinc, e_iadd, e_isub, e_imul, e_iand, e_ishr, e_idiv, e_i2c, e_dup_i, e_dup_r, e_dup2, e_pop, e_goto, e_nop, e_if_eq, e_if_ne, e_if_lt, e_if_ge, e_if_gt, e_if_le, e_icmp_eq, e_icmp_ne, e_icmp_lt, e_icmp_ge, e_icmp_gt, e_icmp_le, e_tsw, e_ret0, e_ret1, e_retn, e_getI, e_getZ, e_getR, e_getV, e_getC, e_putI, e_putZ, e_putF, e_gst0, e_gst1, e_sld, e_iald, e_cald, e_bald, e_iast, e_cast, e_aald, e_aast, e_alen, e_slen, e_blen, e_newa, e_newq, e_new, e_oinit, e_ctor, e_virt, e_stat, e_min, e_copy, e_ldc, List.cons_append, List.nil_append, List.append_nil, List.length_cons, List.length_nil, List.replicate_succ, List.replicate_zero, List.getElem?_cons_zero, List.getElem?_cons_succ, List.set_cons_zero, List.set_cons_succ, List.take_succ_cons, List.take_zero, List.drop_succ_cons, List.drop_zero, List.reverse_cons, List.reverse_nil, Option.toList_some, Option.toList_none, Nat.reduceSub, Nat.reduceAdd, Nat.reduceLeDiff, true_and, and_true, and_self, Option.some.injEq, exists_eq_left', Nat.zero_add, Value.int.injEq, Value.ref.injEq, List.cons.injEq, exists_and_left, and_assoc, exists_eq_left, B_64_9, bk_64_9, B_64_29, bk_64_29, a0, a1, gs0, gs1, gs2, zw0, rw, n_in, n_cl, true_or, or_true, f1, f2, o_eq_l, if_pos, if_neg, if_pos, if_neg, not_true_eq_false, not_false_eq_true, or_true, true_or, or_false, false_or, false_and, and_false, Nat.reduceEqDiff, Nat.reduceLT, Nat.reduceMul, Nat.not_lt_zero, Nat.zero_le, Nat.le_refl, ne_eq, reduceIte, reduceCtorEq]
        rw [B_64_39]
        simp (disch := omega) only [e_iconst, e_bipush, e_sipush, e_iload_n, e_iload, e_aload_n, e_aload, e_istore_n, e_istore, e_astore_n, e_astore, e_iinc, e_iadd, e_isub, e_imul, e_iand, e_ishr, e_idiv, e_i2c, e_dup_i, e_dup_r, e_dup2, e_pop, e_goto, e_nop, e_if_eq, e_if_ne, e_if_lt, e_if_ge, e_if_gt, e_if_le, e_icmp_eq, e_icmp_ne, e_icmp_lt, e_icmp_ge, e_icmp_gt, e_icmp_le, e_tsw, e_ret0, e_ret1, e_retn, e_getI, e_getZ, e_getR, e_getV, e_getC, e_putI, e_putZ, e_putF, e_gst0, e_gst1, e_sld, e_iald, e_cald, e_bald, e_iast, e_cast, e_aald, e_aast, e_alen, e_slen, e_blen, e_newa, e_newq, e_new, e_oinit, e_ctor, e_virt, e_stat, e_min, e_copy, e_ldc, List.cons_append, List.nil_append, List.append_nil, List.length_cons, List.length_nil, List.replicate_succ, List.replicate_zero, List.getElem?_cons_zero, List.getElem?_cons_succ, List.set_cons_zero, List.set_cons_succ, List.take_succ_cons, List.take_zero, List.drop_succ_cons, List.drop_zero, List.reverse_cons, List.reverse_nil, Option.toList_some, Option.toList_none, Nat.reduceSub, Nat.reduceAdd, Nat.reduceLeDiff, true_and, and_true, and_self, Option.some.injEq, exists_eq_left', Nat.zero_add, Value.int.injEq, Value.ref.injEq, List.cons.injEq, exists_and_left, and_assoc, exists_eq_left, bk_64_39, a0, a1, a2, a1t, gs0, gh0, C_9, a_remember g hv hn hn2, if_pos, if_neg, not_true_eq_false, not_false_eq_true, or_true, true_or, or_false, false_or, false_and, and_false, Nat.reduceEqDiff, Nat.reduceLT, Nat.reduceMul, Nat.not_lt_zero, Nat.zero_le, Nat.le_refl, ne_eq, reduceIte, reduceCtorEq]
        simp (disch := omega) only [e_iconst, e_bipush, e_sipush, e_iload_n, e_iload, e_aload_n, e_aload, e_istore_n, e_istore, e_astore_n, e_astore, e_iinc, e_iadd, e_isub, e_imul, e_iand, e_ishr, e_idiv, e_i2c, e_dup_i, e_dup_r, e_dup2, e_pop, e_goto, e_nop, e_if_eq, e_if_ne, e_if_lt, e_if_ge, e_if_gt, e_if_le, e_icmp_eq, e_icmp_ne, e_icmp_lt, e_icmp_ge, e_icmp_gt, e_icmp_le, e_tsw, e_ret0, e_ret1, e_retn, e_getI, e_getZ, e_getR, e_getV, e_getC, e_putI, e_putZ, e_putF, e_gst0, e_gst1, e_sld, e_iald, e_cald, e_bald, e_iast, e_cast, e_aald, e_aast, e_alen, e_slen, e_blen, e_newa, e_newq, e_new, e_oinit, e_ctor, e_virt, e_stat, e_min, e_copy, e_ldc, List.cons_append, List.nil_append, List.append_nil, List.length_cons, List.length_nil, List.replicate_succ, List.replicate_zero, List.getElem?_cons_zero, List.getElem?_cons_succ, List.set_cons_zero, List.set_cons_succ, List.take_succ_cons, List.take_zero, List.drop_succ_cons, List.drop_zero, List.reverse_cons, List.reverse_nil, Option.toList_some, Option.toList_none, Nat.reduceSub, Nat.reduceAdd, Nat.reduceLeDiff, true_and, and_true, and_self, Option.some.injEq, exists_eq_left', Nat.zero_add, Value.int.injEq, Value.ref.injEq, List.cons.injEq, exists_and_left, and_assoc, exists_eq_left, C_44, m_putEnd zwt (show hRm I (qTu f n) n (7 + 4 * s) 5 = nI c by rw [hRm_l (by omega)]; exact f3) f6, a0, a1t, gs0, zw0, gt3, gsl, C_14, s_ne, hRm_o, e5, f3, if_pos, if_neg, not_true_eq_false, not_false_eq_true, or_true, true_or, or_false, false_or, false_and, and_false, Nat.reduceEqDiff, Nat.reduceLT, Nat.reduceMul, Nat.not_lt_zero, Nat.zero_le, Nat.le_refl, ne_eq, reduceIte, reduceCtorEq]
        rw [m_logAdd gt4 (n := ln) ?_ l1]
        · simp (disch := omega) only [e_iconst, e_bipush, e_sipush, e_iload_n, e_iload, e_aload_n, e_aload, e_istore_n, e_istore, e_astore_n, e_astore, e_iinc, e_iadd, e_isub, e_imul, e_iand, e_ishr, e_idiv, e_i2c, e_dup_i, e_dup_r, e_dup2, e_pop, e_goto, e_nop, e_if_eq, e_if_ne, e_if_lt, e_if_ge, e_if_gt, e_if_le, e_icmp_eq, e_icmp_ne, e_icmp_lt, e_icmp_ge, e_icmp_gt, e_icmp_le, e_tsw, e_ret0, e_ret1, e_retn, e_getI, e_getZ, e_getR, e_getV, e_getC, e_putI, e_putZ, e_putF, e_gst0, e_gst1, e_sld, e_iald, e_cald, e_bald, e_iast, e_cast, e_aald, e_aast, e_alen, e_slen, e_blen, e_newa, e_newq, e_new, e_oinit, e_ctor, e_virt, e_stat, e_min, e_copy, e_ldc, List.cons_append, List.nil_append, List.append_nil, List.length_cons, List.length_nil, List.replicate_succ, List.replicate_zero, List.getElem?_cons_zero, List.getElem?_cons_succ, List.set_cons_zero, List.set_cons_succ, List.take_succ_cons, List.take_zero, List.drop_succ_cons, List.drop_zero, List.reverse_cons, List.reverse_nil, Option.toList_some, Option.toList_none, Nat.reduceSub, Nat.reduceAdd, Nat.reduceLeDiff, true_and, and_true, and_self, Option.some.injEq, exists_eq_left', Nat.zero_add, Value.int.injEq, Value.ref.injEq, List.cons.injEq, exists_and_left, and_assoc, exists_eq_left, zw0, s_ne, lAd_o, hRm_o, f3, if_pos, if_neg, not_true_eq_false, not_false_eq_true, or_true, true_or, or_false, false_or, false_and, and_false, Nat.reduceEqDiff, Nat.reduceLT, Nat.reduceMul, Nat.not_lt_zero, Nat.zero_le, Nat.le_refl, ne_eq, reduceIte, reduceCtorEq]
        · simp (disch := omega) only [s_ne, hRm_o]; exact l2
      · have j5 : J 195 = I 195 := by rw [SCR_row hJ (by omega)]; funext j; simp (disch := omega) only [lAd_o, s_ne, hRm_o]
        have j2 : J 194 2 = nI n := by rw [SCR_m hJ (by omega)]; simp (disch := omega) only [lAd_o, s_ne, hRm_o]; exact hk
        have jr : rRec J n 195 = I 195 := by rw [rRec_o (by omega)]; exact j5
        simp (disch := omega) only [e_iconst, e_bipush, e_sipush, e_iload_n, e_iload, e_aload_n, e_aload, e_istore_n, e_istore, e_astore_n, e_astore, e_iinc, e_iadd, e_isub, e_imul, e_iand, e_ishr, e_idiv, e_i2c, e_dup_i, e_dup_r, e_dup2, e_pop, e_goto, e_nop, e_if_eq, e_if_ne, e_if_lt, e_if_ge, e_if_gt, e_if_le, e_icmp_eq, e_icmp_ne, e_icmp_lt, e_icmp_ge, e_icmp_gt, e_icmp_le, e_tsw, e_ret0, e_ret1, e_retn, e_getI, e_getZ, e_getR, e_getV, e_getC, e_putI, e_putZ, e_putF, e_gst0, e_gst1, e_sld, e_iald, e_cald, e_bald, e_iast, e_cast, e_aald, e_aast, e_alen, e_slen, e_blen, e_newa, e_newq, e_new, e_oinit, e_ctor, e_virt, e_stat, e_min, e_copy, e_ldc, List.cons_append, List.nil_append, List.append_nil, List.length_cons, List.length_nil, List.replicate_succ, List.replicate_zero, List.getElem?_cons_zero, List.getElem?_cons_succ, List.set_cons_zero, List.set_cons_succ, List.take_succ_cons, List.take_zero, List.drop_succ_cons, List.drop_zero, List.reverse_cons, List.reverse_nil, Option.toList_some, Option.toList_none, Nat.reduceSub, Nat.reduceAdd, Nat.reduceLeDiff, true_and, and_true, and_self, Option.some.injEq, exists_eq_left', Nat.zero_add, Value.int.injEq, Value.ref.injEq, List.cons.injEq, exists_and_left, and_assoc, exists_eq_left, E_in 106, N_106, B_106_0, bk_106_0, C_90, r_isSp hs, o_eq, if_pos, if_neg, not_true_eq_false, not_false_eq_true, or_true, true_or, or_false, false_or, false_and, and_false, Nat.reduceEqDiff, Nat.reduceLT, Nat.reduceMul, Nat.not_lt_zero, Nat.zero_le, Nat.le_refl, ne_eq, reduceIte, reduceCtorEq]
        simp (disch := omega) only [e_iconst, e_bipush, e_sipush, e_iload_n, e_iload, e_aload_n, e_aload, e_istore_n, e_istore, e_astore_n, e_astore, e_iinc, e_iadd, e_isub, e_imul, e_iand, e_ishr, e_idiv, e_i2c, e_dup_i, e_dup_r, e_dup2, e_pop, e_goto, e_nop, e_if_eq, e_if_ne, e_if_lt, e_if_ge, e_if_gt, e_if_le, e_icmp_eq, e_icmp_ne, e_icmp_lt, e_icmp_ge, e_icmp_gt, e_icmp_le, e_tsw, e_ret0, e_ret1, e_retn, e_getI, e_getZ, e_getR, e_getV, e_getC, e_putI, e_putZ, e_putF, e_gst0, e_gst1, e_sld, e_iald, e_cald, e_bald, e_iast, e_cast, e_aald, e_aast, e_alen, e_slen, e_blen, e_newa, e_newq, e_new, e_oinit, e_ctor, e_virt, e_stat, e_min, e_copy, e_ldc, List.cons_append, List.nil_append, List.append_nil, List.length_cons, List.length_nil, List.replicate_succ, List.replicate_zero, List.getElem?_cons_zero, List.getElem?_cons_succ, List.set_cons_zero, List.set_cons_succ, List.take_succ_cons, List.take_zero, List.drop_succ_cons, List.drop_zero, List.reverse_cons, List.reverse_nil, Option.toList_some, Option.toList_none, Nat.reduceSub, Nat.reduceAdd, Nat.reduceLeDiff, true_and, and_true, and_self, Option.some.injEq, exists_eq_left', Nat.zero_add, Value.int.injEq, Value.ref.injEq, List.cons.injEq, exists_and_left, and_assoc, exists_eq_left, B_106_9, bk_106_9, B_106_20, bk_106_20, m0, C_93, C_91, r_isEmpty gmt hs, r_ofL gmt hs, j5, v1, v2, o_eq_l, o_eq, if_neg, if_pos, if_pos, if_neg, not_true_eq_false, not_false_eq_true, or_true, true_or, or_false, false_or, false_and, and_false, Nat.reduceEqDiff, Nat.reduceLT, Nat.reduceMul, Nat.not_lt_zero, Nat.zero_le, Nat.le_refl, ne_eq, reduceIte, reduceCtorEq]
        rw [B_106_33]
        simp (disch := omega) only [e_iconst, e_bipush, e_sipush, e_iload_n, e_iload, e_aload_n, e_aload, e_istore_n, e_istore, e_astore_n, e_astore, e_iinc, e_iadd, e_isub, e_imul, e_iand, e_ishr, e_idiv, e_i2c, e_dup_i, e_dup_r, e_dup2, e_pop, e_goto, e_nop, e_if_eq, e_if_ne, e_if_lt, e_if_ge, e_if_gt, e_if_le, e_icmp_eq, e_icmp_ne, e_icmp_lt, e_icmp_ge, e_icmp_gt, e_icmp_le, e_tsw, e_ret0, e_ret1, e_retn, e_getI, e_getZ, e_getR, e_getV, e_getC, e_putI, e_putZ, e_putF, e_gst0, e_gst1, e_sld, e_iald, e_cald, e_bald, e_iast, e_cast, e_aald, e_aast, e_alen, e_slen, e_blen, e_newa, e_newq, e_new, e_oinit, e_ctor, e_virt, e_stat, e_min, e_copy, e_ldc, List.cons_append, List.nil_append, List.append_nil, List.length_cons, List.length_nil, List.replicate_succ, List.replicate_zero, List.getElem?_cons_zero, List.getElem?_cons_succ, List.set_cons_zero, List.set_cons_succ, List.take_succ_cons, List.take_zero, List.drop_succ_cons, List.drop_zero, List.reverse_cons, List.reverse_nil, Option.toList_some, Option.toList_none, Nat.reduceSub, Nat.reduceAdd, Nat.reduceLeDiff, true_and, and_true, and_self, Option.some.injEq, exists_eq_left', Nat.zero_add, Value.int.injEq, Value.ref.injEq, List.cons.injEq, exists_and_left, and_assoc, exists_eq_left, bk_106_33, m0, C_95, C_92, C_91, C_99, r_record gmt j2 hn2, r_putsL gmt hs, r_ofL gmt hs, m_rs, rs_rs, rSet_s, jr, u_ne, v3, o_add_l, r_punches gmt hs (show c + 1 < 32 by omega), C_96, if_pos, if_neg, not_true_eq_false, not_false_eq_true, or_true, true_or, or_false, false_or, false_and, and_false, Nat.reduceEqDiff, Nat.reduceLT, Nat.reduceMul, Nat.not_lt_zero, Nat.zero_le, Nat.le_refl, ne_eq, reduceIte, reduceCtorEq]
        rw [r_tells gmt (n := ln) ?_ l1]
        · simp (disch := omega) only [e_iconst, e_bipush, e_sipush, e_iload_n, e_iload, e_aload_n, e_aload, e_istore_n, e_istore, e_astore_n, e_astore, e_iinc, e_iadd, e_isub, e_imul, e_iand, e_ishr, e_idiv, e_i2c, e_dup_i, e_dup_r, e_dup2, e_pop, e_goto, e_nop, e_if_eq, e_if_ne, e_if_lt, e_if_ge, e_if_gt, e_if_le, e_icmp_eq, e_icmp_ne, e_icmp_lt, e_icmp_ge, e_icmp_gt, e_icmp_le, e_tsw, e_ret0, e_ret1, e_retn, e_getI, e_getZ, e_getR, e_getV, e_getC, e_putI, e_putZ, e_putF, e_gst0, e_gst1, e_sld, e_iald, e_cald, e_bald, e_iast, e_cast, e_aald, e_aast, e_alen, e_slen, e_blen, e_newa, e_newq, e_new, e_oinit, e_ctor, e_virt, e_stat, e_min, e_copy, e_ldc, List.cons_append, List.nil_append, List.append_nil, List.length_cons, List.length_nil, List.replicate_succ, List.replicate_zero, List.getElem?_cons_zero, List.getElem?_cons_succ, List.set_cons_zero, List.set_cons_succ, List.take_succ_cons, List.take_zero, List.drop_succ_cons, List.drop_zero, List.reverse_cons, List.reverse_nil, Option.toList_some, Option.toList_none, Nat.reduceSub, Nat.reduceAdd, Nat.reduceLeDiff, true_and, and_true, and_self, Option.some.injEq, exists_eq_left', Nat.zero_add, Value.int.injEq, Value.ref.injEq, List.cons.injEq, exists_and_left, and_assoc, exists_eq_left, m0, C_91, r_ofL gmt hs, rs_rs, rSet_s, vTl_o, u_ne, v3, if_pos, if_neg, not_true_eq_false, not_false_eq_true, or_true, true_or, or_false, false_or, false_and, and_false, Nat.reduceEqDiff, Nat.reduceLT, Nat.reduceMul, Nat.not_lt_zero, Nat.zero_le, Nat.le_refl, ne_eq, reduceIte, reduceCtorEq]
          refine OPo_act g hv hn2 hH hP hT (fun x x1 x2 => by funext j; simp (disch := omega) only [lAd_o, s_ne]) (by funext j; simp (disch := omega) only [lAd_o, s_ne, hRm_o]) (fun x hx => by funext j; simp (disch := omega) only [lAd_o, s_ne, hRm_o]) ?_ hJ
          refine RC_upd (fun z => z = s) hv (fun z _ hz => ?_) (fun z hz1 hz2 => ⟨fun d hd => ?_, fun x x1 x2 => ?_⟩) ?_
          · subst hz
            have hng : ngp 1 0 c = c + 1 := rfl
            have hng2 : ngp 1 1 c = c + 1 + 1 := rfl
            rw [hng] at k3
            refine ⟨1, 1, c, ⟨?_, ?_, ?_, by omega, by omega, f6⟩, ⟨?_, ?_, ?_, by omega, by omega, f6⟩, fun q => absurd q (by omega), fun _ => ?_, fun _ => ?_, fun k hk => ?_, fun i hi => ?_, fun _ => ?_⟩
            · simp (disch := omega) only [lAd_o, s_ne, hRm_o]; exact f1
            · simp (disch := omega) only [lAd_o, s_ne, s_eq]; rfl
            · simp (disch := omega) only [lAd_o, s_ne, hRm_o]; exact f3
            · simp (disch := omega) only [vTl_o, u_ne]; exact v1
            · simp (disch := omega) only [vTl_o, u_ne, u_eq]; rfl
            · simp (disch := omega) only [vTl_o, u_ne]; exact v3
            · simp (disch := omega) only [lAd_o, s_ne, hRm_o, vTl_o, u_ne]; exact k1 rfl
            · simp (disch := omega) only [lAd_o, s_ne, hRm_o]; exact k2 rfl
            · rw [hng2] at hk
              by_cases c1 : k = c + 1
              · subst c1
                simp (disch := omega) only [lAd_o, s_ne, s_eq, hRm_o, vTl_o, u_ne, u_eq]
                exact ⟨trivial, trivial, okG_5⟩
              · simp (disch := omega) only [lAd_o, s_ne, hRm_o, vTl_o, u_ne]
                exact k3 k (by omega)
            · simp (disch := omega) only [lAd_o, s_ne, hRm_o, vTl_o, u_ne]; exact k4 i hi
            · simp (disch := omega) only [lAd_o, s_ne, s_eq]
          · funext j; simp (disch := omega) only [lAd_o, s_ne, hRm_o]
          · simp (disch := omega) only [vTl_o, u_ne]
          · refine rE_mk ?_ ?_ ?_ ?_ ?_ ?_ ?_ ?_ ?_ (rL_add l1 ?_ ?_ (fun e he => ?_)) <;> simp (disch := omega) only [lAd_o, s_ne, s_eq, hRm_o, vTl_o, u_ne, u_eq, e2, e3, e4, e5, e6, e7, e8]
            · exact e9
            · exact e10
            · exact l2
            · exact l3
            · exact l4 e he
        · simp (disch := omega) only [rSet_s, u_ne]; exact l3
  · refine ⟨-1, R, I, ?_, fun J hJ => ?_⟩
    · simp (disch := omega) only [e_iconst, e_bipush, e_sipush, e_iload_n, e_iload, e_aload_n, e_aload, e_istore_n, e_istore, e_astore_n, e_astore, e_iinc, e_iadd, e_isub, e_imul, e_iand, e_ishr, e_idiv, e_i2c, e_dup_i, e_dup_r, e_dup2, e_pop, e_goto, e_nop, e_if_eq, e_if_ne, e_if_lt, e_if_ge, e_if_gt, e_if_le, e_icmp_eq, e_icmp_ne, e_icmp_lt, e_icmp_ge, e_icmp_gt, e_icmp_le, e_tsw, e_ret0, e_ret1, e_retn, e_getI, e_getZ, e_getR, e_getV, e_getC, e_putI, e_putZ, e_putF, e_gst0, e_gst1, e_sld, e_iald, e_cald, e_bald, e_iast, e_cast, e_aald, e_aast, e_alen, e_slen, e_blen, e_newa, e_newq, e_new, e_oinit, e_ctor, e_virt, e_stat, e_min, e_copy, e_ldc, List.cons_append, List.nil_append, List.append_nil, List.length_cons, List.length_nil, List.replicate_succ, List.replicate_zero, List.getElem?_cons_zero, List.getElem?_cons_succ, List.set_cons_zero, List.set_cons_succ, List.take_succ_cons, List.take_zero, List.drop_succ_cons, List.drop_zero, List.reverse_cons, List.reverse_nil, Option.toList_some, Option.toList_none, Nat.reduceSub, Nat.reduceAdd, Nat.reduceLeDiff, true_and, and_true, and_self, Option.some.injEq, exists_eq_left', Nat.zero_add, Value.int.injEq, Value.ref.injEq, List.cons.injEq, exists_and_left, and_assoc, exists_eq_left, E_in 64, N_64, B_64_0, bk_64_0, C_82, m_noSp q, if_pos, if_neg, not_true_eq_false, not_false_eq_true, or_true, true_or, or_false, false_or, false_and, and_false, Nat.reduceEqDiff, Nat.reduceLT, Nat.reduceMul, Nat.not_lt_zero, Nat.zero_le, Nat.le_refl, ne_eq, reduceIte, reduceCtorEq]
    · simp (disch := omega) only [e_iconst, e_bipush, e_sipush, e_iload_n, e_iload, e_aload_n, e_aload, e_istore_n, e_istore, e_astore_n, e_astore, e_iinc, e_iadd, e_isub, e_imul, e_iand, e_ishr, e_idiv, e_i2c, e_dup_i, e_dup_r, e_dup2, e_pop, e_goto, e_nop, e_if_eq, e_if_ne, e_if_lt, e_if_ge, e_if_gt, e_if_le, e_icmp_eq, e_icmp_ne, e_icmp_lt, e_icmp_ge, e_icmp_gt, e_icmp_le, e_tsw, e_ret0, e_ret1, e_retn, e_getI, e_getZ, e_getR, e_getV, e_getC, e_putI, e_putZ, e_putF, e_gst0, e_gst1, e_sld, e_iald, e_cald, e_bald, e_iast, e_cast, e_aald, e_aast, e_alen, e_slen, e_blen, e_newa, e_newq, e_new, e_oinit, e_ctor, e_virt, e_stat, e_min, e_copy, e_ldc, List.cons_append, List.nil_append, List.append_nil, List.length_cons, List.length_nil, List.replicate_succ, List.replicate_zero, List.getElem?_cons_zero, List.getElem?_cons_succ, List.set_cons_zero, List.set_cons_succ, List.take_succ_cons, List.take_zero, List.drop_succ_cons, List.drop_zero, List.reverse_cons, List.reverse_nil, Option.toList_some, Option.toList_none, Nat.reduceSub, Nat.reduceAdd, Nat.reduceLeDiff, true_and, and_true, and_self, Option.some.injEq, exists_eq_left', Nat.zero_add, Value.int.injEq, Value.ref.injEq, List.cons.injEq, exists_and_left, and_assoc, exists_eq_left, E_in 106, N_106, B_106_0, bk_106_0, C_90, r_noSp q, o_eq, if_pos, if_neg, not_true_eq_false, not_false_eq_true, or_true, true_or, or_false, false_or, false_and, and_false, Nat.reduceEqDiff, Nat.reduceLT, Nat.reduceMul, Nat.not_lt_zero, Nat.zero_le, Nat.le_refl, ne_eq, reduceIte, reduceCtorEq]
      exact OPo_same hrel hJ
end
section
/-! splice -/
/-- the row after m gaps of the wire src from l + 1 on went behind d letters of dst -/
def vCc (v : Nat → Int32) (src l dst d m : Nat) : Nat → Int32 := fun x =>
  if 98 * dst + (4 + (d + 1)) ≤ x ∧ x < 98 * dst + (4 + (d + 1)) + m then v (98 * src + (4 + (l + 1 + (x - (98 * dst + (4 + (d + 1)))))))
  else if 98 * dst + (36 + (d + 1)) ≤ x ∧ x < 98 * dst + (36 + (d + 1)) + m then v (98 * src + (36 + (l + 1 + (x - (98 * dst + (36 + (d + 1))))))) else v x
theorem vCc_o {v : Nat → Int32} {src l dst d m x : Nat} (h : ¬ (98 * dst + (4 + (d + 1)) ≤ x ∧ x < 98 * dst + (4 + (d + 1)) + m) ∧ ¬ (98 * dst + (36 + (d + 1)) ≤ x ∧ x < 98 * dst + (36 + (d + 1)) + m)) : vCc v src l dst d m x = v x := by
  unfold vCc
  rw [if_neg h.1, if_neg h.2]
theorem vCc_l {v : Nat → Int32} {src l dst d m k : Nat} (hk : k < m) : vCc v src l dst d m (98 * dst + (4 + (d + 1 + k))) = v (98 * src + (4 + (l + 1 + k))) := by
  unfold vCc
  rw [if_pos (by omega)]
  congr 2
  omega
theorem vCc_n {v : Nat → Int32} {src l dst d m k : Nat} (hk : k < m) (hm : d + 1 + m ≤ 32) : vCc v src l dst d m (98 * dst + (36 + (d + 1 + k))) = v (98 * src + (36 + (l + 1 + k))) := by
  unfold vCc
  rw [if_neg (by omega), if_pos (by omega)]
  congr 2
  omega
theorem vCc_s {v : Nat → Int32} {src l dst d k : Nat} (h2 : d + 1 + k < 32) : vU (vU (vCc v src l dst d k) (98 * dst + (4 + (d + 1 + k))) (v (98 * src + (4 + (l + 1 + k))))) (98 * dst + (36 + (d + 1 + k))) (v (98 * src + (36 + (l + 1 + k)))) = vCc v src l dst d (k + 1) := by
  funext x
  by_cases c1 : x = 98 * dst + (36 + (d + 1 + k))
  · subst c1; rw [u_eq, vCc_n (by omega) (by omega)]
  · rw [u_ne c1]
    by_cases c2 : x = 98 * dst + (4 + (d + 1 + k))
    · subst c2; rw [u_eq, vCc_l (by omega)]
    · rw [u_ne c2]
      by_cases c3 : 98 * dst + (4 + (d + 1)) ≤ x ∧ x < 98 * dst + (4 + (d + 1)) + k
      · simp (disch := omega) only [vCc, if_pos, if_neg]
      · by_cases c4 : 98 * dst + (36 + (d + 1)) ≤ x ∧ x < 98 * dst + (36 + (d + 1)) + k
        · simp (disch := omega) only [vCc, if_pos, if_neg]
        · simp (disch := omega) only [vCc, if_pos, if_neg]
/-- the row after m letters of src from l on went behind d letters of dst -/
def vTr (v : Nat → Int32) (src l dst d m : Nat) : Nat → Int32 := fun x =>
  if 98 * dst + (68 + d) ≤ x ∧ x < 98 * dst + (68 + d) + m then v (98 * src + (68 + (l + (x - (98 * dst + (68 + d)))))) else v x
theorem vTr_o {v : Nat → Int32} {src l dst d m x : Nat} (h : ¬ (98 * dst + (68 + d) ≤ x ∧ x < 98 * dst + (68 + d) + m)) : vTr v src l dst d m x = v x := if_neg h
theorem vTr_i {v : Nat → Int32} {src l dst d m k : Nat} (hk : k < m) : vTr v src l dst d m (98 * dst + (68 + (d + k))) = v (98 * src + (68 + (l + k))) := by
  unfold vTr
  rw [if_pos (by omega)]
  congr 2
  omega
theorem vTr_s {v : Nat → Int32} {src l dst d k : Nat} : vU (vTr v src l dst d k) (98 * dst + (68 + (d + k))) (v (98 * src + (68 + (l + k)))) = vTr v src l dst d (k + 1) := by
  funext x
  by_cases c1 : x = 98 * dst + (68 + (d + k))
  · subst c1; rw [u_eq, vTr_i (by omega)]
  · rw [u_ne c1]
    unfold vTr
    by_cases c3 : 98 * dst + (68 + d) ≤ x ∧ x < 98 * dst + (68 + d) + k
    · rw [if_pos c3, if_pos (by omega)]
    · rw [if_neg c3, if_neg (by omega)]
theorem vCc_0 {v : Nat → Int32} {src l dst d : Nat} : vCc v src l dst d 0 = v := by funext x; exact vCc_o ⟨by omega, by omega⟩
theorem vTr_0 {v : Nat → Int32} {src l dst d : Nat} : vTr v src l dst d 0 = v := by funext x; exact vTr_o (by omega)
theorem m_join' {K : mK} {R : Nat → Nat → Option Nat} {I : Nat → Nat → Int32} {a b ca cl c : Nat} {Q : Option Value → mH → Prop} (h : zW K R a) (h' : zW K R b) (hab : a + 4 ≤ b ∨ b + 4 ≤ a) (hca : I a 5 = nI ca) (hf : wF I b 1 cl c) (hr : ca + c ≤ 30) :
    EvM 48 [.ref a, .ref b] (K, R, I) Q ↔ Q none (K, R, mSet (mSet (mSet (mSet (mSet (mSet (wAp I a b ca 0 (c + cl)) a 5 (nI (ca + c))) a 4 (nI cl)) b 3 0) b 4 0) b 5 0) b 6 0) := m_join h h' hab hca hf hr
/-- the reference's part of a splicing, behind the record -/
theorem r_spl {K : mK} {R : Nat → Nat → Option Nat} {J : Nat → Nat → Int32} {s t c cl cb ln : Nat} {Q : Option Value → mH → Prop} (h : zM K R) (hs : s < 6) (ht : t < 6) (hne : s ≠ t) (v1 : J 195 (98 * t + 1) = nI cl) (hcl : cl ≤ 1) (hc : cb + c ≤ 30) (hl : J 195 595 = nI ln) (hl2 : ln ≤ 10)
    (hQ : Q (some (.int (nI (cb + c)))) (K, R, rSet J 195 (vTl (vU (vU (vU (vU (vU (vTr (vCc (J 195) t 0 s cb (c + cl)) t 0 s cb c) (98 * s + 1) (nI cl)) (98 * s + 2) (nI (cb + c))) (98 * t) 0) (98 * t + 1) 0) (98 * t + 2) 0) ln 4 (nI s) (nI (cb + c))))) :
    Ev 105 (mB 105 77) [.ref 194, .int (nI s), .int (nI t), .int (nI cb), .int (nI c), .int 0] [] (K, R, J) Q := by
  obtain ⟨h0, h1, h2, -⟩ := id h
  -- behind the gaps: the letters
  have two : Ev 105 (mB 105 116) [.ref 194, .int (nI s), .int (nI t), .int (nI cb), .int (nI c), .int 0] [] (K, R, rSet J 195 (vCc (J 195) t 0 s cb (c + cl))) Q := by
    have key := loop_dn (n := c) (P := fun k => Ev 105 (mB 105 116) [.ref 194, .int (nI s), .int (nI t), .int (nI cb), .int (nI c), .int (nI k)] [] (K, R, rSet J 195 (vTr (vCc (J 195) t 0 s cb (c + cl)) t 0 s cb k)) Q) ?_ ?_
    · rw [vTr_0] at key; exact key
    · intro k hk hnext
      rw [B_105_116]
      simp (disch := omega) only [e_iconst, e_bipush, e_sipush, e_iload_n, e_iload, e_aload_n, e_aload, e_istore_n, e_istore, e_astore_n, e_astore, e_iinc, e_iadd, e_isub, e_imul, e_iand, e_ishr, e_idiv, e_i2c, e_dup_i, e_dup_r, e_dup2, e_pop, e_goto, e_nop, e_if_eq, e_if_ne, e_if_lt, e_if_ge, e_if_gt, e_if_le, e_icmp_eq, e_icmp_ne, e_icmp_lt, e_icmp_ge, e_icmp_gt, e_icmp_le, e_tsw, e_ret0, e_ret1, e_retn, e_getI, e_getZ, e_getR, e_getV, e_getC, e_putI, e_putZ, e_putF, e_gst0, e_gst1, e_sld, e_iald, e_cald, e_bald, e_iast, e_cast, e_aald, e_aast, e_alen, e_slen, e_blen, e_newa, e_newq, e_new, e_oinit, e_ctor, e_virt, e_stat, e_min, e_copy, e_ldc, List.cons_append, List.nil_append, List.append_nil, List.length_cons, List.length_nil, List.replicate_succ, List.replicate_zero, List.getElem?_cons_zero, List.getElem?_cons_succ, List.set_cons_zero, List.set_cons_succ, List.take_succ_cons, List.take_zero, List.drop_succ_cons, List.drop_zero, List.reverse_cons, List.reverse_nil, Option.toList_some, Option.toList_none, Nat.reduceSub, Nat.reduceAdd, Nat.reduceLeDiff, true_and, and_true, and_self, Option.some.injEq, exists_eq_left', Nat.zero_add, Value.int.injEq, Value.ref.injEq, List.cons.injEq, exists_and_left, and_assoc, exists_eq_left, bk_105_116, h0, n_le, if_neg, o_add_r, n_add, C_91, C_92, r_ofN h ht (show 68 + k < 98 by omega), r_putsN h hs (show 68 + cb + k < 98 by omega), m_rs, rs_rs, rSet_s, o_add_l, if_pos, if_neg, not_true_eq_false, not_false_eq_true, or_true, true_or, or_false, false_or, false_and, and_false, Nat.reduceEqDiff, Nat.reduceLT, Nat.reduceMul, Nat.not_lt_zero, Nat.zero_le, Nat.le_refl, ne_eq, reduceIte, reduceCtorEq]
      refine Ev_cg ?_ rfl hnext
      rw [← vTr_s]
      congr 2
      · omega
      · rw [vTr_o (by omega)]; congr 1; omega
    · rw [B_105_116]
      simp (disch := omega) only [e_iconst, e_bipush, e_sipush, e_iload_n, e_iload, e_aload_n, e_aload, e_istore_n, e_istore, e_astore_n, e_astore, e_iinc, e_iadd, e_isub, e_imul, e_iand, e_ishr, e_idiv, e_i2c, e_dup_i, e_dup_r, e_dup2, e_pop, e_goto, e_nop, e_if_eq, e_if_ne, e_if_lt, e_if_ge, e_if_gt, e_if_le, e_icmp_eq, e_icmp_ne, e_icmp_lt, e_icmp_ge, e_icmp_gt, e_icmp_le, e_tsw, e_ret0, e_ret1, e_retn, e_getI, e_getZ, e_getR, e_getV, e_getC, e_putI, e_putZ, e_putF, e_gst0, e_gst1, e_sld, e_iald, e_cald, e_bald, e_iast, e_cast, e_aald, e_aast, e_alen, e_slen, e_blen, e_newa, e_newq, e_new, e_oinit, e_ctor, e_virt, e_stat, e_min, e_copy, e_ldc, List.cons_append, List.nil_append, List.append_nil, List.length_cons, List.length_nil, List.replicate_succ, List.replicate_zero, List.getElem?_cons_zero, List.getElem?_cons_succ, List.set_cons_zero, List.set_cons_succ, List.take_succ_cons, List.take_zero, List.drop_succ_cons, List.drop_zero, List.reverse_cons, List.reverse_nil, Option.toList_some, Option.toList_none, Nat.reduceSub, Nat.reduceAdd, Nat.reduceLeDiff, true_and, and_true, and_self, Option.some.injEq, exists_eq_left', Nat.zero_add, Value.int.injEq, Value.ref.injEq, List.cons.injEq, exists_and_left, and_assoc, exists_eq_left, bk_105_116, n_le, if_pos, Nat.le_refl, if_pos, if_neg, not_true_eq_false, not_false_eq_true, or_true, true_or, or_false, false_or, false_and, and_false, Nat.reduceEqDiff, Nat.reduceLT, Nat.reduceMul, Nat.not_lt_zero, Nat.zero_le, Nat.le_refl, ne_eq, reduceIte, reduceCtorEq]
      rw [B_105_151]
      have u1 : vTr (vCc (J 195) t 0 s cb (c + cl)) t 0 s cb c (98 * t + 1) = nI cl := by
        rw [vTr_o (by omega), vCc_o ⟨by omega, by omega⟩]; exact v1
      simp (disch := omega) only [e_iconst, e_bipush, e_sipush, e_iload_n, e_iload, e_aload_n, e_aload, e_istore_n, e_istore, e_astore_n, e_astore, e_iinc, e_iadd, e_isub, e_imul, e_iand, e_ishr, e_idiv, e_i2c, e_dup_i, e_dup_r, e_dup2, e_pop, e_goto, e_nop, e_if_eq, e_if_ne, e_if_lt, e_if_ge, e_if_gt, e_if_le, e_icmp_eq, e_icmp_ne, e_icmp_lt, e_icmp_ge, e_icmp_gt, e_icmp_le, e_tsw, e_ret0, e_ret1, e_retn, e_getI, e_getZ, e_getR, e_getV, e_getC, e_putI, e_putZ, e_putF, e_gst0, e_gst1, e_sld, e_iald, e_cald, e_bald, e_iast, e_cast, e_aald, e_aast, e_alen, e_slen, e_blen, e_newa, e_newq, e_new, e_oinit, e_ctor, e_virt, e_stat, e_min, e_copy, e_ldc, List.cons_append, List.nil_append, List.append_nil, List.length_cons, List.length_nil, List.replicate_succ, List.replicate_zero, List.getElem?_cons_zero, List.getElem?_cons_succ, List.set_cons_zero, List.set_cons_succ, List.take_succ_cons, List.take_zero, List.drop_succ_cons, List.drop_zero, List.reverse_cons, List.reverse_nil, Option.toList_some, Option.toList_none, Nat.reduceSub, Nat.reduceAdd, Nat.reduceLeDiff, true_and, and_true, and_self, Option.some.injEq, exists_eq_left', Nat.zero_add, Value.int.injEq, Value.ref.injEq, List.cons.injEq, exists_and_left, and_assoc, exists_eq_left, bk_105_151, h0, C_91, C_92, r_ofL h ht, r_putsL h hs, r_putsL h ht, m_rs, rs_rs, rSet_s, u1, n_add, Nat.add_zero, C_96, if_pos, if_neg, not_true_eq_false, not_false_eq_true, or_true, true_or, or_false, false_or, false_and, and_false, Nat.reduceEqDiff, Nat.reduceLT, Nat.reduceMul, Nat.not_lt_zero, Nat.zero_le, Nat.le_refl, ne_eq, reduceIte, reduceCtorEq]
      rw [r_tells h (n := ln) ?_ hl2]
      · simp (disch := omega) only [e_iconst, e_bipush, e_sipush, e_iload_n, e_iload, e_aload_n, e_aload, e_istore_n, e_istore, e_astore_n, e_astore, e_iinc, e_iadd, e_isub, e_imul, e_iand, e_ishr, e_idiv, e_i2c, e_dup_i, e_dup_r, e_dup2, e_pop, e_goto, e_nop, e_if_eq, e_if_ne, e_if_lt, e_if_ge, e_if_gt, e_if_le, e_icmp_eq, e_icmp_ne, e_icmp_lt, e_icmp_ge, e_icmp_gt, e_icmp_le, e_tsw, e_ret0, e_ret1, e_retn, e_getI, e_getZ, e_getR, e_getV, e_getC, e_putI, e_putZ, e_putF, e_gst0, e_gst1, e_sld, e_iald, e_cald, e_bald, e_iast, e_cast, e_aald, e_aast, e_alen, e_slen, e_blen, e_newa, e_newq, e_new, e_oinit, e_ctor, e_virt, e_stat, e_min, e_copy, e_ldc, List.cons_append, List.nil_append, List.append_nil, List.length_cons, List.length_nil, List.replicate_succ, List.replicate_zero, List.getElem?_cons_zero, List.getElem?_cons_succ, List.set_cons_zero, List.set_cons_succ, List.take_succ_cons, List.take_zero, List.drop_succ_cons, List.drop_zero, List.reverse_cons, List.reverse_nil, Option.toList_some, Option.toList_none, Nat.reduceSub, Nat.reduceAdd, Nat.reduceLeDiff, true_and, and_true, and_self, Option.some.injEq, exists_eq_left', Nat.zero_add, Value.int.injEq, Value.ref.injEq, List.cons.injEq, exists_and_left, and_assoc, exists_eq_left, n_add, rs_rs, rSet_s, if_pos, if_neg, not_true_eq_false, not_false_eq_true, or_true, true_or, or_false, false_or, false_and, and_false, Nat.reduceEqDiff, Nat.reduceLT, Nat.reduceMul, Nat.not_lt_zero, Nat.zero_le, Nat.le_refl, ne_eq, reduceIte, reduceCtorEq]
        exact hQ
      · simp (disch := omega) only [rSet_s, u_ne, vTr_o, vCc_o]; exact hl
  have key := loop_dn (n := c + cl) (P := fun k => Ev 105 (mB 105 77) [.ref 194, .int (nI s), .int (nI t), .int (nI cb), .int (nI c), .int (nI k)] [] (K, R, rSet J 195 (vCc (J 195) t 0 s cb k)) Q) ?_ ?_
  · rw [vCc_0, rs_id] at key; exact key
  · intro k hk hnext
    rw [B_105_77]
    have u1 : vCc (J 195) t 0 s cb k (98 * t + 1) = nI cl := by rw [vCc_o ⟨by omega, by omega⟩]; exact v1
    simp (disch := omega) only [e_iconst, e_bipush, e_sipush, e_iload_n, e_iload, e_aload_n, e_aload, e_istore_n, e_istore, e_astore_n, e_astore, e_iinc, e_iadd, e_isub, e_imul, e_iand, e_ishr, e_idiv, e_i2c, e_dup_i, e_dup_r, e_dup2, e_pop, e_goto, e_nop, e_if_eq, e_if_ne, e_if_lt, e_if_ge, e_if_gt, e_if_le, e_icmp_eq, e_icmp_ne, e_icmp_lt, e_icmp_ge, e_icmp_gt, e_icmp_le, e_tsw, e_ret0, e_ret1, e_retn, e_getI, e_getZ, e_getR, e_getV, e_getC, e_putI, e_putZ, e_putF, e_gst0, e_gst1, e_sld, e_iald, e_cald, e_bald, e_iast, e_cast, e_aald, e_aast, e_alen, e_slen, e_blen, e_newa, e_newq, e_new, e_oinit, e_ctor, e_virt, e_stat, e_min, e_copy, e_ldc, List.cons_append, List.nil_append, List.append_nil, List.length_cons, List.length_nil, List.replicate_succ, List.replicate_zero, List.getElem?_cons_zero, List.getElem?_cons_succ, List.set_cons_zero, List.set_cons_succ, List.take_succ_cons, List.take_zero, List.drop_succ_cons, List.drop_zero, List.reverse_cons, List.reverse_nil, Option.toList_some, Option.toList_none, Nat.reduceSub, Nat.reduceAdd, Nat.reduceLeDiff, true_and, and_true, and_self, Option.some.injEq, exists_eq_left', Nat.zero_add, Value.int.injEq, Value.ref.injEq, List.cons.injEq, exists_and_left, and_assoc, exists_eq_left, bk_105_77, h0, C_91, C_100, r_ofL h ht, rSet_s, u1, n_add, n_le, if_neg, o_add_r, o_add_l, r_copies h ht hs (show 1 + k < 32 by omega) (show cb + 1 + k < 32 by omega), rs_rs, if_pos, if_neg, not_true_eq_false, not_false_eq_true, or_true, true_or, or_false, false_or, false_and, and_false, Nat.reduceEqDiff, Nat.reduceLT, Nat.reduceMul, Nat.not_lt_zero, Nat.zero_le, Nat.le_refl, ne_eq, reduceIte, reduceCtorEq]
    refine Ev_cg ?_ rfl hnext
    rw [← vCc_s (by omega)]
    congr 2
    · congr 1
      rw [vCc_o ⟨by omega, by omega⟩]
      try congr 1
      all_goals omega
    · rw [vCc_o ⟨by omega, by omega⟩]
      try congr 1
      all_goals omega
  · rw [B_105_77]
    have u1 : vCc (J 195) t 0 s cb (c + cl) (98 * t + 1) = nI cl := by rw [vCc_o ⟨by omega, by omega⟩]; exact v1
    simp (disch := omega) only [e_iconst, e_bipush, e_sipush, e_iload_n, e_iload, e_aload_n, e_aload, e_istore_n, e_istore, e_astore_n, e_astore, e_iinc, e_iadd, e_isub, e_imul, e_iand, e_ishr, e_idiv, e_i2c, e_dup_i, e_dup_r, e_dup2, e_pop, e_goto, e_nop, e_if_eq, e_if_ne, e_if_lt, e_if_ge, e_if_gt, e_if_le, e_icmp_eq, e_icmp_ne, e_icmp_lt, e_icmp_ge, e_icmp_gt, e_icmp_le, e_tsw, e_ret0, e_ret1, e_retn, e_getI, e_getZ, e_getR, e_getV, e_getC, e_putI, e_putZ, e_putF, e_gst0, e_gst1, e_sld, e_iald, e_cald, e_bald, e_iast, e_cast, e_aald, e_aast, e_alen, e_slen, e_blen, e_newa, e_newq, e_new, e_oinit, e_ctor, e_virt, e_stat, e_min, e_copy, e_ldc, List.cons_append, List.nil_append, List.append_nil, List.length_cons, List.length_nil, List.replicate_succ, List.replicate_zero, List.getElem?_cons_zero, List.getElem?_cons_succ, List.set_cons_zero, List.set_cons_succ, List.take_succ_cons, List.take_zero, List.drop_succ_cons, List.drop_zero, List.reverse_cons, List.reverse_nil, Option.toList_some, Option.toList_none, Nat.reduceSub, Nat.reduceAdd, Nat.reduceLeDiff, true_and, and_true, and_self, Option.some.injEq, exists_eq_left', Nat.zero_add, Value.int.injEq, Value.ref.injEq, List.cons.injEq, exists_and_left, and_assoc, exists_eq_left, bk_105_77, h0, C_91, r_ofL h ht, rSet_s, u1, n_add, n_le, if_pos, Nat.le_refl, B_105_113, bk_105_113, if_pos, if_neg, not_true_eq_false, not_false_eq_true, or_true, true_or, or_false, false_or, false_and, and_false, Nat.reduceEqDiff, Nat.reduceLT, Nat.reduceMul, Nat.not_lt_zero, Nat.zero_le, Nat.le_refl, ne_eq, reduceIte, reduceCtorEq]
    exact two
theorem wAp_lo {I : Nat → Nat → Int32} {a b ca l k x j : Nat} (h : j < ca + 1) : wAp I a b ca l k x j = I x j := if_neg (by omega)
theorem wAp_i {I : Nat → Nat → Int32} {a b ca l m d e : Nat} (h : e < m) (hd : 1 ≤ d ∧ d ≤ 3) : wAp I a b ca l m (a + d) (ca + 1 + e) = I (b + d) (l + 1 + e) := by
  unfold wAp
  rw [if_pos ⟨by omega, by omega, by omega⟩, show b + (a + d - a) = b + d by omega, show l + 1 + (ca + 1 + e - (ca + 1)) = l + 1 + e by omega]
theorem rW_empty {I : Nat → Nat → Int32} {a s : Nat} {v : Nat → Int32} (h1 : I a 3 = 0) (h2 : I a 4 = 0) (h3 : I a 5 = 0) (h4 : v (98 * s) = 0) (h5 : v (98 * s + 1) = 0) (h6 : v (98 * s + 2) = 0) : rW I a v s 0 0 0 :=
  ⟨⟨h1, h2, h3, by omega, by omega, by omega⟩, ⟨h4, h5, h6, by omega, by omega, by omega⟩, fun _ => ⟨rfl, rfl⟩, fun q => absurd q (by omega), fun q => absurd q (by omega), fun k hk => absurd hk (by unfold ngp; simp), fun i hi => absurd hi (by omega), fun q => absurd q (by omega)⟩
set_option maxHeartbeats 8000000 in
theorem op_splice (x y : Int32) : OP 63 105 [.int x, .int y] := by
  intro K R I hrel
  obtain ⟨f, n, g, hv, hn2, hn, hk, hH, hP, hT⟩ := id hrel
  have q4 := qTu_lt g hn2
  obtain ⟨gm, gs, -, gh, gw, gr, gr', ⟨a0, a1, a2, a3, a4, a5, a6, a7, a8⟩, ⟨b0, b1, b2⟩, cc0⟩ := id g
  have gs0 : K.2.2.1 1 = (1, 4) := gs.1
  have gs1 : R 1 0 = some 2 := gs.2.1
  have gs2 : K.2.2.1 2 = (4, 6) := gs.2.2.1
  have gs3 : R 1 1 = some 3 := gs.2.2.2.1
  have gs4 : zL K R 3 := gs.2.2.2.2.1
  have gW : ∀ s, s < 6 → zW K R (7 + 4 * s) := fun s hs => (gs.2.2.2.2.2.2 s hs).2
  have gR : ∀ s, s < 6 → R 2 s = some (7 + 4 * s) := fun s hs => (gs.2.2.2.2.2.2 s hs).1
  have gh0 := gh.1
  have gsl : K.2.2.1 3 = (1, 2) := gs4.1
  obtain ⟨m0, m1, m2, m3, m4, m5, m6, m7, m8, m9, m10, m11, m12, m13, m14⟩ := id gm
  have gT := zG_tu (n := n) g
  have gmt : zM K (RTu R n) := gT.1
  have gst : zS K (RTu R n) 1 := gT.2.1
  have gt1 : RTu R n 1 0 = some 2 := gst.2.1
  have gt3 : RTu R n 1 1 = some 3 := gst.2.2.2.1
  have gt4 : zL K (RTu R n) 3 := gst.2.2.2.2.1
  have gWt : ∀ s, s < 6 → zW K (RTu R n) (7 + 4 * s) := fun s hs => (gst.2.2.2.2.2.2 s hs).2
  have gRt : ∀ s, s < 6 → RTu R n 2 s = some (7 + 4 * s) := fun s hs => (gst.2.2.2.2.2.2 s hs).1
  obtain ⟨-, m1t, -⟩ := id gmt
  obtain ⟨-, a1t, a2t, a3t, a4t, a5t, a6t, a7t, a8t⟩ := gT.2.2.2.2.2.2.2.1
  rcases sp_cases x (n := 6) (by omega) with ⟨s, hs, rfl⟩ | q
  rotate_left
  · refine ⟨-1, R, I, ?_, fun J hJ => ?_⟩
    · simp (disch := omega) only [e_iconst, e_bipush, e_sipush, e_iload_n, e_iload, e_aload_n, e_aload, e_istore_n, e_istore, e_astore_n, e_astore, e_iinc, e_iadd, e_isub, e_imul, e_iand, e_ishr, e_idiv, e_i2c, e_dup_i, e_dup_r, e_dup2, e_pop, e_goto, e_nop, e_if_eq, e_if_ne, e_if_lt, e_if_ge, e_if_gt, e_if_le, e_icmp_eq, e_icmp_ne, e_icmp_lt, e_icmp_ge, e_icmp_gt, e_icmp_le, e_tsw, e_ret0, e_ret1, e_retn, e_getI, e_getZ, e_getR, e_getV, e_getC, e_putI, e_putZ, e_putF, e_gst0, e_gst1, e_sld, e_iald, e_cald, e_bald, e_iast, e_cast, e_aald, e_aast, e_alen, e_slen, e_blen, e_newa, e_newq, e_new, e_oinit, e_ctor, e_virt, e_stat, e_min, e_copy, e_ldc, List.cons_append, List.nil_append, List.append_nil, List.length_cons, List.length_nil, List.replicate_succ, List.replicate_zero, List.getElem?_cons_zero, List.getElem?_cons_succ, List.set_cons_zero, List.set_cons_succ, List.take_succ_cons, List.take_zero, List.drop_succ_cons, List.drop_zero, List.reverse_cons, List.reverse_nil, Option.toList_some, Option.toList_none, Nat.reduceSub, Nat.reduceAdd, Nat.reduceLeDiff, true_and, and_true, and_self, Option.some.injEq, exists_eq_left', Nat.zero_add, Value.int.injEq, Value.ref.injEq, List.cons.injEq, exists_and_left, and_assoc, exists_eq_left, E_in 63, N_63, B_63_0, bk_63_0, B_63_14, bk_63_14, C_82, m_noSp q, if_pos, if_neg, not_true_eq_false, not_false_eq_true, or_true, true_or, or_false, false_or, false_and, and_false, Nat.reduceEqDiff, Nat.reduceLT, Nat.reduceMul, Nat.not_lt_zero, Nat.zero_le, Nat.le_refl, ne_eq, reduceIte, reduceCtorEq]
    · simp (disch := omega) only [e_iconst, e_bipush, e_sipush, e_iload_n, e_iload, e_aload_n, e_aload, e_istore_n, e_istore, e_astore_n, e_astore, e_iinc, e_iadd, e_isub, e_imul, e_iand, e_ishr, e_idiv, e_i2c, e_dup_i, e_dup_r, e_dup2, e_pop, e_goto, e_nop, e_if_eq, e_if_ne, e_if_lt, e_if_ge, e_if_gt, e_if_le, e_icmp_eq, e_icmp_ne, e_icmp_lt, e_icmp_ge, e_icmp_gt, e_icmp_le, e_tsw, e_ret0, e_ret1, e_retn, e_getI, e_getZ, e_getR, e_getV, e_getC, e_putI, e_putZ, e_putF, e_gst0, e_gst1, e_sld, e_iald, e_cald, e_bald, e_iast, e_cast, e_aald, e_aast, e_alen, e_slen, e_blen, e_newa, e_newq, e_new, e_oinit, e_ctor, e_virt, e_stat, e_min, e_copy, e_ldc, List.cons_append, List.nil_append, List.append_nil, List.length_cons, List.length_nil, List.replicate_succ, List.replicate_zero, List.getElem?_cons_zero, List.getElem?_cons_succ, List.set_cons_zero, List.set_cons_succ, List.take_succ_cons, List.take_zero, List.drop_succ_cons, List.drop_zero, List.reverse_cons, List.reverse_nil, Option.toList_some, Option.toList_none, Nat.reduceSub, Nat.reduceAdd, Nat.reduceLeDiff, true_and, and_true, and_self, Option.some.injEq, exists_eq_left', Nat.zero_add, Value.int.injEq, Value.ref.injEq, List.cons.injEq, exists_and_left, and_assoc, exists_eq_left, E_in 105, N_105, B_105_0, bk_105_0, B_105_14, bk_105_14, C_90, r_noSp q, o_eq, if_pos, if_neg, not_true_eq_false, not_false_eq_true, or_true, true_or, or_false, false_or, false_and, and_false, Nat.reduceEqDiff, Nat.reduceLT, Nat.reduceMul, Nat.not_lt_zero, Nat.zero_le, Nat.le_refl, ne_eq, reduceIte, reduceCtorEq]
      exact OPo_same hrel hJ
  rcases sp_cases y (n := 6) (by omega) with ⟨t, ht, rfl⟩ | q
  rotate_left
  · refine ⟨-1, R, I, ?_, fun J hJ => ?_⟩
    · simp (disch := omega) only [e_iconst, e_bipush, e_sipush, e_iload_n, e_iload, e_aload_n, e_aload, e_istore_n, e_istore, e_astore_n, e_astore, e_iinc, e_iadd, e_isub, e_imul, e_iand, e_ishr, e_idiv, e_i2c, e_dup_i, e_dup_r, e_dup2, e_pop, e_goto, e_nop, e_if_eq, e_if_ne, e_if_lt, e_if_ge, e_if_gt, e_if_le, e_icmp_eq, e_icmp_ne, e_icmp_lt, e_icmp_ge, e_icmp_gt, e_icmp_le, e_tsw, e_ret0, e_ret1, e_retn, e_getI, e_getZ, e_getR, e_getV, e_getC, e_putI, e_putZ, e_putF, e_gst0, e_gst1, e_sld, e_iald, e_cald, e_bald, e_iast, e_cast, e_aald, e_aast, e_alen, e_slen, e_blen, e_newa, e_newq, e_new, e_oinit, e_ctor, e_virt, e_stat, e_min, e_copy, e_ldc, List.cons_append, List.nil_append, List.append_nil, List.length_cons, List.length_nil, List.replicate_succ, List.replicate_zero, List.getElem?_cons_zero, List.getElem?_cons_succ, List.set_cons_zero, List.set_cons_succ, List.take_succ_cons, List.take_zero, List.drop_succ_cons, List.drop_zero, List.reverse_cons, List.reverse_nil, Option.toList_some, Option.toList_none, Nat.reduceSub, Nat.reduceAdd, Nat.reduceLeDiff, true_and, and_true, and_self, Option.some.injEq, exists_eq_left', Nat.zero_add, Value.int.injEq, Value.ref.injEq, List.cons.injEq, exists_and_left, and_assoc, exists_eq_left, E_in 63, N_63, B_63_0, bk_63_0, B_63_14, bk_63_14, C_82, m_isSp hs, m_noSp q, o_eq, if_pos, if_neg, not_true_eq_false, not_false_eq_true, or_true, true_or, or_false, false_or, false_and, and_false, Nat.reduceEqDiff, Nat.reduceLT, Nat.reduceMul, Nat.not_lt_zero, Nat.zero_le, Nat.le_refl, ne_eq, reduceIte, reduceCtorEq]
    · simp (disch := omega) only [e_iconst, e_bipush, e_sipush, e_iload_n, e_iload, e_aload_n, e_aload, e_istore_n, e_istore, e_astore_n, e_astore, e_iinc, e_iadd, e_isub, e_imul, e_iand, e_ishr, e_idiv, e_i2c, e_dup_i, e_dup_r, e_dup2, e_pop, e_goto, e_nop, e_if_eq, e_if_ne, e_if_lt, e_if_ge, e_if_gt, e_if_le, e_icmp_eq, e_icmp_ne, e_icmp_lt, e_icmp_ge, e_icmp_gt, e_icmp_le, e_tsw, e_ret0, e_ret1, e_retn, e_getI, e_getZ, e_getR, e_getV, e_getC, e_putI, e_putZ, e_putF, e_gst0, e_gst1, e_sld, e_iald, e_cald, e_bald, e_iast, e_cast, e_aald, e_aast, e_alen, e_slen, e_blen, e_newa, e_newq, e_new, e_oinit, e_ctor, e_virt, e_stat, e_min, e_copy, e_ldc, List.cons_append, List.nil_append, List.append_nil, List.length_cons, List.length_nil, List.replicate_succ, List.replicate_zero, List.getElem?_cons_zero, List.getElem?_cons_succ, List.set_cons_zero, List.set_cons_succ, List.take_succ_cons, List.take_zero, List.drop_succ_cons, List.drop_zero, List.reverse_cons, List.reverse_nil, Option.toList_some, Option.toList_none, Nat.reduceSub, Nat.reduceAdd, Nat.reduceLeDiff, true_and, and_true, and_self, Option.some.injEq, exists_eq_left', Nat.zero_add, Value.int.injEq, Value.ref.injEq, List.cons.injEq, exists_and_left, and_assoc, exists_eq_left, E_in 105, N_105, B_105_0, bk_105_0, B_105_14, bk_105_14, C_90, r_isSp hs, r_noSp q, o_eq, if_pos, if_neg, not_true_eq_false, not_false_eq_true, or_true, true_or, or_false, false_or, false_and, and_false, Nat.reduceEqDiff, Nat.reduceLT, Nat.reduceMul, Nat.not_lt_zero, Nat.zero_le, Nat.le_refl, ne_eq, reduceIte, reduceCtorEq]
      exact OPo_same hrel hJ
  by_cases hne : s = t
  · subst hne
    refine ⟨-2, R, I, ?_, fun J hJ => ?_⟩
    · simp (disch := omega) only [e_iconst, e_bipush, e_sipush, e_iload_n, e_iload, e_aload_n, e_aload, e_istore_n, e_istore, e_astore_n, e_astore, e_iinc, e_iadd, e_isub, e_imul, e_iand, e_ishr, e_idiv, e_i2c, e_dup_i, e_dup_r, e_dup2, e_pop, e_goto, e_nop, e_if_eq, e_if_ne, e_if_lt, e_if_ge, e_if_gt, e_if_le, e_icmp_eq, e_icmp_ne, e_icmp_lt, e_icmp_ge, e_icmp_gt, e_icmp_le, e_tsw, e_ret0, e_ret1, e_retn, e_getI, e_getZ, e_getR, e_getV, e_getC, e_putI, e_putZ, e_putF, e_gst0, e_gst1, e_sld, e_iald, e_cald, e_bald, e_iast, e_cast, e_aald, e_aast, e_alen, e_slen, e_blen, e_newa, e_newq, e_new, e_oinit, e_ctor, e_virt, e_stat, e_min, e_copy, e_ldc, List.cons_append, List.nil_append, List.append_nil, List.length_cons, List.length_nil, List.replicate_succ, List.replicate_zero, List.getElem?_cons_zero, List.getElem?_cons_succ, List.set_cons_zero, List.set_cons_succ, List.take_succ_cons, List.take_zero, List.drop_succ_cons, List.drop_zero, List.reverse_cons, List.reverse_nil, Option.toList_some, Option.toList_none, Nat.reduceSub, Nat.reduceAdd, Nat.reduceLeDiff, true_and, and_true, and_self, Option.some.injEq, exists_eq_left', Nat.zero_add, Value.int.injEq, Value.ref.injEq, List.cons.injEq, exists_and_left, and_assoc, exists_eq_left, E_in 63, N_63, B_63_0, bk_63_0, B_63_16, bk_63_16, C_82, m_isSp hs, o_eq, if_pos, if_neg, not_true_eq_false, not_false_eq_true, or_true, true_or, or_false, false_or, false_and, and_false, Nat.reduceEqDiff, Nat.reduceLT, Nat.reduceMul, Nat.not_lt_zero, Nat.zero_le, Nat.le_refl, ne_eq, reduceIte, reduceCtorEq]
    · simp (disch := omega) only [e_iconst, e_bipush, e_sipush, e_iload_n, e_iload, e_aload_n, e_aload, e_istore_n, e_istore, e_astore_n, e_astore, e_iinc, e_iadd, e_isub, e_imul, e_iand, e_ishr, e_idiv, e_i2c, e_dup_i, e_dup_r, e_dup2, e_pop, e_goto, e_nop, e_if_eq, e_if_ne, e_if_lt, e_if_ge, e_if_gt, e_if_le, e_icmp_eq, e_icmp_ne, e_icmp_lt, e_icmp_ge, e_icmp_gt, e_icmp_le, e_tsw, e_ret0, e_ret1, e_retn, e_getI, e_getZ, e_getR, e_getV, e_getC, e_putI, e_putZ, e_putF, e_gst0, e_gst1, e_sld, e_iald, e_cald, e_bald, e_iast, e_cast, e_aald, e_aast, e_alen, e_slen, e_blen, e_newa, e_newq, e_new, e_oinit, e_ctor, e_virt, e_stat, e_min, e_copy, e_ldc, List.cons_append, List.nil_append, List.append_nil, List.length_cons, List.length_nil, List.replicate_succ, List.replicate_zero, List.getElem?_cons_zero, List.getElem?_cons_succ, List.set_cons_zero, List.set_cons_succ, List.take_succ_cons, List.take_zero, List.drop_succ_cons, List.drop_zero, List.reverse_cons, List.reverse_nil, Option.toList_some, Option.toList_none, Nat.reduceSub, Nat.reduceAdd, Nat.reduceLeDiff, true_and, and_true, and_self, Option.some.injEq, exists_eq_left', Nat.zero_add, Value.int.injEq, Value.ref.injEq, List.cons.injEq, exists_and_left, and_assoc, exists_eq_left, E_in 105, N_105, B_105_0, bk_105_0, B_105_16, bk_105_16, C_90, r_isSp hs, o_eq, if_pos, if_neg, not_true_eq_false, not_false_eq_true, or_true, true_or, or_false, false_or, false_and, and_false, Nat.reduceEqDiff, Nat.reduceLT, Nat.reduceMul, Nat.not_lt_zero, Nat.zero_le, Nat.le_refl, ne_eq, reduceIte, reduceCtorEq]
      exact OPo_same hrel hJ
  obtain ⟨pA, clA, cA, hwA⟩ := hv.1 s hs
  rw [show 1 + 6 + 4 * s = 7 + 4 * s by omega] at hwA
  obtain ⟨wfA, vfA, k0A, k1A, k2A, k3A, k4A, k5A⟩ := id hwA
  obtain ⟨f1A, f2A, f3A, f4A, f5A, f6A⟩ := id wfA
  obtain ⟨v1A, v2A, v3A, -⟩ := id vfA
  have zwA := gW s hs
  have zwtA := gWt s hs
  have rwA := gR s hs
  have rwtA := gRt s hs
  have zw0A : K.2.2.1 (7 + 4 * s) = (1, 6) := zwA.1
  obtain ⟨pB, clB, cB, hwB⟩ := hv.1 t ht
  rw [show 1 + 6 + 4 * t = 7 + 4 * t by omega] at hwB
  obtain ⟨wfB, vfB, k0B, k1B, k2B, k3B, k4B, k5B⟩ := id hwB
  obtain ⟨f1B, f2B, f3B, f4B, f5B, f6B⟩ := id wfB
  obtain ⟨v1B, v2B, v3B, -⟩ := id vfB
  have zwB := gW t ht
  have zwtB := gWt t ht
  have rwB := gR t ht
  have rwtB := gRt t ht
  have zw0B : K.2.2.1 (7 + 4 * t) = (1, 6) := zwB.1
  obtain ⟨e2, e3, e4, e5, e6, e7, e8, e9, e10, ln, l1, l2, l3, l4⟩ := id hv.2
  rcases (show pA = 0 ∨ pA = 1 by omega) with rfl | rfl
  · refine ⟨-4, R, I, ?_, fun J hJ => ?_⟩
    · simp (disch := omega) only [e_iconst, e_bipush, e_sipush, e_iload_n, e_iload, e_aload_n, e_aload, e_istore_n, e_istore, e_astore_n, e_astore, e_iinc, e_iadd, e_isub, e_imul, e_iand, e_ishr, e_idiv, e_i2c, e_dup_i, e_dup_r, e_dup2, e_pop, e_goto, e_nop, e_if_eq, e_if_ne, e_if_lt, e_if_ge, e_if_gt, e_if_le, e_icmp_eq, e_icmp_ne, e_icmp_lt, e_icmp_ge, e_icmp_gt, e_icmp_le, e_tsw, e_ret0, e_ret1, e_retn, e_getI, e_getZ, e_getR, e_getV, e_getC, e_putI, e_putZ, e_putF, e_gst0, e_gst1, e_sld, e_iald, e_cald, e_bald, e_iast, e_cast, e_aald, e_aast, e_alen, e_slen, e_blen, e_newa, e_newq, e_new, e_oinit, e_ctor, e_virt, e_stat, e_min, e_copy, e_ldc, List.cons_append, List.nil_append, List.append_nil, List.length_cons, List.length_nil, List.replicate_succ, List.replicate_zero, List.getElem?_cons_zero, List.getElem?_cons_succ, List.set_cons_zero, List.set_cons_succ, List.take_succ_cons, List.take_zero, List.drop_succ_cons, List.drop_zero, List.reverse_cons, List.reverse_nil, Option.toList_some, Option.toList_none, Nat.reduceSub, Nat.reduceAdd, Nat.reduceLeDiff, true_and, and_true, and_self, Option.some.injEq, exists_eq_left', Nat.zero_add, Value.int.injEq, Value.ref.injEq, List.cons.injEq, exists_and_left, and_assoc, exists_eq_left, E_in 63, N_63, B_63_0, bk_63_0, B_63_16, bk_63_16, C_82, m_isSp hs, m_isSp ht, n_eq, hne, o_eq, if_pos, if_neg, not_true_eq_false, not_false_eq_true, or_true, true_or, or_false, false_or, false_and, and_false, Nat.reduceEqDiff, Nat.reduceLT, Nat.reduceMul, Nat.not_lt_zero, Nat.zero_le, Nat.le_refl, ne_eq, reduceIte, reduceCtorEq]
      simp (disch := omega) only [e_iconst, e_bipush, e_sipush, e_iload_n, e_iload, e_aload_n, e_aload, e_istore_n, e_istore, e_astore_n, e_astore, e_iinc, e_iadd, e_isub, e_imul, e_iand, e_ishr, e_idiv, e_i2c, e_dup_i, e_dup_r, e_dup2, e_pop, e_goto, e_nop, e_if_eq, e_if_ne, e_if_lt, e_if_ge, e_if_gt, e_if_le, e_icmp_eq, e_icmp_ne, e_icmp_lt, e_icmp_ge, e_icmp_gt, e_icmp_le, e_tsw, e_ret0, e_ret1, e_retn, e_getI, e_getZ, e_getR, e_getV, e_getC, e_putI, e_putZ, e_putF, e_gst0, e_gst1, e_sld, e_iald, e_cald, e_bald, e_iast, e_cast, e_aald, e_aast, e_alen, e_slen, e_blen, e_newa, e_newq, e_new, e_oinit, e_ctor, e_virt, e_stat, e_min, e_copy, e_ldc, List.cons_append, List.nil_append, List.append_nil, List.length_cons, List.length_nil, List.replicate_succ, List.replicate_zero, List.getElem?_cons_zero, List.getElem?_cons_succ, List.set_cons_zero, List.set_cons_succ, List.take_succ_cons, List.take_zero, List.drop_succ_cons, List.drop_zero, List.reverse_cons, List.reverse_nil, Option.toList_some, Option.toList_none, Nat.reduceSub, Nat.reduceAdd, Nat.reduceLeDiff, true_and, and_true, and_self, Option.some.injEq, exists_eq_left', Nat.zero_add, Value.int.injEq, Value.ref.injEq, List.cons.injEq, exists_and_left, and_assoc, exists_eq_left, B_63_24, bk_63_24, B_63_60, bk_63_60, a0, a1, gs0, gs1, gs2, zw0A, zw0B, rwA, rwB, n_in, n_cl, true_or, or_true, f1A, o_eq_l, if_pos, if_neg, not_true_eq_false, not_false_eq_true, or_true, true_or, or_false, false_or, false_and, and_false, Nat.reduceEqDiff, Nat.reduceLT, Nat.reduceMul, Nat.not_lt_zero, Nat.zero_le, Nat.le_refl, ne_eq, reduceIte, reduceCtorEq]
    · have j5 : J 195 = I 195 := SCR_row hJ (by omega)
      simp (disch := omega) only [e_iconst, e_bipush, e_sipush, e_iload_n, e_iload, e_aload_n, e_aload, e_istore_n, e_istore, e_astore_n, e_astore, e_iinc, e_iadd, e_isub, e_imul, e_iand, e_ishr, e_idiv, e_i2c, e_dup_i, e_dup_r, e_dup2, e_pop, e_goto, e_nop, e_if_eq, e_if_ne, e_if_lt, e_if_ge, e_if_gt, e_if_le, e_icmp_eq, e_icmp_ne, e_icmp_lt, e_icmp_ge, e_icmp_gt, e_icmp_le, e_tsw, e_ret0, e_ret1, e_retn, e_getI, e_getZ, e_getR, e_getV, e_getC, e_putI, e_putZ, e_putF, e_gst0, e_gst1, e_sld, e_iald, e_cald, e_bald, e_iast, e_cast, e_aald, e_aast, e_alen, e_slen, e_blen, e_newa, e_newq, e_new, e_oinit, e_ctor, e_virt, e_stat, e_min, e_copy, e_ldc, List.cons_append, List.nil_append, List.append_nil, List.length_cons, List.length_nil, List.replicate_succ, List.replicate_zero, List.getElem?_cons_zero, List.getElem?_cons_succ, List.set_cons_zero, List.set_cons_succ, List.take_succ_cons, List.take_zero, List.drop_succ_cons, List.drop_zero, List.reverse_cons, List.reverse_nil, Option.toList_some, Option.toList_none, Nat.reduceSub, Nat.reduceAdd, Nat.reduceLeDiff, true_and, and_true, and_self, Option.some.injEq, exists_eq_left', Nat.zero_add, Value.int.injEq, Value.ref.injEq, List.cons.injEq, exists_and_left, and_assoc, exists_eq_left, E_in 105, N_105, B_105_0, bk_105_0, B_105_16, bk_105_16, C_90, r_isSp hs, r_isSp ht, n_eq, hne, o_eq, if_pos, if_neg, not_true_eq_false, not_false_eq_true, or_true, true_or, or_false, false_or, false_and, and_false, Nat.reduceEqDiff, Nat.reduceLT, Nat.reduceMul, Nat.not_lt_zero, Nat.zero_le, Nat.le_refl, ne_eq, reduceIte, reduceCtorEq]
      simp (disch := omega) only [e_iconst, e_bipush, e_sipush, e_iload_n, e_iload, e_aload_n, e_aload, e_istore_n, e_istore, e_astore_n, e_astore, e_iinc, e_iadd, e_isub, e_imul, e_iand, e_ishr, e_idiv, e_i2c, e_dup_i, e_dup_r, e_dup2, e_pop, e_goto, e_nop, e_if_eq, e_if_ne, e_if_lt, e_if_ge, e_if_gt, e_if_le, e_icmp_eq, e_icmp_ne, e_icmp_lt, e_icmp_ge, e_icmp_gt, e_icmp_le, e_tsw, e_ret0, e_ret1, e_retn, e_getI, e_getZ, e_getR, e_getV, e_getC, e_putI, e_putZ, e_putF, e_gst0, e_gst1, e_sld, e_iald, e_cald, e_bald, e_iast, e_cast, e_aald, e_aast, e_alen, e_slen, e_blen, e_newa, e_newq, e_new, e_oinit, e_ctor, e_virt, e_stat, e_min, e_copy, e_ldc, List.cons_append, List.nil_append, List.append_nil, List.length_cons, List.length_nil, List.replicate_succ, List.replicate_zero, List.getElem?_cons_zero, List.getElem?_cons_succ, List.set_cons_zero, List.set_cons_succ, List.take_succ_cons, List.take_zero, List.drop_succ_cons, List.drop_zero, List.reverse_cons, List.reverse_nil, Option.toList_some, Option.toList_none, Nat.reduceSub, Nat.reduceAdd, Nat.reduceLeDiff, true_and, and_true, and_self, Option.some.injEq, exists_eq_left', Nat.zero_add, Value.int.injEq, Value.ref.injEq, List.cons.injEq, exists_and_left, and_assoc, exists_eq_left, B_105_24, bk_105_24, B_105_40, bk_105_40, m0, C_93, r_isEmpty gm hs, j5, v1A, o_eq_l, o_eq, if_pos, if_neg, not_true_eq_false, not_false_eq_true, or_true, true_or, or_false, false_or, false_and, and_false, Nat.reduceEqDiff, Nat.reduceLT, Nat.reduceMul, Nat.not_lt_zero, Nat.zero_le, Nat.le_refl, ne_eq, reduceIte, reduceCtorEq]
      exact OPo_same hrel hJ
  rcases (show pB = 0 ∨ pB = 1 by omega) with rfl | rfl
  · refine ⟨-4, R, I, ?_, fun J hJ => ?_⟩
    · simp (disch := omega) only [e_iconst, e_bipush, e_sipush, e_iload_n, e_iload, e_aload_n, e_aload, e_istore_n, e_istore, e_astore_n, e_astore, e_iinc, e_iadd, e_isub, e_imul, e_iand, e_ishr, e_idiv, e_i2c, e_dup_i, e_dup_r, e_dup2, e_pop, e_goto, e_nop, e_if_eq, e_if_ne, e_if_lt, e_if_ge, e_if_gt, e_if_le, e_icmp_eq, e_icmp_ne, e_icmp_lt, e_icmp_ge, e_icmp_gt, e_icmp_le, e_tsw, e_ret0, e_ret1, e_retn, e_getI, e_getZ, e_getR, e_getV, e_getC, e_putI, e_putZ, e_putF, e_gst0, e_gst1, e_sld, e_iald, e_cald, e_bald, e_iast, e_cast, e_aald, e_aast, e_alen, e_slen, e_blen, e_newa, e_newq, e_new, e_oinit, e_ctor, e_virt, e_stat, e_min, e_copy, e_ldc, List.cons_append, List.nil_append, List.append_nil, List.length_cons, List.length_nil, List.replicate_succ, List.replicate_zero, List.getElem?_cons_zero, List.getElem?_cons_succ, List.set_cons_zero, List.set_cons_succ, List.take_succ_cons, List.take_zero, List.drop_succ_cons, List.drop_zero, List.reverse_cons, List.reverse_nil, Option.toList_some, Option.toList_none, Nat.reduceSub, Nat.reduceAdd, Nat.reduceLeDiff, true_and, and_true, and_self, Option.some.injEq, exists_eq_left', Nat.zero_add, Value.int.injEq, Value.ref.injEq, List.cons.injEq, exists_and_left, and_assoc, exists_eq_left, E_in 63, N_63, B_63_0, bk_63_0, B_63_16, bk_63_16, C_82, m_isSp hs, m_isSp ht, n_eq, hne, o_eq, if_pos, if_neg, not_true_eq_false, not_false_eq_true, or_true, true_or, or_false, false_or, false_and, and_false, Nat.reduceEqDiff, Nat.reduceLT, Nat.reduceMul, Nat.not_lt_zero, Nat.zero_le, Nat.le_refl, ne_eq, reduceIte, reduceCtorEq]
      simp (disch := omega) only [e_iconst, e_bipush, e_sipush, e_iload_n, e_iload, e_aload_n, e_aload, e_istore_n, e_istore, e_astore_n, e_astore, e_iinc, e_iadd, e_isub, e_imul, e_iand, e_ishr, e_idiv, e_i2c, e_dup_i, e_dup_r, e_dup2, e_pop, e_goto, e_nop, e_if_eq, e_if_ne, e_if_lt, e_if_ge, e_if_gt, e_if_le, e_icmp_eq, e_icmp_ne, e_icmp_lt, e_icmp_ge, e_icmp_gt, e_icmp_le, e_tsw, e_ret0, e_ret1, e_retn, e_getI, e_getZ, e_getR, e_getV, e_getC, e_putI, e_putZ, e_putF, e_gst0, e_gst1, e_sld, e_iald, e_cald, e_bald, e_iast, e_cast, e_aald, e_aast, e_alen, e_slen, e_blen, e_newa, e_newq, e_new, e_oinit, e_ctor, e_virt, e_stat, e_min, e_copy, e_ldc, List.cons_append, List.nil_append, List.append_nil, List.length_cons, List.length_nil, List.replicate_succ, List.replicate_zero, List.getElem?_cons_zero, List.getElem?_cons_succ, List.set_cons_zero, List.set_cons_succ, List.take_succ_cons, List.take_zero, List.drop_succ_cons, List.drop_zero, List.reverse_cons, List.reverse_nil, Option.toList_some, Option.toList_none, Nat.reduceSub, Nat.reduceAdd, Nat.reduceLeDiff, true_and, and_true, and_self, Option.some.injEq, exists_eq_left', Nat.zero_add, Value.int.injEq, Value.ref.injEq, List.cons.injEq, exists_and_left, and_assoc, exists_eq_left, B_63_24, bk_63_24, B_63_60, bk_63_60, a0, a1, gs0, gs1, gs2, zw0A, zw0B, rwA, rwB, n_in, n_cl, true_or, or_true, f1A, f1B, o_eq_l, if_neg, if_pos, if_neg, not_true_eq_false, not_false_eq_true, or_true, true_or, or_false, false_or, false_and, and_false, Nat.reduceEqDiff, Nat.reduceLT, Nat.reduceMul, Nat.not_lt_zero, Nat.zero_le, Nat.le_refl, ne_eq, reduceIte, reduceCtorEq]
    · have j5 : J 195 = I 195 := SCR_row hJ (by omega)
      simp (disch := omega) only [e_iconst, e_bipush, e_sipush, e_iload_n, e_iload, e_aload_n, e_aload, e_istore_n, e_istore, e_astore_n, e_astore, e_iinc, e_iadd, e_isub, e_imul, e_iand, e_ishr, e_idiv, e_i2c, e_dup_i, e_dup_r, e_dup2, e_pop, e_goto, e_nop, e_if_eq, e_if_ne, e_if_lt, e_if_ge, e_if_gt, e_if_le, e_icmp_eq, e_icmp_ne, e_icmp_lt, e_icmp_ge, e_icmp_gt, e_icmp_le, e_tsw, e_ret0, e_ret1, e_retn, e_getI, e_getZ, e_getR, e_getV, e_getC, e_putI, e_putZ, e_putF, e_gst0, e_gst1, e_sld, e_iald, e_cald, e_bald, e_iast, e_cast, e_aald, e_aast, e_alen, e_slen, e_blen, e_newa, e_newq, e_new, e_oinit, e_ctor, e_virt, e_stat, e_min, e_copy, e_ldc, List.cons_append, List.nil_append, List.append_nil, List.length_cons, List.length_nil, List.replicate_succ, List.replicate_zero, List.getElem?_cons_zero, List.getElem?_cons_succ, List.set_cons_zero, List.set_cons_succ, List.take_succ_cons, List.take_zero, List.drop_succ_cons, List.drop_zero, List.reverse_cons, List.reverse_nil, Option.toList_some, Option.toList_none, Nat.reduceSub, Nat.reduceAdd, Nat.reduceLeDiff, true_and, and_true, and_self, Option.some.injEq, exists_eq_left', Nat.zero_add, Value.int.injEq, Value.ref.injEq, List.cons.injEq, exists_and_left, and_assoc, exists_eq_left, E_in 105, N_105, B_105_0, bk_105_0, B_105_16, bk_105_16, C_90, r_isSp hs, r_isSp ht, n_eq, hne, o_eq, if_pos, if_neg, not_true_eq_false, not_false_eq_true, or_true, true_or, or_false, false_or, false_and, and_false, Nat.reduceEqDiff, Nat.reduceLT, Nat.reduceMul, Nat.not_lt_zero, Nat.zero_le, Nat.le_refl, ne_eq, reduceIte, reduceCtorEq]
      simp (disch := omega) only [e_iconst, e_bipush, e_sipush, e_iload_n, e_iload, e_aload_n, e_aload, e_istore_n, e_istore, e_astore_n, e_astore, e_iinc, e_iadd, e_isub, e_imul, e_iand, e_ishr, e_idiv, e_i2c, e_dup_i, e_dup_r, e_dup2, e_pop, e_goto, e_nop, e_if_eq, e_if_ne, e_if_lt, e_if_ge, e_if_gt, e_if_le, e_icmp_eq, e_icmp_ne, e_icmp_lt, e_icmp_ge, e_icmp_gt, e_icmp_le, e_tsw, e_ret0, e_ret1, e_retn, e_getI, e_getZ, e_getR, e_getV, e_getC, e_putI, e_putZ, e_putF, e_gst0, e_gst1, e_sld, e_iald, e_cald, e_bald, e_iast, e_cast, e_aald, e_aast, e_alen, e_slen, e_blen, e_newa, e_newq, e_new, e_oinit, e_ctor, e_virt, e_stat, e_min, e_copy, e_ldc, List.cons_append, List.nil_append, List.append_nil, List.length_cons, List.length_nil, List.replicate_succ, List.replicate_zero, List.getElem?_cons_zero, List.getElem?_cons_succ, List.set_cons_zero, List.set_cons_succ, List.take_succ_cons, List.take_zero, List.drop_succ_cons, List.drop_zero, List.reverse_cons, List.reverse_nil, Option.toList_some, Option.toList_none, Nat.reduceSub, Nat.reduceAdd, Nat.reduceLeDiff, true_and, and_true, and_self, Option.some.injEq, exists_eq_left', Nat.zero_add, Value.int.injEq, Value.ref.injEq, List.cons.injEq, exists_and_left, and_assoc, exists_eq_left, B_105_24, bk_105_24, B_105_40, bk_105_40, m0, C_93, r_isEmpty gm hs, r_isEmpty gm ht, j5, v1A, v1B, o_eq_l, o_eq, if_neg, if_pos, if_neg, not_true_eq_false, not_false_eq_true, or_true, true_or, or_false, false_or, false_and, and_false, Nat.reduceEqDiff, Nat.reduceLT, Nat.reduceMul, Nat.not_lt_zero, Nat.zero_le, Nat.le_refl, ne_eq, reduceIte, reduceCtorEq]
      exact OPo_same hrel hJ
  by_cases hfu : 30 < cA + cB
  · refine ⟨-3, R, I, ?_, fun J hJ => ?_⟩
    · simp (disch := omega) only [e_iconst, e_bipush, e_sipush, e_iload_n, e_iload, e_aload_n, e_aload, e_istore_n, e_istore, e_astore_n, e_astore, e_iinc, e_iadd, e_isub, e_imul, e_iand, e_ishr, e_idiv, e_i2c, e_dup_i, e_dup_r, e_dup2, e_pop, e_goto, e_nop, e_if_eq, e_if_ne, e_if_lt, e_if_ge, e_if_gt, e_if_le, e_icmp_eq, e_icmp_ne, e_icmp_lt, e_icmp_ge, e_icmp_gt, e_icmp_le, e_tsw, e_ret0, e_ret1, e_retn, e_getI, e_getZ, e_getR, e_getV, e_getC, e_putI, e_putZ, e_putF, e_gst0, e_gst1, e_sld, e_iald, e_cald, e_bald, e_iast, e_cast, e_aald, e_aast, e_alen, e_slen, e_blen, e_newa, e_newq, e_new, e_oinit, e_ctor, e_virt, e_stat, e_min, e_copy, e_ldc, List.cons_append, List.nil_append, List.append_nil, List.length_cons, List.length_nil, List.replicate_succ, List.replicate_zero, List.getElem?_cons_zero, List.getElem?_cons_succ, List.set_cons_zero, List.set_cons_succ, List.take_succ_cons, List.take_zero, List.drop_succ_cons, List.drop_zero, List.reverse_cons, List.reverse_nil, Option.toList_some, Option.toList_none, Nat.reduceSub, Nat.reduceAdd, Nat.reduceLeDiff, true_and, and_true, and_self, Option.some.injEq, exists_eq_left', Nat.zero_add, Value.int.injEq, Value.ref.injEq, List.cons.injEq, exists_and_left, and_assoc, exists_eq_left, E_in 63, N_63, B_63_0, bk_63_0, B_63_16, bk_63_16, C_82, m_isSp hs, m_isSp ht, n_eq, hne, o_eq, if_pos, if_neg, not_true_eq_false, not_false_eq_true, or_true, true_or, or_false, false_or, false_and, and_false, Nat.reduceEqDiff, Nat.reduceLT, Nat.reduceMul, Nat.not_lt_zero, Nat.zero_le, Nat.le_refl, ne_eq, reduceIte, reduceCtorEq]
      simp (disch := omega) only [e_iconst, e_bipush, e_sipush, e_iload_n, e_iload, e_aload_n, e_aload, e_istore_n, e_istore, e_astore_n, e_astore, e_iinc, e_iadd, e_isub, e_imul, e_iand, e_ishr, e_idiv, e_i2c, e_dup_i, e_dup_r, e_dup2, e_pop, e_goto, e_nop, e_if_eq, e_if_ne, e_if_lt, e_if_ge, e_if_gt, e_if_le, e_icmp_eq, e_icmp_ne, e_icmp_lt, e_icmp_ge, e_icmp_gt, e_icmp_le, e_tsw, e_ret0, e_ret1, e_retn, e_getI, e_getZ, e_getR, e_getV, e_getC, e_putI, e_putZ, e_putF, e_gst0, e_gst1, e_sld, e_iald, e_cald, e_bald, e_iast, e_cast, e_aald, e_aast, e_alen, e_slen, e_blen, e_newa, e_newq, e_new, e_oinit, e_ctor, e_virt, e_stat, e_min, e_copy, e_ldc, List.cons_append, List.nil_append, List.append_nil, List.length_cons, List.length_nil, List.replicate_succ, List.replicate_zero, List.getElem?_cons_zero, List.getElem?_cons_succ, List.set_cons_zero, List.set_cons_succ, List.take_succ_cons, List.take_zero, List.drop_succ_cons, List.drop_zero, List.reverse_cons, List.reverse_nil, Option.toList_some, Option.toList_none, Nat.reduceSub, Nat.reduceAdd, Nat.reduceLeDiff, true_and, and_true, and_self, Option.some.injEq, exists_eq_left', Nat.zero_add, Value.int.injEq, Value.ref.injEq, List.cons.injEq, exists_and_left, and_assoc, exists_eq_left, B_63_24, bk_63_24, B_63_63, bk_63_63, a0, a1, gs0, gs1, gs2, zw0A, zw0B, rwA, rwB, n_in, n_cl, true_or, or_true, f1A, f1B, f3A, f3B, n_add, o_le_l, o_eq_l, if_neg, if_pos, if_neg, not_true_eq_false, not_false_eq_true, or_true, true_or, or_false, false_or, false_and, and_false, Nat.reduceEqDiff, Nat.reduceLT, Nat.reduceMul, Nat.not_lt_zero, Nat.zero_le, Nat.le_refl, ne_eq, reduceIte, reduceCtorEq]
    · have j5 : J 195 = I 195 := SCR_row hJ (by omega)
      simp (disch := omega) only [e_iconst, e_bipush, e_sipush, e_iload_n, e_iload, e_aload_n, e_aload, e_istore_n, e_istore, e_astore_n, e_astore, e_iinc, e_iadd, e_isub, e_imul, e_iand, e_ishr, e_idiv, e_i2c, e_dup_i, e_dup_r, e_dup2, e_pop, e_goto, e_nop, e_if_eq, e_if_ne, e_if_lt, e_if_ge, e_if_gt, e_if_le, e_icmp_eq, e_icmp_ne, e_icmp_lt, e_icmp_ge, e_icmp_gt, e_icmp_le, e_tsw, e_ret0, e_ret1, e_retn, e_getI, e_getZ, e_getR, e_getV, e_getC, e_putI, e_putZ, e_putF, e_gst0, e_gst1, e_sld, e_iald, e_cald, e_bald, e_iast, e_cast, e_aald, e_aast, e_alen, e_slen, e_blen, e_newa, e_newq, e_new, e_oinit, e_ctor, e_virt, e_stat, e_min, e_copy, e_ldc, List.cons_append, List.nil_append, List.append_nil, List.length_cons, List.length_nil, List.replicate_succ, List.replicate_zero, List.getElem?_cons_zero, List.getElem?_cons_succ, List.set_cons_zero, List.set_cons_succ, List.take_succ_cons, List.take_zero, List.drop_succ_cons, List.drop_zero, List.reverse_cons, List.reverse_nil, Option.toList_some, Option.toList_none, Nat.reduceSub, Nat.reduceAdd, Nat.reduceLeDiff, true_and, and_true, and_self, Option.some.injEq, exists_eq_left', Nat.zero_add, Value.int.injEq, Value.ref.injEq, List.cons.injEq, exists_and_left, and_assoc, exists_eq_left, E_in 105, N_105, B_105_0, bk_105_0, B_105_16, bk_105_16, C_90, r_isSp hs, r_isSp ht, n_eq, hne, o_eq, if_pos, if_neg, not_true_eq_false, not_false_eq_true, or_true, true_or, or_false, false_or, false_and, and_false, Nat.reduceEqDiff, Nat.reduceLT, Nat.reduceMul, Nat.not_lt_zero, Nat.zero_le, Nat.le_refl, ne_eq, reduceIte, reduceCtorEq]
      simp (disch := omega) only [e_iconst, e_bipush, e_sipush, e_iload_n, e_iload, e_aload_n, e_aload, e_istore_n, e_istore, e_astore_n, e_astore, e_iinc, e_iadd, e_isub, e_imul, e_iand, e_ishr, e_idiv, e_i2c, e_dup_i, e_dup_r, e_dup2, e_pop, e_goto, e_nop, e_if_eq, e_if_ne, e_if_lt, e_if_ge, e_if_gt, e_if_le, e_icmp_eq, e_icmp_ne, e_icmp_lt, e_icmp_ge, e_icmp_gt, e_icmp_le, e_tsw, e_ret0, e_ret1, e_retn, e_getI, e_getZ, e_getR, e_getV, e_getC, e_putI, e_putZ, e_putF, e_gst0, e_gst1, e_sld, e_iald, e_cald, e_bald, e_iast, e_cast, e_aald, e_aast, e_alen, e_slen, e_blen, e_newa, e_newq, e_new, e_oinit, e_ctor, e_virt, e_stat, e_min, e_copy, e_ldc, List.cons_append, List.nil_append, List.append_nil, List.length_cons, List.length_nil, List.replicate_succ, List.replicate_zero, List.getElem?_cons_zero, List.getElem?_cons_succ, List.set_cons_zero, List.set_cons_succ, List.take_succ_cons, List.take_zero, List.drop_succ_cons, List.drop_zero, List.reverse_cons, List.reverse_nil, Option.toList_some, Option.toList_none, Nat.reduceSub, Nat.reduceAdd, Nat.reduceLeDiff, true_and, and_true, and_self, Option.some.injEq, exists_eq_left', Nat.zero_add, Value.int.injEq, Value.ref.injEq, List.cons.injEq, exists_and_left, and_assoc, exists_eq_left, B_105_24, bk_105_24, B_105_43, bk_105_43, m0, C_93, C_91, r_isEmpty gm hs, r_isEmpty gm ht, r_ofL gm hs, r_ofL gm ht, j5, v1A, v1B, v3A, v3B, n_add, o_le_l, o_eq_l, o_eq, if_neg, if_pos, if_neg, not_true_eq_false, not_false_eq_true, or_true, true_or, or_false, false_or, false_and, and_false, Nat.reduceEqDiff, Nat.reduceLT, Nat.reduceMul, Nat.not_lt_zero, Nat.zero_le, Nat.le_refl, ne_eq, reduceIte, reduceCtorEq]
      exact OPo_same hrel hJ
  have hab : 7 + 4 * s + 4 ≤ 7 + 4 * t ∨ 7 + 4 * t + 4 ≤ 7 + 4 * s := by omega
  have hfB : wF (hRm I (qTu f n) n) (7 + 4 * t) 1 clB cB := by
    unfold wF
    rw [hRm_l (by omega)]
    exact wfB
  have hcA : hRm I (qTu f n) n (7 + 4 * s) 5 = nI cA := by rw [hRm_l (by omega)]; exact f3A
  refine ⟨nI (cA + cB), RTu R n, lAd (mSet (mSet (mSet (mSet (mSet (mSet (wAp (hRm I (qTu f n) n) (7 + 4 * s) (7 + 4 * t) cA 0 (cB + clB)) (7 + 4 * s) 5 (nI (cA + cB))) (7 + 4 * s) 4 (nI clB)) (7 + 4 * t) 3 0) (7 + 4 * t) 4 0) (7 + 4 * t) 5 0) (7 + 4 * t) 6 0) 3 ln 4 (nI s) (nI (cA + cB)), ?_, fun J hJ => ?_⟩
  · simp (disch := omega) only [e_iconst, e_bipush, e_sipush, e_iload_n, e_iload, e_aload_n, e_aload, e_istore_n, e_istore, e_astore_n, e_astore, e_iinc, e_iadd, e_isub, e_imul, e_iand, e_ishr, e_idiv, e_i2c, e_dup_i, e_dup_r, e_dup2, e_pop, e_goto, e_nop, e_if_eq, e_if_ne, e_if_lt, e_if_ge, e_if_gt, e_if_le, e_icmp_eq, e_icmp_ne, e_icmp_lt, e_icmp_ge, e_icmp_gt, e_icmp_le, e_tsw, e_ret0, e_ret1, e_retn, e_getI, e_getZ, e_getR, e_getV, e_getC, e_putI, e_putZ, e_putF, e_gst0, e_gst1, e_sld, e_iald, e_cald, e_bald, e_iast, e_cast, e_aald, e_aast, e_alen, e_slen, e_blen, e_newa, e_newq, e_new, e_oinit, e_ctor, e_virt, e_stat, e_min, e_copy, e_ldc, List.cons_append, List.nil_append, List.append_nil, List.length_cons, List.length_nil, List.replicate_succ, List.replicate_zero, List.getElem?_cons_zero, List.getElem?_cons_succ, List.set_cons_zero, List.set_cons_succ, List.take_succ_cons, List.take_zero, List.drop_succ_cons, List.drop_zero, List.reverse_cons, List.reverse_nil, Option.toList_some, Option.toList_none, Nat.reduceSub, Nat.reduceAdd, Nat.reduceLeDiff, true_and, and_true, and_self, Option.some.injEq, exists_eq_left', Nat.zero_add, Value.int.injEq, Value.ref.injEq, List.cons.injEq, exists_and_left, and_assoc, exists_eq_left, E_in 63, N_63, B_63_0, bk_63_0, B_63_16, bk_63_16, C_82, m_isSp hs, m_isSp ht, n_eq, hne, o_eq, if_pos, if_neg, not_true_eq_false, not_false_eq_true, or_true, true_or, or_false, false_or, false_and, and_false, Nat.reduceEqDiff, Nat.reduceLT, Nat.reduceMul, Nat.not_lt_zero, Nat.zero_le, Nat.le_refl, ne_eq, reduceIte, reduceCtorEq]
    simp (disch := omega) only [e_iconst, e_bipush, e_sipush, e_iload_n, e_iload, e_aload_n, e_aload, e_istore_n, e_istore, e_astore_n, e_astore, e_iinc, e_iadd, e_isub, e_imul, e_iand, e_ishr, e_idiv, e_i2c, e_dup_i, e_dup_r, e_dup2, e_pop, e_goto, e_nop, e_if_eq, e_if_ne, e_if_lt, e_if_ge, e_if_gt, e_if_le, e_icmp_eq, e_icmp_ne, e_icmp_lt, e_icmp_ge, e_icmp_gt, e_icmp_le, e_tsw, e_ret0, e_ret1, e_retn, e_getI, e_getZ, e_getR, e_getV, e_getC, e_putI, e_putZ, e_putF, e_gst0, e_gst1, e_sld, e_iald, e_cald, e_bald, e_iast, e_cast, e_aald, e_aast, e_alen, e_slen, e_blen, e_newa, e_newq, e_new, e_oinit, e_ctor, e_virt, e_stat, e_min, e_copy, e_ldc, List.cons_append, List.nil_append, List.append_nil, List.length_cons, List.length_nil, List.replicate_succ, List.replicate_zero, List.getElem?_cons_zero, List.getElem?_cons_succ, List.set_cons_zero, List.set_cons_succ, List.take_succ_cons, List.take_zero, List.drop_succ_cons, List.drop_zero, List.reverse_cons, List.reverse_nil, Option.toList_some, Option.toList_none, Nat.reduceSub, Nat.reduceAdd, Nat.reduceLeDiff, true_and, and_true, and_self, Option.some.injEq, exists_eq_left', Nat.zero_add, Value.int.injEq, Value.ref.injEq, List.cons.injEq, exists_and_left, and_assoc, exists_eq_left, B_63_24, bk_63_24, B_63_63, bk_63_63, a0, a1, gs0, gs1, gs2, zw0A, zw0B, rwA, rwB, n_in, n_cl, true_or, or_true, f1A, f1B, f3A, f3B, n_add, o_le_l, o_eq_l, if_neg, if_pos, if_pos, if_neg, not_true_eq_false, not_false_eq_true, or_true, true_or, or_false, false_or, false_and, and_false, Nat.reduceEqDiff, Nat.reduceLT, Nat.reduceMul, Nat.not_lt_zero, Nat.zero_le, Nat.le_refl, ne_eq, reduceIte, reduceCtorEq]
    rw [B_63_81]
    simp (disch := omega) only [e_iconst, e_bipush, e_sipush, e_iload_n, e_iload, e_aload_n, e_aload, e_istore_n, e_istore, e_astore_n, e_astore, e_iinc, e_iadd, e_isub, e_imul, e_iand, e_ishr, e_idiv, e_i2c, e_dup_i, e_dup_r, e_dup2, e_pop, e_goto, e_nop, e_if_eq, e_if_ne, e_if_lt, e_if_ge, e_if_gt, e_if_le, e_icmp_eq, e_icmp_ne, e_icmp_lt, e_icmp_ge, e_icmp_gt, e_icmp_le, e_tsw, e_ret0, e_ret1, e_retn, e_getI, e_getZ, e_getR, e_getV, e_getC, e_putI, e_putZ, e_putF, e_gst0, e_gst1, e_sld, e_iald, e_cald, e_bald, e_iast, e_cast, e_aald, e_aast, e_alen, e_slen, e_blen, e_newa, e_newq, e_new, e_oinit, e_ctor, e_virt, e_stat, e_min, e_copy, e_ldc, List.cons_append, List.nil_append, List.append_nil, List.length_cons, List.length_nil, List.replicate_succ, List.replicate_zero, List.getElem?_cons_zero, List.getElem?_cons_succ, List.set_cons_zero, List.set_cons_succ, List.take_succ_cons, List.take_zero, List.drop_succ_cons, List.drop_zero, List.reverse_cons, List.reverse_nil, Option.toList_some, Option.toList_none, Nat.reduceSub, Nat.reduceAdd, Nat.reduceLeDiff, true_and, and_true, and_self, Option.some.injEq, exists_eq_left', Nat.zero_add, Value.int.injEq, Value.ref.injEq, List.cons.injEq, exists_and_left, and_assoc, exists_eq_left, bk_63_81, a0, a1, a2, gs0, gh0, zw0A, C_9, C_48, C_14, a_remember g hv hn hn2, m_join' zwtA zwtB hab hcA hfB (by omega), a1t, gt3, gsl, s_ne, s_eq, if_pos, if_neg, not_true_eq_false, not_false_eq_true, or_true, true_or, or_false, false_or, false_and, and_false, Nat.reduceEqDiff, Nat.reduceLT, Nat.reduceMul, Nat.not_lt_zero, Nat.zero_le, Nat.le_refl, ne_eq, reduceIte, reduceCtorEq]
    rw [m_logAdd gt4 (n := ln) ?_ l1]
    · simp (disch := omega) only [e_iconst, e_bipush, e_sipush, e_iload_n, e_iload, e_aload_n, e_aload, e_istore_n, e_istore, e_astore_n, e_astore, e_iinc, e_iadd, e_isub, e_imul, e_iand, e_ishr, e_idiv, e_i2c, e_dup_i, e_dup_r, e_dup2, e_pop, e_goto, e_nop, e_if_eq, e_if_ne, e_if_lt, e_if_ge, e_if_gt, e_if_le, e_icmp_eq, e_icmp_ne, e_icmp_lt, e_icmp_ge, e_icmp_gt, e_icmp_le, e_tsw, e_ret0, e_ret1, e_retn, e_getI, e_getZ, e_getR, e_getV, e_getC, e_putI, e_putZ, e_putF, e_gst0, e_gst1, e_sld, e_iald, e_cald, e_bald, e_iast, e_cast, e_aald, e_aast, e_alen, e_slen, e_blen, e_newa, e_newq, e_new, e_oinit, e_ctor, e_virt, e_stat, e_min, e_copy, e_ldc, List.cons_append, List.nil_append, List.append_nil, List.length_cons, List.length_nil, List.replicate_succ, List.replicate_zero, List.getElem?_cons_zero, List.getElem?_cons_succ, List.set_cons_zero, List.set_cons_succ, List.take_succ_cons, List.take_zero, List.drop_succ_cons, List.drop_zero, List.reverse_cons, List.reverse_nil, Option.toList_some, Option.toList_none, Nat.reduceSub, Nat.reduceAdd, Nat.reduceLeDiff, true_and, and_true, and_self, Option.some.injEq, exists_eq_left', Nat.zero_add, Value.int.injEq, Value.ref.injEq, List.cons.injEq, exists_and_left, and_assoc, exists_eq_left, zw0A, s_ne, s_eq, lAd_o, if_pos, if_neg, not_true_eq_false, not_false_eq_true, or_true, true_or, or_false, false_or, false_and, and_false, Nat.reduceEqDiff, Nat.reduceLT, Nat.reduceMul, Nat.not_lt_zero, Nat.zero_le, Nat.le_refl, ne_eq, reduceIte, reduceCtorEq]
    · simp (disch := omega) only [s_ne, wAp_o, hRm_o]; exact l2
  · have j5 : J 195 = I 195 := by rw [SCR_row hJ (by omega)]; funext j; simp (disch := omega) only [lAd_o, s_ne, wAp_o, hRm_o]
    have j2 : J 194 2 = nI n := by rw [SCR_m hJ (by omega)]; simp (disch := omega) only [lAd_o, s_ne, wAp_o, hRm_o]; exact hk
    have jr : rRec J n 195 = I 195 := by rw [rRec_o (by omega)]; exact j5
    simp (disch := omega) only [e_iconst, e_bipush, e_sipush, e_iload_n, e_iload, e_aload_n, e_aload, e_istore_n, e_istore, e_astore_n, e_astore, e_iinc, e_iadd, e_isub, e_imul, e_iand, e_ishr, e_idiv, e_i2c, e_dup_i, e_dup_r, e_dup2, e_pop, e_goto, e_nop, e_if_eq, e_if_ne, e_if_lt, e_if_ge, e_if_gt, e_if_le, e_icmp_eq, e_icmp_ne, e_icmp_lt, e_icmp_ge, e_icmp_gt, e_icmp_le, e_tsw, e_ret0, e_ret1, e_retn, e_getI, e_getZ, e_getR, e_getV, e_getC, e_putI, e_putZ, e_putF, e_gst0, e_gst1, e_sld, e_iald, e_cald, e_bald, e_iast, e_cast, e_aald, e_aast, e_alen, e_slen, e_blen, e_newa, e_newq, e_new, e_oinit, e_ctor, e_virt, e_stat, e_min, e_copy, e_ldc, List.cons_append, List.nil_append, List.append_nil, List.length_cons, List.length_nil, List.replicate_succ, List.replicate_zero, List.getElem?_cons_zero, List.getElem?_cons_succ, List.set_cons_zero, List.set_cons_succ, List.take_succ_cons, List.take_zero, List.drop_succ_cons, List.drop_zero, List.reverse_cons, List.reverse_nil, Option.toList_some, Option.toList_none, Nat.reduceSub, Nat.reduceAdd, Nat.reduceLeDiff, true_and, and_true, and_self, Option.some.injEq, exists_eq_left', Nat.zero_add, Value.int.injEq, Value.ref.injEq, List.cons.injEq, exists_and_left, and_assoc, exists_eq_left, E_in 105, N_105, B_105_0, bk_105_0, B_105_16, bk_105_16, C_90, r_isSp hs, r_isSp ht, n_eq, hne, o_eq, if_pos, if_neg, not_true_eq_false, not_false_eq_true, or_true, true_or, or_false, false_or, false_and, and_false, Nat.reduceEqDiff, Nat.reduceLT, Nat.reduceMul, Nat.not_lt_zero, Nat.zero_le, Nat.le_refl, ne_eq, reduceIte, reduceCtorEq]
    simp (disch := omega) only [e_iconst, e_bipush, e_sipush, e_iload_n, e_iload, e_aload_n, e_aload, e_istore_n, e_istore, e_astore_n, e_astore, e_iinc, e_iadd, e_isub, e_imul, e_iand, e_ishr, e_idiv, e_i2c, e_dup_i, e_dup_r, e_dup2, e_pop, e_goto, e_nop, e_if_eq, e_if_ne, e_if_lt, e_if_ge, e_if_gt, e_if_le, e_icmp_eq, e_icmp_ne, e_icmp_lt, e_icmp_ge, e_icmp_gt, e_icmp_le, e_tsw, e_ret0, e_ret1, e_retn, e_getI, e_getZ, e_getR, e_getV, e_getC, e_putI, e_putZ, e_putF, e_gst0, e_gst1, e_sld, e_iald, e_cald, e_bald, e_iast, e_cast, e_aald, e_aast, e_alen, e_slen, e_blen, e_newa, e_newq, e_new, e_oinit, e_ctor, e_virt, e_stat, e_min, e_copy, e_ldc, List.cons_append, List.nil_append, List.append_nil, List.length_cons, List.length_nil, List.replicate_succ, List.replicate_zero, List.getElem?_cons_zero, List.getElem?_cons_succ, List.set_cons_zero, List.set_cons_succ, List.take_succ_cons, List.take_zero, List.drop_succ_cons, List.drop_zero, List.reverse_cons, List.reverse_nil, Option.toList_some, Option.toList_none, Nat.reduceSub, Nat.reduceAdd, Nat.reduceLeDiff, true_and, and_true, and_self, Option.some.injEq, exists_eq_left', Nat.zero_add, Value.int.injEq, Value.ref.injEq, List.cons.injEq, exists_and_left, and_assoc, exists_eq_left, B_105_24, bk_105_24, B_105_43, bk_105_43, m0, C_93, C_91, r_isEmpty gmt hs, r_isEmpty gmt ht, r_ofL gmt hs, r_ofL gmt ht, j5, v1A, v1B, v3A, v3B, n_add, o_le_l, o_eq_l, o_eq, if_neg, if_pos, if_pos, if_neg, not_true_eq_false, not_false_eq_true, or_true, true_or, or_false, false_or, false_and, and_false, Nat.reduceEqDiff, Nat.reduceLT, Nat.reduceMul, Nat.not_lt_zero, Nat.zero_le, Nat.le_refl, ne_eq, reduceIte, reduceCtorEq]
    rw [B_105_70]
    simp (disch := omega) only [e_iconst, e_bipush, e_sipush, e_iload_n, e_iload, e_aload_n, e_aload, e_istore_n, e_istore, e_astore_n, e_astore, e_iinc, e_iadd, e_isub, e_imul, e_iand, e_ishr, e_idiv, e_i2c, e_dup_i, e_dup_r, e_dup2, e_pop, e_goto, e_nop, e_if_eq, e_if_ne, e_if_lt, e_if_ge, e_if_gt, e_if_le, e_icmp_eq, e_icmp_ne, e_icmp_lt, e_icmp_ge, e_icmp_gt, e_icmp_le, e_tsw, e_ret0, e_ret1, e_retn, e_getI, e_getZ, e_getR, e_getV, e_getC, e_putI, e_putZ, e_putF, e_gst0, e_gst1, e_sld, e_iald, e_cald, e_bald, e_iast, e_cast, e_aald, e_aast, e_alen, e_slen, e_blen, e_newa, e_newq, e_new, e_oinit, e_ctor, e_virt, e_stat, e_min, e_copy, e_ldc, List.cons_append, List.nil_append, List.append_nil, List.length_cons, List.length_nil, List.replicate_succ, List.replicate_zero, List.getElem?_cons_zero, List.getElem?_cons_succ, List.set_cons_zero, List.set_cons_succ, List.take_succ_cons, List.take_zero, List.drop_succ_cons, List.drop_zero, List.reverse_cons, List.reverse_nil, Option.toList_some, Option.toList_none, Nat.reduceSub, Nat.reduceAdd, Nat.reduceLeDiff, true_and, and_true, and_self, Option.some.injEq, exists_eq_left', Nat.zero_add, Value.int.injEq, Value.ref.injEq, List.cons.injEq, exists_and_left, and_assoc, exists_eq_left, bk_105_70, m0, C_95, r_record gmt j2 hn2, if_pos, if_neg, not_true_eq_false, not_false_eq_true, or_true, true_or, or_false, false_or, false_and, and_false, Nat.reduceEqDiff, Nat.reduceLT, Nat.reduceMul, Nat.not_lt_zero, Nat.zero_le, Nat.le_refl, ne_eq, reduceIte, reduceCtorEq]
    refine r_spl gmt hs ht hne (by rw [jr]; exact v2B) f5B (by omega) (by rw [jr]; exact l3) l1 ?_
    rw [jr]
    refine OPo_act g hv hn2 hH hP hT (fun x x1 x2 => by funext j; simp (disch := omega) only [lAd_o, s_ne, wAp_o]) (by funext j; simp (disch := omega) only [lAd_o, s_ne, wAp_o, hRm_o]) (fun x hx => by funext j; simp (disch := omega) only [lAd_o, s_ne, wAp_o, hRm_o]) ?_ hJ
    refine RC_upd (fun z => z = s ∨ z = t) hv (fun z _ hz => ?_) (fun z hz1 hz2 => ⟨fun d hd => ?_, fun x x1 x2 => ?_⟩) ?_
    · rcases hz with rfl | rfl
      · have hng : ngp 1 clA cA = cA + 1 + clA := rfl
        have hng2 : ngp 1 clB cB = cB + 1 + clB := rfl
        rw [hng] at k3A
        rw [hng2] at k3B
        refine ⟨1, clB, cA + cB, ⟨?_, ?_, ?_, by omega, by omega, by omega⟩, ⟨?_, ?_, ?_, by omega, by omega, by omega⟩, fun q => absurd q (by omega), fun _ => ?_, fun _ => ?_, fun k hk => ?_, fun i hi => ?_, fun q => ?_⟩
        · simp (disch := omega) only [lAd_o, s_ne, wAp_o, hRm_o]; exact f1A
        · simp (disch := omega) only [lAd_o, s_ne, s_eq]
        · simp (disch := omega) only [lAd_o, s_ne, s_eq]
        · simp (disch := omega) only [vTl_o, u_ne, vTr_o, vCc_o]; exact v1A
        · simp (disch := omega) only [vTl_o, u_ne, u_eq]
        · simp (disch := omega) only [vTl_o, u_ne, u_eq]
        · simp (disch := omega) only [lAd_o, s_ne, wAp_o, hRm_o, vTl_o, u_ne, vTr_o, vCc_o]; exact k1A rfl
        · simp (disch := omega) only [lAd_o, s_ne, wAp_lo, hRm_o]; exact k2A rfl
        · have hk2 : k < cA + cB + 1 + clB := hk
          by_cases c1 : k < cA + 1
          · simp (disch := omega) only [lAd_o, s_ne, wAp_lo, hRm_o, vTl_o, u_ne, vTr_o, vCc_o]
            exact k3A k (by omega)
          · obtain ⟨e, rfl⟩ : ∃ e, k = cA + 1 + e := ⟨k - (cA + 1), by omega⟩
            simp (disch := omega) only [lAd_o, s_ne, wAp_i, hRm_o, vTl_o, u_ne, vTr_o, vCc_l, vCc_n]
            exact k3B (0 + 1 + e) (by omega)
        · by_cases c1 : i < cA
          · simp (disch := omega) only [lAd_o, s_ne, wAp_lo, hRm_o, vTl_o, u_ne, vTr_o, vCc_o]
            exact k4A i c1
          · obtain ⟨e, rfl⟩ : ∃ e, i = cA + e := ⟨i - cA, by omega⟩
            rw [show cA + e + 1 = cA + 1 + e by omega]
            simp (disch := omega) only [lAd_o, s_ne, wAp_i, hRm_o, vTl_o, u_ne, vTr_i, vCc_o]
            have := k4B e (by omega)
            rw [show 0 + 1 + e = e + 1 by omega, show 0 + e = e by omega]
            exact this
        · rw [show cA + cB + 1 = cA + 1 + cB by omega]
          simp (disch := omega) only [lAd_o, s_ne, wAp_i, hRm_o]
          rw [show 0 + 1 + cB = cB + 1 by omega]
          exact k5B q
      · refine ⟨0, 0, 0, rW_empty ?_ ?_ ?_ ?_ ?_ ?_⟩ <;> simp (disch := omega) only [lAd_o, s_ne, s_eq, vTl_o, u_ne, u_eq]
    · funext j; simp (disch := omega) only [lAd_o, s_ne, wAp_o, hRm_o]
    · simp (disch := omega) only [vTl_o, u_ne, vTr_o, vCc_o]
    · refine rE_mk ?_ ?_ ?_ ?_ ?_ ?_ ?_ ?_ ?_ (rL_add l1 ?_ ?_ (fun e he => ?_)) <;> simp (disch := omega) only [lAd_o, s_ne, s_eq, wAp_o, hRm_o, vTl_o, u_ne, u_eq, vTr_o, vCc_o, e2, e3, e4, e5, e6, e7, e8]
      · exact e9
      · exact e10
      · exact l2
      · exact l3
      · exact l4 e he
end
