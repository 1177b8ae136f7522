/-! ROWS of the ghost machine -/
section GROWS
variable {K : mK} {y a b : Nat} {v p q : Int32} {is : List mIns} {L st : List Value} {G : gS} {o : Nat} {Q : Option Value → gS → Prop}
theorem g_iconst {k : Int} {c : Nat} : Eg K y ((.iconst k, a, b, (no_index (OfNat.ofNat c) : Int32)) :: is) L st G Q ↔ Eg K y is L (.int (nI (OfNat.ofNat c)) :: st) G Q := Eg_nx rfl rfl
theorem g_iconstN {k : Int} {c : Nat} : Eg K y ((.iconst k, a, b, -(no_index (OfNat.ofNat c) : Int32)) :: is) L st G Q ↔ Eg K y is L (.int (-(OfNat.ofNat c)) :: st) G Q := Eg_nx rfl rfl
theorem g_bipush {k : Int} {c : Nat} : Eg K y ((.bipush k, a, b, (no_index (OfNat.ofNat c) : Int32)) :: is) L st G Q ↔ Eg K y is L (.int (nI (OfNat.ofNat c)) :: st) G Q := Eg_nx rfl rfl
theorem g_bipushN {k : Int} {c : Nat} : Eg K y ((.bipush k, a, b, -(no_index (OfNat.ofNat c) : Int32)) :: is) L st G Q ↔ Eg K y is L (.int (-(OfNat.ofNat c)) :: st) G Q := Eg_nx rfl rfl
theorem g_sipush {k : Int} {c : Nat} : Eg K y ((.sipush k, a, b, (no_index (OfNat.ofNat c) : Int32)) :: is) L st G Q ↔ Eg K y is L (.int (nI (OfNat.ofNat c)) :: st) G Q := Eg_nx rfl rfl
theorem g_sipushN {k : Int} {c : Nat} : Eg K y ((.sipush k, a, b, -(no_index (OfNat.ofNat c) : Int32)) :: is) L st G Q ↔ Eg K y is L (.int (-(OfNat.ofNat c)) :: st) G Q := Eg_nx rfl rfl
theorem g_ldc {k c : Nat} : Eg K y ((.ldc k, a, 1, (no_index (OfNat.ofNat c) : Int32)) :: is) L st G Q ↔ Eg K y is L (.int (nI (OfNat.ofNat c)) :: st) G Q := Eg_nx rfl rfl
theorem g_ldc2 {k : Nat} : Eg K y ((.ldc2_w k, a, b, v) :: is) L st G Q ↔ Eg K y is L (.long v.toInt64 :: st) G Q := Eg_nx rfl rfl
theorem g_al0 {k : Fin 4} : Eg K y ((.aload_n k, 0, b, v) :: is) (.ref o :: L) st G Q ↔ Eg K y is (.ref o :: L) (.ref o :: st) G Q := Eg_nx rfl rfl
theorem g_il0 {k : Fin 4} : Eg K y ((.iload_n k, 0, b, v) :: is) (.int p :: L) st G Q ↔ Eg K y is (.int p :: L) (.int p :: st) G Q := Eg_nx rfl rfl
theorem g_ii0 {k c : Nat} {m : Int} : Eg K y ((.iinc k m, 0, b, (no_index (OfNat.ofNat c) : Int32)) :: is) (.int p :: L) st G Q ↔ Eg K y is (.int (p + nI (OfNat.ofNat c)) :: L) st G Q := Eg_nx rfl rfl
theorem g_ll0 {k : Fin 4} {q : Int64} : Eg K y ((.lload_n k, 0, b, v) :: is) (.long q :: .null :: L) st G Q ↔ Eg K y is (.long q :: .null :: L) (.long q :: st) G Q := Eg_nx rfl rfl
theorem g_al1 {x0 : Value} {k : Fin 4} : Eg K y ((.aload_n k, 1, b, v) :: is) (x0 :: .ref o :: L) st G Q ↔ Eg K y is (x0 :: .ref o :: L) (.ref o :: st) G Q := Eg_nx rfl rfl
theorem g_il1 {x0 : Value} {k : Fin 4} : Eg K y ((.iload_n k, 1, b, v) :: is) (x0 :: .int p :: L) st G Q ↔ Eg K y is (x0 :: .int p :: L) (.int p :: st) G Q := Eg_nx rfl rfl
theorem g_ii1 {x0 : Value} {k c : Nat} {m : Int} : Eg K y ((.iinc k m, 1, b, (no_index (OfNat.ofNat c) : Int32)) :: is) (x0 :: .int p :: L) st G Q ↔ Eg K y is (x0 :: .int (p + nI (OfNat.ofNat c)) :: L) st G Q := Eg_nx rfl rfl
theorem g_ll1 {x0 : Value} {k : Fin 4} {q : Int64} : Eg K y ((.lload_n k, 1, b, v) :: is) (x0 :: .long q :: .null :: L) st G Q ↔ Eg K y is (x0 :: .long q :: .null :: L) (.long q :: st) G Q := Eg_nx rfl rfl
theorem g_al2 {x0 x1 : Value} {k : Fin 4} : Eg K y ((.aload_n k, 2, b, v) :: is) (x0 :: x1 :: .ref o :: L) st G Q ↔ Eg K y is (x0 :: x1 :: .ref o :: L) (.ref o :: st) G Q := Eg_nx rfl rfl
theorem g_il2 {x0 x1 : Value} {k : Fin 4} : Eg K y ((.iload_n k, 2, b, v) :: is) (x0 :: x1 :: .int p :: L) st G Q ↔ Eg K y is (x0 :: x1 :: .int p :: L) (.int p :: st) G Q := Eg_nx rfl rfl
theorem g_ii2 {x0 x1 : Value} {k c : Nat} {m : Int} : Eg K y ((.iinc k m, 2, b, (no_index (OfNat.ofNat c) : Int32)) :: is) (x0 :: x1 :: .int p :: L) st G Q ↔ Eg K y is (x0 :: x1 :: .int (p + nI (OfNat.ofNat c)) :: L) st G Q := Eg_nx rfl rfl
theorem g_ll2 {x0 x1 : Value} {k : Fin 4} {q : Int64} : Eg K y ((.lload_n k, 2, b, v) :: is) (x0 :: x1 :: .long q :: .null :: L) st G Q ↔ Eg K y is (x0 :: x1 :: .long q :: .null :: L) (.long q :: st) G Q := Eg_nx rfl rfl
theorem g_al3 {x0 x1 x2 : Value} {k : Fin 4} : Eg K y ((.aload_n k, 3, b, v) :: is) (x0 :: x1 :: x2 :: .ref o :: L) st G Q ↔ Eg K y is (x0 :: x1 :: x2 :: .ref o :: L) (.ref o :: st) G Q := Eg_nx rfl rfl
theorem g_il3 {x0 x1 x2 : Value} {k : Fin 4} : Eg K y ((.iload_n k, 3, b, v) :: is) (x0 :: x1 :: x2 :: .int p :: L) st G Q ↔ Eg K y is (x0 :: x1 :: x2 :: .int p :: L) (.int p :: st) G Q := Eg_nx rfl rfl
theorem g_ii3 {x0 x1 x2 : Value} {k c : Nat} {m : Int} : Eg K y ((.iinc k m, 3, b, (no_index (OfNat.ofNat c) : Int32)) :: is) (x0 :: x1 :: x2 :: .int p :: L) st G Q ↔ Eg K y is (x0 :: x1 :: x2 :: .int (p + nI (OfNat.ofNat c)) :: L) st G Q := Eg_nx rfl rfl
theorem g_ll3 {x0 x1 x2 : Value} {k : Fin 4} {q : Int64} : Eg K y ((.lload_n k, 3, b, v) :: is) (x0 :: x1 :: x2 :: .long q :: .null :: L) st G Q ↔ Eg K y is (x0 :: x1 :: x2 :: .long q :: .null :: L) (.long q :: st) G Q := Eg_nx rfl rfl
theorem g_al4 {x0 x1 x2 x3 : Value} {k : Nat} : Eg K y ((.aload k, 4, b, v) :: is) (x0 :: x1 :: x2 :: x3 :: .ref o :: L) st G Q ↔ Eg K y is (x0 :: x1 :: x2 :: x3 :: .ref o :: L) (.ref o :: st) G Q := Eg_nx rfl rfl
theorem g_il4 {x0 x1 x2 x3 : Value} {k : Nat} : Eg K y ((.iload k, 4, b, v) :: is) (x0 :: x1 :: x2 :: x3 :: .int p :: L) st G Q ↔ Eg K y is (x0 :: x1 :: x2 :: x3 :: .int p :: L) (.int p :: st) G Q := Eg_nx rfl rfl
theorem g_ii4 {x0 x1 x2 x3 : Value} {k c : Nat} {m : Int} : Eg K y ((.iinc k m, 4, b, (no_index (OfNat.ofNat c) : Int32)) :: is) (x0 :: x1 :: x2 :: x3 :: .int p :: L) st G Q ↔ Eg K y is (x0 :: x1 :: x2 :: x3 :: .int (p + nI (OfNat.ofNat c)) :: L) st G Q := Eg_nx rfl rfl
theorem g_ll4 {x0 x1 x2 x3 : Value} {k : Nat} {q : Int64} : Eg K y ((.lload k, 4, b, v) :: is) (x0 :: x1 :: x2 :: x3 :: .long q :: .null :: L) st G Q ↔ Eg K y is (x0 :: x1 :: x2 :: x3 :: .long q :: .null :: L) (.long q :: st) G Q := Eg_nx rfl rfl
theorem g_al5 {x0 x1 x2 x3 x4 : Value} {k : Nat} : Eg K y ((.aload k, 5, b, v) :: is) (x0 :: x1 :: x2 :: x3 :: x4 :: .ref o :: L) st G Q ↔ Eg K y is (x0 :: x1 :: x2 :: x3 :: x4 :: .ref o :: L) (.ref o :: st) G Q := Eg_nx rfl rfl
theorem g_il5 {x0 x1 x2 x3 x4 : Value} {k : Nat} : Eg K y ((.iload k, 5, b, v) :: is) (x0 :: x1 :: x2 :: x3 :: x4 :: .int p :: L) st G Q ↔ Eg K y is (x0 :: x1 :: x2 :: x3 :: x4 :: .int p :: L) (.int p :: st) G Q := Eg_nx rfl rfl
theorem g_ii5 {x0 x1 x2 x3 x4 : Value} {k c : Nat} {m : Int} : Eg K y ((.iinc k m, 5, b, (no_index (OfNat.ofNat c) : Int32)) :: is) (x0 :: x1 :: x2 :: x3 :: x4 :: .int p :: L) st G Q ↔ Eg K y is (x0 :: x1 :: x2 :: x3 :: x4 :: .int (p + nI (OfNat.ofNat c)) :: L) st G Q := Eg_nx rfl rfl
theorem g_ll5 {x0 x1 x2 x3 x4 : Value} {k : Nat} {q : Int64} : Eg K y ((.lload k, 5, b, v) :: is) (x0 :: x1 :: x2 :: x3 :: x4 :: .long q :: .null :: L) st G Q ↔ Eg K y is (x0 :: x1 :: x2 :: x3 :: x4 :: .long q :: .null :: L) (.long q :: st) G Q := Eg_nx rfl rfl
theorem g_al6 {x0 x1 x2 x3 x4 x5 : Value} {k : Nat} : Eg K y ((.aload k, 6, b, v) :: is) (x0 :: x1 :: x2 :: x3 :: x4 :: x5 :: .ref o :: L) st G Q ↔ Eg K y is (x0 :: x1 :: x2 :: x3 :: x4 :: x5 :: .ref o :: L) (.ref o :: st) G Q := Eg_nx rfl rfl
theorem g_il6 {x0 x1 x2 x3 x4 x5 : Value} {k : Nat} : Eg K y ((.iload k, 6, b, v) :: is) (x0 :: x1 :: x2 :: x3 :: x4 :: x5 :: .int p :: L) st G Q ↔ Eg K y is (x0 :: x1 :: x2 :: x3 :: x4 :: x5 :: .int p :: L) (.int p :: st) G Q := Eg_nx rfl rfl
theorem g_ii6 {x0 x1 x2 x3 x4 x5 : Value} {k c : Nat} {m : Int} : Eg K y ((.iinc k m, 6, b, (no_index (OfNat.ofNat c) : Int32)) :: is) (x0 :: x1 :: x2 :: x3 :: x4 :: x5 :: .int p :: L) st G Q ↔ Eg K y is (x0 :: x1 :: x2 :: x3 :: x4 :: x5 :: .int (p + nI (OfNat.ofNat c)) :: L) st G Q := Eg_nx rfl rfl
theorem g_ll6 {x0 x1 x2 x3 x4 x5 : Value} {k : Nat} {q : Int64} : Eg K y ((.lload k, 6, b, v) :: is) (x0 :: x1 :: x2 :: x3 :: x4 :: x5 :: .long q :: .null :: L) st G Q ↔ Eg K y is (x0 :: x1 :: x2 :: x3 :: x4 :: x5 :: .long q :: .null :: L) (.long q :: st) G Q := Eg_nx rfl rfl
theorem g_al7 {x0 x1 x2 x3 x4 x5 x6 : Value} {k : Nat} : Eg K y ((.aload k, 7, b, v) :: is) (x0 :: x1 :: x2 :: x3 :: x4 :: x5 :: x6 :: .ref o :: L) st G Q ↔ Eg K y is (x0 :: x1 :: x2 :: x3 :: x4 :: x5 :: x6 :: .ref o :: L) (.ref o :: st) G Q := Eg_nx rfl rfl
theorem g_il7 {x0 x1 x2 x3 x4 x5 x6 : Value} {k : Nat} : Eg K y ((.iload k, 7, b, v) :: is) (x0 :: x1 :: x2 :: x3 :: x4 :: x5 :: x6 :: .int p :: L) st G Q ↔ Eg K y is (x0 :: x1 :: x2 :: x3 :: x4 :: x5 :: x6 :: .int p :: L) (.int p :: st) G Q := Eg_nx rfl rfl
theorem g_ii7 {x0 x1 x2 x3 x4 x5 x6 : Value} {k c : Nat} {m : Int} : Eg K y ((.iinc k m, 7, b, (no_index (OfNat.ofNat c) : Int32)) :: is) (x0 :: x1 :: x2 :: x3 :: x4 :: x5 :: x6 :: .int p :: L) st G Q ↔ Eg K y is (x0 :: x1 :: x2 :: x3 :: x4 :: x5 :: x6 :: .int (p + nI (OfNat.ofNat c)) :: L) st G Q := Eg_nx rfl rfl
theorem g_ll7 {x0 x1 x2 x3 x4 x5 x6 : Value} {k : Nat} {q : Int64} : Eg K y ((.lload k, 7, b, v) :: is) (x0 :: x1 :: x2 :: x3 :: x4 :: x5 :: x6 :: .long q :: .null :: L) st G Q ↔ Eg K y is (x0 :: x1 :: x2 :: x3 :: x4 :: x5 :: x6 :: .long q :: .null :: L) (.long q :: st) G Q := Eg_nx rfl rfl
theorem g_al8 {x0 x1 x2 x3 x4 x5 x6 x7 : Value} {k : Nat} : Eg K y ((.aload k, 8, b, v) :: is) (x0 :: x1 :: x2 :: x3 :: x4 :: x5 :: x6 :: x7 :: .ref o :: L) st G Q ↔ Eg K y is (x0 :: x1 :: x2 :: x3 :: x4 :: x5 :: x6 :: x7 :: .ref o :: L) (.ref o :: st) G Q := Eg_nx rfl rfl
theorem g_il8 {x0 x1 x2 x3 x4 x5 x6 x7 : Value} {k : Nat} : Eg K y ((.iload k, 8, b, v) :: is) (x0 :: x1 :: x2 :: x3 :: x4 :: x5 :: x6 :: x7 :: .int p :: L) st G Q ↔ Eg K y is (x0 :: x1 :: x2 :: x3 :: x4 :: x5 :: x6 :: x7 :: .int p :: L) (.int p :: st) G Q := Eg_nx rfl rfl
theorem g_ii8 {x0 x1 x2 x3 x4 x5 x6 x7 : Value} {k c : Nat} {m : Int} : Eg K y ((.iinc k m, 8, b, (no_index (OfNat.ofNat c) : Int32)) :: is) (x0 :: x1 :: x2 :: x3 :: x4 :: x5 :: x6 :: x7 :: .int p :: L) st G Q ↔ Eg K y is (x0 :: x1 :: x2 :: x3 :: x4 :: x5 :: x6 :: x7 :: .int (p + nI (OfNat.ofNat c)) :: L) st G Q := Eg_nx rfl rfl
theorem g_ll8 {x0 x1 x2 x3 x4 x5 x6 x7 : Value} {k : Nat} {q : Int64} : Eg K y ((.lload k, 8, b, v) :: is) (x0 :: x1 :: x2 :: x3 :: x4 :: x5 :: x6 :: x7 :: .long q :: .null :: L) st G Q ↔ Eg K y is (x0 :: x1 :: x2 :: x3 :: x4 :: x5 :: x6 :: x7 :: .long q :: .null :: L) (.long q :: st) G Q := Eg_nx rfl rfl
theorem g_al9 {x0 x1 x2 x3 x4 x5 x6 x7 x8 : Value} {k : Nat} : Eg K y ((.aload k, 9, b, v) :: is) (x0 :: x1 :: x2 :: x3 :: x4 :: x5 :: x6 :: x7 :: x8 :: .ref o :: L) st G Q ↔ Eg K y is (x0 :: x1 :: x2 :: x3 :: x4 :: x5 :: x6 :: x7 :: x8 :: .ref o :: L) (.ref o :: st) G Q := Eg_nx rfl rfl
theorem g_il9 {x0 x1 x2 x3 x4 x5 x6 x7 x8 : Value} {k : Nat} : Eg K y ((.iload k, 9, b, v) :: is) (x0 :: x1 :: x2 :: x3 :: x4 :: x5 :: x6 :: x7 :: x8 :: .int p :: L) st G Q ↔ Eg K y is (x0 :: x1 :: x2 :: x3 :: x4 :: x5 :: x6 :: x7 :: x8 :: .int p :: L) (.int p :: st) G Q := Eg_nx rfl rfl
theorem g_ii9 {x0 x1 x2 x3 x4 x5 x6 x7 x8 : Value} {k c : Nat} {m : Int} : Eg K y ((.iinc k m, 9, b, (no_index (OfNat.ofNat c) : Int32)) :: is) (x0 :: x1 :: x2 :: x3 :: x4 :: x5 :: x6 :: x7 :: x8 :: .int p :: L) st G Q ↔ Eg K y is (x0 :: x1 :: x2 :: x3 :: x4 :: x5 :: x6 :: x7 :: x8 :: .int (p + nI (OfNat.ofNat c)) :: L) st G Q := Eg_nx rfl rfl
theorem g_ll9 {x0 x1 x2 x3 x4 x5 x6 x7 x8 : Value} {k : Nat} {q : Int64} : Eg K y ((.lload k, 9, b, v) :: is) (x0 :: x1 :: x2 :: x3 :: x4 :: x5 :: x6 :: x7 :: x8 :: .long q :: .null :: L) st G Q ↔ Eg K y is (x0 :: x1 :: x2 :: x3 :: x4 :: x5 :: x6 :: x7 :: x8 :: .long q :: .null :: L) (.long q :: st) G Q := Eg_nx rfl rfl
theorem g_al10 {x0 x1 x2 x3 x4 x5 x6 x7 x8 x9 : Value} {k : Nat} : Eg K y ((.aload k, 10, b, v) :: is) (x0 :: x1 :: x2 :: x3 :: x4 :: x5 :: x6 :: x7 :: x8 :: x9 :: .ref o :: L) st G Q ↔ Eg K y is (x0 :: x1 :: x2 :: x3 :: x4 :: x5 :: x6 :: x7 :: x8 :: x9 :: .ref o :: L) (.ref o :: st) G Q := Eg_nx rfl rfl
theorem g_il10 {x0 x1 x2 x3 x4 x5 x6 x7 x8 x9 : Value} {k : Nat} : Eg K y ((.iload k, 10, b, v) :: is) (x0 :: x1 :: x2 :: x3 :: x4 :: x5 :: x6 :: x7 :: x8 :: x9 :: .int p :: L) st G Q ↔ Eg K y is (x0 :: x1 :: x2 :: x3 :: x4 :: x5 :: x6 :: x7 :: x8 :: x9 :: .int p :: L) (.int p :: st) G Q := Eg_nx rfl rfl
theorem g_ii10 {x0 x1 x2 x3 x4 x5 x6 x7 x8 x9 : Value} {k c : Nat} {m : Int} : Eg K y ((.iinc k m, 10, b, (no_index (OfNat.ofNat c) : Int32)) :: is) (x0 :: x1 :: x2 :: x3 :: x4 :: x5 :: x6 :: x7 :: x8 :: x9 :: .int p :: L) st G Q ↔ Eg K y is (x0 :: x1 :: x2 :: x3 :: x4 :: x5 :: x6 :: x7 :: x8 :: x9 :: .int (p + nI (OfNat.ofNat c)) :: L) st G Q := Eg_nx rfl rfl
theorem g_ll10 {x0 x1 x2 x3 x4 x5 x6 x7 x8 x9 : Value} {k : Nat} {q : Int64} : Eg K y ((.lload k, 10, b, v) :: is) (x0 :: x1 :: x2 :: x3 :: x4 :: x5 :: x6 :: x7 :: x8 :: x9 :: .long q :: .null :: L) st G Q ↔ Eg K y is (x0 :: x1 :: x2 :: x3 :: x4 :: x5 :: x6 :: x7 :: x8 :: x9 :: .long q :: .null :: L) (.long q :: st) G Q := Eg_nx rfl rfl
theorem g_al11 {x0 x1 x2 x3 x4 x5 x6 x7 x8 x9 x10 : Value} {k : Nat} : Eg K y ((.aload k, 11, b, v) :: is) (x0 :: x1 :: x2 :: x3 :: x4 :: x5 :: x6 :: x7 :: x8 :: x9 :: x10 :: .ref o :: L) st G Q ↔ Eg K y is (x0 :: x1 :: x2 :: x3 :: x4 :: x5 :: x6 :: x7 :: x8 :: x9 :: x10 :: .ref o :: L) (.ref o :: st) G Q := Eg_nx rfl rfl
theorem g_il11 {x0 x1 x2 x3 x4 x5 x6 x7 x8 x9 x10 : Value} {k : Nat} : Eg K y ((.iload k, 11, b, v) :: is) (x0 :: x1 :: x2 :: x3 :: x4 :: x5 :: x6 :: x7 :: x8 :: x9 :: x10 :: .int p :: L) st G Q ↔ Eg K y is (x0 :: x1 :: x2 :: x3 :: x4 :: x5 :: x6 :: x7 :: x8 :: x9 :: x10 :: .int p :: L) (.int p :: st) G Q := Eg_nx rfl rfl
theorem g_ii11 {x0 x1 x2 x3 x4 x5 x6 x7 x8 x9 x10 : Value} {k c : Nat} {m : Int} : Eg K y ((.iinc k m, 11, b, (no_index (OfNat.ofNat c) : Int32)) :: is) (x0 :: x1 :: x2 :: x3 :: x4 :: x5 :: x6 :: x7 :: x8 :: x9 :: x10 :: .int p :: L) st G Q ↔ Eg K y is (x0 :: x1 :: x2 :: x3 :: x4 :: x5 :: x6 :: x7 :: x8 :: x9 :: x10 :: .int (p + nI (OfNat.ofNat c)) :: L) st G Q := Eg_nx rfl rfl
theorem g_ll11 {x0 x1 x2 x3 x4 x5 x6 x7 x8 x9 x10 : Value} {k : Nat} {q : Int64} : Eg K y ((.lload k, 11, b, v) :: is) (x0 :: x1 :: x2 :: x3 :: x4 :: x5 :: x6 :: x7 :: x8 :: x9 :: x10 :: .long q :: .null :: L) st G Q ↔ Eg K y is (x0 :: x1 :: x2 :: x3 :: x4 :: x5 :: x6 :: x7 :: x8 :: x9 :: x10 :: .long q :: .null :: L) (.long q :: st) G Q := Eg_nx rfl rfl
theorem g_al12 {x0 x1 x2 x3 x4 x5 x6 x7 x8 x9 x10 x11 : Value} {k : Nat} : Eg K y ((.aload k, 12, b, v) :: is) (x0 :: x1 :: x2 :: x3 :: x4 :: x5 :: x6 :: x7 :: x8 :: x9 :: x10 :: x11 :: .ref o :: L) st G Q ↔ Eg K y is (x0 :: x1 :: x2 :: x3 :: x4 :: x5 :: x6 :: x7 :: x8 :: x9 :: x10 :: x11 :: .ref o :: L) (.ref o :: st) G Q := Eg_nx rfl rfl
theorem g_il12 {x0 x1 x2 x3 x4 x5 x6 x7 x8 x9 x10 x11 : Value} {k : Nat} : Eg K y ((.iload k, 12, b, v) :: is) (x0 :: x1 :: x2 :: x3 :: x4 :: x5 :: x6 :: x7 :: x8 :: x9 :: x10 :: x11 :: .int p :: L) st G Q ↔ Eg K y is (x0 :: x1 :: x2 :: x3 :: x4 :: x5 :: x6 :: x7 :: x8 :: x9 :: x10 :: x11 :: .int p :: L) (.int p :: st) G Q := Eg_nx rfl rfl
theorem g_ii12 {x0 x1 x2 x3 x4 x5 x6 x7 x8 x9 x10 x11 : Value} {k c : Nat} {m : Int} : Eg K y ((.iinc k m, 12, b, (no_index (OfNat.ofNat c) : Int32)) :: is) (x0 :: x1 :: x2 :: x3 :: x4 :: x5 :: x6 :: x7 :: x8 :: x9 :: x10 :: x11 :: .int p :: L) st G Q ↔ Eg K y is (x0 :: x1 :: x2 :: x3 :: x4 :: x5 :: x6 :: x7 :: x8 :: x9 :: x10 :: x11 :: .int (p + nI (OfNat.ofNat c)) :: L) st G Q := Eg_nx rfl rfl
theorem g_ll12 {x0 x1 x2 x3 x4 x5 x6 x7 x8 x9 x10 x11 : Value} {k : Nat} {q : Int64} : Eg K y ((.lload k, 12, b, v) :: is) (x0 :: x1 :: x2 :: x3 :: x4 :: x5 :: x6 :: x7 :: x8 :: x9 :: x10 :: x11 :: .long q :: .null :: L) st G Q ↔ Eg K y is (x0 :: x1 :: x2 :: x3 :: x4 :: x5 :: x6 :: x7 :: x8 :: x9 :: x10 :: x11 :: .long q :: .null :: L) (.long q :: st) G Q := Eg_nx rfl rfl
theorem g_al13 {x0 x1 x2 x3 x4 x5 x6 x7 x8 x9 x10 x11 x12 : Value} {k : Nat} : Eg K y ((.aload k, 13, b, v) :: is) (x0 :: x1 :: x2 :: x3 :: x4 :: x5 :: x6 :: x7 :: x8 :: x9 :: x10 :: x11 :: x12 :: .ref o :: L) st G Q ↔ Eg K y is (x0 :: x1 :: x2 :: x3 :: x4 :: x5 :: x6 :: x7 :: x8 :: x9 :: x10 :: x11 :: x12 :: .ref o :: L) (.ref o :: st) G Q := Eg_nx rfl rfl
theorem g_il13 {x0 x1 x2 x3 x4 x5 x6 x7 x8 x9 x10 x11 x12 : Value} {k : Nat} : Eg K y ((.iload k, 13, b, v) :: is) (x0 :: x1 :: x2 :: x3 :: x4 :: x5 :: x6 :: x7 :: x8 :: x9 :: x10 :: x11 :: x12 :: .int p :: L) st G Q ↔ Eg K y is (x0 :: x1 :: x2 :: x3 :: x4 :: x5 :: x6 :: x7 :: x8 :: x9 :: x10 :: x11 :: x12 :: .int p :: L) (.int p :: st) G Q := Eg_nx rfl rfl
theorem g_ii13 {x0 x1 x2 x3 x4 x5 x6 x7 x8 x9 x10 x11 x12 : Value} {k c : Nat} {m : Int} : Eg K y ((.iinc k m, 13, b, (no_index (OfNat.ofNat c) : Int32)) :: is) (x0 :: x1 :: x2 :: x3 :: x4 :: x5 :: x6 :: x7 :: x8 :: x9 :: x10 :: x11 :: x12 :: .int p :: L) st G Q ↔ Eg K y is (x0 :: x1 :: x2 :: x3 :: x4 :: x5 :: x6 :: x7 :: x8 :: x9 :: x10 :: x11 :: x12 :: .int (p + nI (OfNat.ofNat c)) :: L) st G Q := Eg_nx rfl rfl
theorem g_ll13 {x0 x1 x2 x3 x4 x5 x6 x7 x8 x9 x10 x11 x12 : Value} {k : Nat} {q : Int64} : Eg K y ((.lload k, 13, b, v) :: is) (x0 :: x1 :: x2 :: x3 :: x4 :: x5 :: x6 :: x7 :: x8 :: x9 :: x10 :: x11 :: x12 :: .long q :: .null :: L) st G Q ↔ Eg K y is (x0 :: x1 :: x2 :: x3 :: x4 :: x5 :: x6 :: x7 :: x8 :: x9 :: x10 :: x11 :: x12 :: .long q :: .null :: L) (.long q :: st) G Q := Eg_nx rfl rfl
theorem g_al14 {x0 x1 x2 x3 x4 x5 x6 x7 x8 x9 x10 x11 x12 x13 : Value} {k : Nat} : Eg K y ((.aload k, 14, b, v) :: is) (x0 :: x1 :: x2 :: x3 :: x4 :: x5 :: x6 :: x7 :: x8 :: x9 :: x10 :: x11 :: x12 :: x13 :: .ref o :: L) st G Q ↔ Eg K y is (x0 :: x1 :: x2 :: x3 :: x4 :: x5 :: x6 :: x7 :: x8 :: x9 :: x10 :: x11 :: x12 :: x13 :: .ref o :: L) (.ref o :: st) G Q := Eg_nx rfl rfl
theorem g_il14 {x0 x1 x2 x3 x4 x5 x6 x7 x8 x9 x10 x11 x12 x13 : Value} {k : Nat} : Eg K y ((.iload k, 14, b, v) :: is) (x0 :: x1 :: x2 :: x3 :: x4 :: x5 :: x6 :: x7 :: x8 :: x9 :: x10 :: x11 :: x12 :: x13 :: .int p :: L) st G Q ↔ Eg K y is (x0 :: x1 :: x2 :: x3 :: x4 :: x5 :: x6 :: x7 :: x8 :: x9 :: x10 :: x11 :: x12 :: x13 :: .int p :: L) (.int p :: st) G Q := Eg_nx rfl rfl
theorem g_ii14 {x0 x1 x2 x3 x4 x5 x6 x7 x8 x9 x10 x11 x12 x13 : Value} {k c : Nat} {m : Int} : Eg K y ((.iinc k m, 14, b, (no_index (OfNat.ofNat c) : Int32)) :: is) (x0 :: x1 :: x2 :: x3 :: x4 :: x5 :: x6 :: x7 :: x8 :: x9 :: x10 :: x11 :: x12 :: x13 :: .int p :: L) st G Q ↔ Eg K y is (x0 :: x1 :: x2 :: x3 :: x4 :: x5 :: x6 :: x7 :: x8 :: x9 :: x10 :: x11 :: x12 :: x13 :: .int (p + nI (OfNat.ofNat c)) :: L) st G Q := Eg_nx rfl rfl
theorem g_ll14 {x0 x1 x2 x3 x4 x5 x6 x7 x8 x9 x10 x11 x12 x13 : Value} {k : Nat} {q : Int64} : Eg K y ((.lload k, 14, b, v) :: is) (x0 :: x1 :: x2 :: x3 :: x4 :: x5 :: x6 :: x7 :: x8 :: x9 :: x10 :: x11 :: x12 :: x13 :: .long q :: .null :: L) st G Q ↔ Eg K y is (x0 :: x1 :: x2 :: x3 :: x4 :: x5 :: x6 :: x7 :: x8 :: x9 :: x10 :: x11 :: x12 :: x13 :: .long q :: .null :: L) (.long q :: st) G Q := Eg_nx rfl rfl
theorem g_al15 {x0 x1 x2 x3 x4 x5 x6 x7 x8 x9 x10 x11 x12 x13 x14 : Value} {k : Nat} : Eg K y ((.aload k, 15, b, v) :: is) (x0 :: x1 :: x2 :: x3 :: x4 :: x5 :: x6 :: x7 :: x8 :: x9 :: x10 :: x11 :: x12 :: x13 :: x14 :: .ref o :: L) st G Q ↔ Eg K y is (x0 :: x1 :: x2 :: x3 :: x4 :: x5 :: x6 :: x7 :: x8 :: x9 :: x10 :: x11 :: x12 :: x13 :: x14 :: .ref o :: L) (.ref o :: st) G Q := Eg_nx rfl rfl
theorem g_il15 {x0 x1 x2 x3 x4 x5 x6 x7 x8 x9 x10 x11 x12 x13 x14 : Value} {k : Nat} : Eg K y ((.iload k, 15, b, v) :: is) (x0 :: x1 :: x2 :: x3 :: x4 :: x5 :: x6 :: x7 :: x8 :: x9 :: x10 :: x11 :: x12 :: x13 :: x14 :: .int p :: L) st G Q ↔ Eg K y is (x0 :: x1 :: x2 :: x3 :: x4 :: x5 :: x6 :: x7 :: x8 :: x9 :: x10 :: x11 :: x12 :: x13 :: x14 :: .int p :: L) (.int p :: st) G Q := Eg_nx rfl rfl
theorem g_ii15 {x0 x1 x2 x3 x4 x5 x6 x7 x8 x9 x10 x11 x12 x13 x14 : Value} {k c : Nat} {m : Int} : Eg K y ((.iinc k m, 15, b, (no_index (OfNat.ofNat c) : Int32)) :: is) (x0 :: x1 :: x2 :: x3 :: x4 :: x5 :: x6 :: x7 :: x8 :: x9 :: x10 :: x11 :: x12 :: x13 :: x14 :: .int p :: L) st G Q ↔ Eg K y is (x0 :: x1 :: x2 :: x3 :: x4 :: x5 :: x6 :: x7 :: x8 :: x9 :: x10 :: x11 :: x12 :: x13 :: x14 :: .int (p + nI (OfNat.ofNat c)) :: L) st G Q := Eg_nx rfl rfl
theorem g_ll15 {x0 x1 x2 x3 x4 x5 x6 x7 x8 x9 x10 x11 x12 x13 x14 : Value} {k : Nat} {q : Int64} : Eg K y ((.lload k, 15, b, v) :: is) (x0 :: x1 :: x2 :: x3 :: x4 :: x5 :: x6 :: x7 :: x8 :: x9 :: x10 :: x11 :: x12 :: x13 :: x14 :: .long q :: .null :: L) st G Q ↔ Eg K y is (x0 :: x1 :: x2 :: x3 :: x4 :: x5 :: x6 :: x7 :: x8 :: x9 :: x10 :: x11 :: x12 :: x13 :: x14 :: .long q :: .null :: L) (.long q :: st) G Q := Eg_nx rfl rfl
theorem g_al16 {x0 x1 x2 x3 x4 x5 x6 x7 x8 x9 x10 x11 x12 x13 x14 x15 : Value} {k : Nat} : Eg K y ((.aload k, 16, b, v) :: is) (x0 :: x1 :: x2 :: x3 :: x4 :: x5 :: x6 :: x7 :: x8 :: x9 :: x10 :: x11 :: x12 :: x13 :: x14 :: x15 :: .ref o :: L) st G Q ↔ Eg K y is (x0 :: x1 :: x2 :: x3 :: x4 :: x5 :: x6 :: x7 :: x8 :: x9 :: x10 :: x11 :: x12 :: x13 :: x14 :: x15 :: .ref o :: L) (.ref o :: st) G Q := Eg_nx rfl rfl
theorem g_il16 {x0 x1 x2 x3 x4 x5 x6 x7 x8 x9 x10 x11 x12 x13 x14 x15 : Value} {k : Nat} : Eg K y ((.iload k, 16, b, v) :: is) (x0 :: x1 :: x2 :: x3 :: x4 :: x5 :: x6 :: x7 :: x8 :: x9 :: x10 :: x11 :: x12 :: x13 :: x14 :: x15 :: .int p :: L) st G Q ↔ Eg K y is (x0 :: x1 :: x2 :: x3 :: x4 :: x5 :: x6 :: x7 :: x8 :: x9 :: x10 :: x11 :: x12 :: x13 :: x14 :: x15 :: .int p :: L) (.int p :: st) G Q := Eg_nx rfl rfl
theorem g_ii16 {x0 x1 x2 x3 x4 x5 x6 x7 x8 x9 x10 x11 x12 x13 x14 x15 : Value} {k c : Nat} {m : Int} : Eg K y ((.iinc k m, 16, b, (no_index (OfNat.ofNat c) : Int32)) :: is) (x0 :: x1 :: x2 :: x3 :: x4 :: x5 :: x6 :: x7 :: x8 :: x9 :: x10 :: x11 :: x12 :: x13 :: x14 :: x15 :: .int p :: L) st G Q ↔ Eg K y is (x0 :: x1 :: x2 :: x3 :: x4 :: x5 :: x6 :: x7 :: x8 :: x9 :: x10 :: x11 :: x12 :: x13 :: x14 :: x15 :: .int (p + nI (OfNat.ofNat c)) :: L) st G Q := Eg_nx rfl rfl
theorem g_ll16 {x0 x1 x2 x3 x4 x5 x6 x7 x8 x9 x10 x11 x12 x13 x14 x15 : Value} {k : Nat} {q : Int64} : Eg K y ((.lload k, 16, b, v) :: is) (x0 :: x1 :: x2 :: x3 :: x4 :: x5 :: x6 :: x7 :: x8 :: x9 :: x10 :: x11 :: x12 :: x13 :: x14 :: x15 :: .long q :: .null :: L) st G Q ↔ Eg K y is (x0 :: x1 :: x2 :: x3 :: x4 :: x5 :: x6 :: x7 :: x8 :: x9 :: x10 :: x11 :: x12 :: x13 :: x14 :: x15 :: .long q :: .null :: L) (.long q :: st) G Q := Eg_nx rfl rfl
theorem g_al17 {x0 x1 x2 x3 x4 x5 x6 x7 x8 x9 x10 x11 x12 x13 x14 x15 x16 : Value} {k : Nat} : Eg K y ((.aload k, 17, b, v) :: is) (x0 :: x1 :: x2 :: x3 :: x4 :: x5 :: x6 :: x7 :: x8 :: x9 :: x10 :: x11 :: x12 :: x13 :: x14 :: x15 :: x16 :: .ref o :: L) st G Q ↔ Eg K y is (x0 :: x1 :: x2 :: x3 :: x4 :: x5 :: x6 :: x7 :: x8 :: x9 :: x10 :: x11 :: x12 :: x13 :: x14 :: x15 :: x16 :: .ref o :: L) (.ref o :: st) G Q := Eg_nx rfl rfl
theorem g_il17 {x0 x1 x2 x3 x4 x5 x6 x7 x8 x9 x10 x11 x12 x13 x14 x15 x16 : Value} {k : Nat} : Eg K y ((.iload k, 17, b, v) :: is) (x0 :: x1 :: x2 :: x3 :: x4 :: x5 :: x6 :: x7 :: x8 :: x9 :: x10 :: x11 :: x12 :: x13 :: x14 :: x15 :: x16 :: .int p :: L) st G Q ↔ Eg K y is (x0 :: x1 :: x2 :: x3 :: x4 :: x5 :: x6 :: x7 :: x8 :: x9 :: x10 :: x11 :: x12 :: x13 :: x14 :: x15 :: x16 :: .int p :: L) (.int p :: st) G Q := Eg_nx rfl rfl
theorem g_ii17 {x0 x1 x2 x3 x4 x5 x6 x7 x8 x9 x10 x11 x12 x13 x14 x15 x16 : Value} {k c : Nat} {m : Int} : Eg K y ((.iinc k m, 17, b, (no_index (OfNat.ofNat c) : Int32)) :: is) (x0 :: x1 :: x2 :: x3 :: x4 :: x5 :: x6 :: x7 :: x8 :: x9 :: x10 :: x11 :: x12 :: x13 :: x14 :: x15 :: x16 :: .int p :: L) st G Q ↔ Eg K y is (x0 :: x1 :: x2 :: x3 :: x4 :: x5 :: x6 :: x7 :: x8 :: x9 :: x10 :: x11 :: x12 :: x13 :: x14 :: x15 :: x16 :: .int (p + nI (OfNat.ofNat c)) :: L) st G Q := Eg_nx rfl rfl
theorem g_ll17 {x0 x1 x2 x3 x4 x5 x6 x7 x8 x9 x10 x11 x12 x13 x14 x15 x16 : Value} {k : Nat} {q : Int64} : Eg K y ((.lload k, 17, b, v) :: is) (x0 :: x1 :: x2 :: x3 :: x4 :: x5 :: x6 :: x7 :: x8 :: x9 :: x10 :: x11 :: x12 :: x13 :: x14 :: x15 :: x16 :: .long q :: .null :: L) st G Q ↔ Eg K y is (x0 :: x1 :: x2 :: x3 :: x4 :: x5 :: x6 :: x7 :: x8 :: x9 :: x10 :: x11 :: x12 :: x13 :: x14 :: x15 :: x16 :: .long q :: .null :: L) (.long q :: st) G Q := Eg_nx rfl rfl
theorem g_al18 {x0 x1 x2 x3 x4 x5 x6 x7 x8 x9 x10 x11 x12 x13 x14 x15 x16 x17 : Value} {k : Nat} : Eg K y ((.aload k, 18, b, v) :: is) (x0 :: x1 :: x2 :: x3 :: x4 :: x5 :: x6 :: x7 :: x8 :: x9 :: x10 :: x11 :: x12 :: x13 :: x14 :: x15 :: x16 :: x17 :: .ref o :: L) st G Q ↔ Eg K y is (x0 :: x1 :: x2 :: x3 :: x4 :: x5 :: x6 :: x7 :: x8 :: x9 :: x10 :: x11 :: x12 :: x13 :: x14 :: x15 :: x16 :: x17 :: .ref o :: L) (.ref o :: st) G Q := Eg_nx rfl rfl
theorem g_il18 {x0 x1 x2 x3 x4 x5 x6 x7 x8 x9 x10 x11 x12 x13 x14 x15 x16 x17 : Value} {k : Nat} : Eg K y ((.iload k, 18, b, v) :: is) (x0 :: x1 :: x2 :: x3 :: x4 :: x5 :: x6 :: x7 :: x8 :: x9 :: x10 :: x11 :: x12 :: x13 :: x14 :: x15 :: x16 :: x17 :: .int p :: L) st G Q ↔ Eg K y is (x0 :: x1 :: x2 :: x3 :: x4 :: x5 :: x6 :: x7 :: x8 :: x9 :: x10 :: x11 :: x12 :: x13 :: x14 :: x15 :: x16 :: x17 :: .int p :: L) (.int p :: st) G Q := Eg_nx rfl rfl
theorem g_ii18 {x0 x1 x2 x3 x4 x5 x6 x7 x8 x9 x10 x11 x12 x13 x14 x15 x16 x17 : Value} {k c : Nat} {m : Int} : Eg K y ((.iinc k m, 18, b, (no_index (OfNat.ofNat c) : Int32)) :: is) (x0 :: x1 :: x2 :: x3 :: x4 :: x5 :: x6 :: x7 :: x8 :: x9 :: x10 :: x11 :: x12 :: x13 :: x14 :: x15 :: x16 :: x17 :: .int p :: L) st G Q ↔ Eg K y is (x0 :: x1 :: x2 :: x3 :: x4 :: x5 :: x6 :: x7 :: x8 :: x9 :: x10 :: x11 :: x12 :: x13 :: x14 :: x15 :: x16 :: x17 :: .int (p + nI (OfNat.ofNat c)) :: L) st G Q := Eg_nx rfl rfl
theorem g_ll18 {x0 x1 x2 x3 x4 x5 x6 x7 x8 x9 x10 x11 x12 x13 x14 x15 x16 x17 : Value} {k : Nat} {q : Int64} : Eg K y ((.lload k, 18, b, v) :: is) (x0 :: x1 :: x2 :: x3 :: x4 :: x5 :: x6 :: x7 :: x8 :: x9 :: x10 :: x11 :: x12 :: x13 :: x14 :: x15 :: x16 :: x17 :: .long q :: .null :: L) st G Q ↔ Eg K y is (x0 :: x1 :: x2 :: x3 :: x4 :: x5 :: x6 :: x7 :: x8 :: x9 :: x10 :: x11 :: x12 :: x13 :: x14 :: x15 :: x16 :: x17 :: .long q :: .null :: L) (.long q :: st) G Q := Eg_nx rfl rfl
theorem g_istore_n {k : Fin 4} : Eg K y ((.istore_n k, a, b, v) :: is) L (.int p :: st) G Q ↔ Eg K y is (L.set a (.int p)) st G Q := Eg_nx rfl rfl
theorem g_istore {k : Nat} : Eg K y ((.istore k, a, b, v) :: is) L (.int p :: st) G Q ↔ Eg K y is (L.set a (.int p)) st G Q := Eg_nx rfl rfl
theorem g_lstore_n {k : Fin 4} {q : Int64} : Eg K y ((.lstore_n k, a, b, v) :: is) L (.long q :: st) G Q ↔ Eg K y is ((L.set a (.long q)).set (a + 1) .null) st G Q := Eg_nx rfl rfl
theorem g_lstore {k : Nat} {q : Int64} : Eg K y ((.lstore k, a, b, v) :: is) L (.long q :: st) G Q ↔ Eg K y is ((L.set a (.long q)).set (a + 1) .null) st G Q := Eg_nx rfl rfl
theorem g_iadd : Eg K y ((.iadd, a, b, v) :: is) L (.int q :: .int p :: st) G Q ↔ Eg K y is L (.int (p + q) :: st) G Q := Eg_nx rfl rfl
theorem g_isub : Eg K y ((.isub, a, b, v) :: is) L (.int q :: .int p :: st) G Q ↔ Eg K y is L (.int (p - q) :: st) G Q := Eg_nx rfl rfl
theorem g_imul : Eg K y ((.imul, a, b, v) :: is) L (.int q :: .int p :: st) G Q ↔ Eg K y is L (.int (p * q) :: st) G Q := Eg_nx rfl rfl
theorem g_iand : Eg K y ((.iand, a, b, v) :: is) L (.int q :: .int p :: st) G Q ↔ Eg K y is L (.int (p &&& q) :: st) G Q := Eg_nx rfl rfl
theorem g_ishr : Eg K y ((.ishr, a, b, v) :: is) L (.int q :: .int p :: st) G Q ↔ Eg K y is L (.int (p >>> (q &&& 31)) :: st) G Q := Eg_nx rfl rfl
theorem g_idiv : Eg K y ((.idiv, a, b, v) :: is) L (.int q :: .int p :: st) G Q ↔ ¬ q = 0 ∧ Eg K y is L (.int (p / q) :: st) G Q := by
  by_cases c : q = 0
  · subst c
    rw [Eg_er rfl (by simp [mStep])]; simp
  · rw [Eg_nx (L' := L) (st' := .int (p / q) :: st) (h' := h0 K) rfl (by simp [mStep, c])]; simp [c]
theorem g_irem : Eg K y ((.irem, a, b, v) :: is) L (.int q :: .int p :: st) G Q ↔ ¬ q = 0 ∧ Eg K y is L (.int (p - p / q * q) :: st) G Q := by
  by_cases c : q = 0
  · subst c
    rw [Eg_er rfl (by simp [mStep])]; simp
  · rw [Eg_nx (L' := L) (st' := .int (p - p / q * q) :: st) (h' := h0 K) rfl (by simp [mStep, c])]; simp [c]
theorem g_i2c : Eg K y ((.i2c, a, b, v) :: is) L (.int p :: st) G Q ↔ Eg K y is L (.int (p.toUInt32 % 65536).toInt32 :: st) G Q := Eg_nx rfl rfl
theorem g_i2l : Eg K y ((.i2l, a, b, v) :: is) L (.int p :: st) G Q ↔ Eg K y is L (.long p.toInt64 :: st) G Q := Eg_nx rfl rfl
theorem g_ladd {p q : Int64} : Eg K y ((.ladd, a, b, v) :: is) L (.long q :: .long p :: st) G Q ↔ Eg K y is L (.long (p + q) :: st) G Q := Eg_nx rfl rfl
theorem g_lmul {p q : Int64} : Eg K y ((.lmul, a, b, v) :: is) L (.long q :: .long p :: st) G Q ↔ Eg K y is L (.long (p * q) :: st) G Q := Eg_nx rfl rfl
theorem g_lcmp {p q : Int64} : Eg K y ((.lcmp, a, b, v) :: is) L (.long q :: .long p :: st) G Q ↔ Eg K y is L (.int (lg_cmp p q) :: st) G Q := Eg_nx rfl rfl
theorem g_pop : Eg K y ((.pop, a, b, v) :: is) L (.int p :: st) G Q ↔ Eg K y is L st G Q := Eg_nx rfl rfl
theorem g_goto {k : Int} : Eg K y ((.goto k, a, b, v) :: is) L st G Q ↔ Eg K y (mB y a) L st G Q := Eg_jp rfl rfl
theorem g_nop : Eg K y ((.nop, a, b, v) :: is) L st G Q ↔ Eg K y (mB y a) L st G Q := Eg_jp rfl rfl
theorem g_if_eq {k : Int} : Eg K y ((.ifCond .eq k, a, b, v) :: is) L (.int p :: st) G Q ↔ if p = nI 0 then Eg K y (mB y a) L st G Q else Eg K y is L st G Q := by
  show _ ↔ if p = 0 then _ else _
  by_cases c : p = 0
  · rw [if_pos c, Eg_jp (t := a) (L' := L) (st' := st) rfl (by simp [mStep, mCmp, c])]
  · rw [if_neg c, Eg_nx (L' := L) (st' := st) (h' := h0 K) rfl (by simp [mStep, mCmp]; first | exact fun z => absurd z c | (simpa using c) | exact c)]
theorem g_if_ne {k : Int} : Eg K y ((.ifCond .ne k, a, b, v) :: is) L (.int p :: st) G Q ↔ if ¬ p = nI 0 then Eg K y (mB y a) L st G Q else Eg K y is L st G Q := by
  show _ ↔ if ¬ p = 0 then _ else _
  by_cases c : ¬ p = 0
  · rw [if_pos c, Eg_jp (t := a) (L' := L) (st' := st) rfl (by simp [mStep, mCmp, c])]
  · rw [if_neg c, Eg_nx (L' := L) (st' := st) (h' := h0 K) rfl (by simp [mStep, mCmp]; first | exact fun z => absurd z c | (simpa using c) | exact c)]
theorem g_if_lt {k : Int} : Eg K y ((.ifCond .lt k, a, b, v) :: is) L (.int p :: st) G Q ↔ if p < nI 0 then Eg K y (mB y a) L st G Q else Eg K y is L st G Q := by
  show _ ↔ if p < 0 then _ else _
  by_cases c : p < 0
  · rw [if_pos c, Eg_jp (t := a) (L' := L) (st' := st) rfl (by simp [mStep, mCmp, c])]
  · rw [if_neg c, Eg_nx (L' := L) (st' := st) (h' := h0 K) rfl (by simp [mStep, mCmp]; first | exact fun z => absurd z c | (simpa using c) | exact c)]
theorem g_if_ge {k : Int} : Eg K y ((.ifCond .ge k, a, b, v) :: is) L (.int p :: st) G Q ↔ if nI 0 ≤ p then Eg K y (mB y a) L st G Q else Eg K y is L st G Q := by
  show _ ↔ if 0 ≤ p then _ else _
  by_cases c : 0 ≤ p
  · rw [if_pos c, Eg_jp (t := a) (L' := L) (st' := st) rfl (by simp [mStep, mCmp, c])]
  · rw [if_neg c, Eg_nx (L' := L) (st' := st) (h' := h0 K) rfl (by simp [mStep, mCmp]; first | exact fun z => absurd z c | (simpa using c) | exact c)]
theorem g_if_gt {k : Int} : Eg K y ((.ifCond .gt k, a, b, v) :: is) L (.int p :: st) G Q ↔ if nI 0 < p then Eg K y (mB y a) L st G Q else Eg K y is L st G Q := by
  show _ ↔ if 0 < p then _ else _
  by_cases c : 0 < p
  · rw [if_pos c, Eg_jp (t := a) (L' := L) (st' := st) rfl (by simp [mStep, mCmp, c])]
  · rw [if_neg c, Eg_nx (L' := L) (st' := st) (h' := h0 K) rfl (by simp [mStep, mCmp]; first | exact fun z => absurd z c | (simpa using c) | exact c)]
theorem g_if_le {k : Int} : Eg K y ((.ifCond .le k, a, b, v) :: is) L (.int p :: st) G Q ↔ if p ≤ nI 0 then Eg K y (mB y a) L st G Q else Eg K y is L st G Q := by
  show _ ↔ if p ≤ 0 then _ else _
  by_cases c : p ≤ 0
  · rw [if_pos c, Eg_jp (t := a) (L' := L) (st' := st) rfl (by simp [mStep, mCmp, c])]
  · rw [if_neg c, Eg_nx (L' := L) (st' := st) (h' := h0 K) rfl (by simp [mStep, mCmp]; first | exact fun z => absurd z c | (simpa using c) | exact c)]
theorem g_icmp_eq {k : Int} : Eg K y ((.if_icmp .eq k, a, b, v) :: is) L (.int q :: .int p :: st) G Q ↔ if p = q then Eg K y (mB y a) L st G Q else Eg K y is L st G Q := by
  by_cases c : p = q
  · rw [if_pos c, Eg_jp (t := a) (L' := L) (st' := st) rfl (by simp [mStep, mCmp, c])]
  · rw [if_neg c, Eg_nx (L' := L) (st' := st) (h' := h0 K) rfl (by simp [mStep, mCmp]; first | exact fun z => absurd z c | (simpa using c) | exact c)]
theorem g_icmp_ne {k : Int} : Eg K y ((.if_icmp .ne k, a, b, v) :: is) L (.int q :: .int p :: st) G Q ↔ if ¬ p = q then Eg K y (mB y a) L st G Q else Eg K y is L st G Q := by
  by_cases c : ¬ p = q
  · rw [if_pos c, Eg_jp (t := a) (L' := L) (st' := st) rfl (by simp [mStep, mCmp, c])]
  · rw [if_neg c, Eg_nx (L' := L) (st' := st) (h' := h0 K) rfl (by simp [mStep, mCmp]; first | exact fun z => absurd z c | (simpa using c) | exact c)]
theorem g_icmp_lt {k : Int} : Eg K y ((.if_icmp .lt k, a, b, v) :: is) L (.int q :: .int p :: st) G Q ↔ if p < q then Eg K y (mB y a) L st G Q else Eg K y is L st G Q := by
  by_cases c : p < q
  · rw [if_pos c, Eg_jp (t := a) (L' := L) (st' := st) rfl (by simp [mStep, mCmp, c])]
  · rw [if_neg c, Eg_nx (L' := L) (st' := st) (h' := h0 K) rfl (by simp [mStep, mCmp]; first | exact fun z => absurd z c | (simpa using c) | exact c)]
theorem g_icmp_ge {k : Int} : Eg K y ((.if_icmp .ge k, a, b, v) :: is) L (.int q :: .int p :: st) G Q ↔ if q ≤ p then Eg K y (mB y a) L st G Q else Eg K y is L st G Q := by
  by_cases c : q ≤ p
  · rw [if_pos c, Eg_jp (t := a) (L' := L) (st' := st) rfl (by simp [mStep, mCmp, c])]
  · rw [if_neg c, Eg_nx (L' := L) (st' := st) (h' := h0 K) rfl (by simp [mStep, mCmp]; first | exact fun z => absurd z c | (simpa using c) | exact c)]
theorem g_icmp_gt {k : Int} : Eg K y ((.if_icmp .gt k, a, b, v) :: is) L (.int q :: .int p :: st) G Q ↔ if q < p then Eg K y (mB y a) L st G Q else Eg K y is L st G Q := by
  by_cases c : q < p
  · rw [if_pos c, Eg_jp (t := a) (L' := L) (st' := st) rfl (by simp [mStep, mCmp, c])]
  · rw [if_neg c, Eg_nx (L' := L) (st' := st) (h' := h0 K) rfl (by simp [mStep, mCmp]; first | exact fun z => absurd z c | (simpa using c) | exact c)]
theorem g_icmp_le {k : Int} : Eg K y ((.if_icmp .le k, a, b, v) :: is) L (.int q :: .int p :: st) G Q ↔ if p ≤ q then Eg K y (mB y a) L st G Q else Eg K y is L st G Q := by
  by_cases c : p ≤ q
  · rw [if_pos c, Eg_jp (t := a) (L' := L) (st' := st) rfl (by simp [mStep, mCmp, c])]
  · rw [if_neg c, Eg_nx (L' := L) (st' := st) (h' := h0 K) rfl (by simp [mStep, mCmp]; first | exact fun z => absurd z c | (simpa using c) | exact c)]
theorem g_ret0 : Eg K y ((.ireturn, a, b, 0) :: is) L [.int p] G Q ↔ Q (some (.int p)) G := Eg_rt (h' := h0 K) rfl (by simp [mStep, mNar])
theorem g_ret1 : Eg K y ((.ireturn, a, b, 1) :: is) L [.int p] G Q ↔ (p = nI 0 ∨ p = nI 1) ∧ Q (some (.int p)) G := by
  show _ ↔ (p = 0 ∨ p = 1) ∧ _
  by_cases c : p = 0 ∨ p = 1
  · rw [Eg_rt (v := some (.int p)) (h' := h0 K) rfl (by simp [mStep, mNar, c])]; simp [c]
  · rw [Eg_er rfl (by simp [mStep, mNar]; simpa using c)]; simp [c]
theorem g_retn : Eg K y ((.return_, a, b, v) :: is) L [] G Q ↔ Q none G := Eg_rt (h' := h0 K) rfl rfl
theorem g_retl {q : Int64} : Eg K y ((.lreturn, a, b, v) :: is) L [.long q] G Q ↔ Q (some (.long q)) G := Eg_rt (h' := h0 K) rfl rfl
theorem g_sld : Eg K y ((.iaload, a, b, 1) :: is) L (.int p :: .ref o :: st) G Q ↔ (o = 2000000 ∧ mIn p K.2.2.2.1 = true) ∧ Eg K y is L (.int (K.2.2.2.2 p.toNatClampNeg) :: st) G Q := by
  by_cases c : o = 2000000 ∧ mIn p K.2.2.2.1 = true
  · rw [Eg_nx (L' := L) (st' := .int (K.2.2.2.2 p.toNatClampNeg) :: st) (h' := h0 K) rfl (by simp [mStep, c.1, h0, c.2])]; simp [c.1, c.2]
  · rw [Eg_er rfl (by simp only [mStep, if_true]; exact if_neg c)]; simp only [c, false_and]
theorem g_slen : Eg K y ((.arraylength, a, b, 1) :: is) L (.ref o :: st) G Q ↔ o = 2000000 ∧ Eg K y is L (.int (nI K.2.2.2.1) :: st) G Q := by
  by_cases c : o = 2000000
  · rw [Eg_nx (L' := L) (st' := .int (nI K.2.2.2.1) :: st) (h' := h0 K) rfl (by simp [mStep, c, h0])]; simp [c]
  · rw [Eg_er rfl (by simp [mStep, c])]; simp [c]
theorem g_stat {k : Nat} (ha : ¬ a < 94) : Eg K y ((.invokestatic k, a, b, 0) :: is) L st G Q ↔ (b ≤ st.length ∧ st.length ≤ b + 4 ∧ (st.take b).all m1 = true) ∧ EgM K a (st.take b).reverse G (fun v h' => Eg K y is L (v.toList ++ st.drop b) h' Q) := by
  by_cases c : b ≤ st.length ∧ st.length ≤ b + 4 ∧ (st.take b).all m1 = true
  · rw [Eg_cl (z := a) (as := (st.take b).reverse) (st' := st.drop b) rfl (by simp only [mStep, if_true]; rw [if_pos c]) ha]; simp only [c, true_and, and_self]
  · rw [Eg_er rfl (by simp only [mStep, if_true]; rw [if_neg c])]; simp only [c, false_and]
theorem g_virt {k z : Nat} {as : List Value} {x : Int32} {G' : gS} (hK : K.2.2.1 0 = (1, 7)) (hz : z < 94) (hr : mRc z = 7) (ha : as.all m1 = true) (hb : b = as.length + 1) (hc : gCall z (.ref 0 :: as) G = some (x, G')) : Eg K y ((.invokevirtual k, z, b, 0) :: is) L (as.reverse ++ .ref 0 :: st) G Q ↔ st.length ≤ 4 ∧ Eg K y is L (.int x :: st) G' Q := by
  subst hb
  have e1 : (as.reverse ++ Value.ref 0 :: st).take (as.length + 1) = as.reverse ++ [.ref 0] := by
    rw [show as.reverse ++ Value.ref 0 :: st = (as.reverse ++ [.ref 0]) ++ st by simp]
    exact List.take_left' (by simp)
  have e2 : (as.reverse ++ Value.ref 0 :: st).drop (as.length + 1) = st := by
    rw [show as.reverse ++ Value.ref 0 :: st = (as.reverse ++ [.ref 0]) ++ st by simp]
    exact List.drop_left' (by simp)
  have e3 : (as.reverse ++ Value.ref 0 :: st).length = as.length + 1 + st.length := by simp; omega
  have e4 : (as.reverse ++ [Value.ref 0]).all m1 = true := by simp [List.all_append, List.all_reverse, ha]; rfl
  by_cases c : st.length ≤ 4
  · rw [Eg_cc (z := z) (as := .ref 0 :: as) (st' := st) (x := x) (G' := G') rfl ?_ hz hc]
    · simp only [c, true_and]
    · simp only [mStep]
      rw [if_pos ⟨trivial, by omega, by omega, by rw [e1]; exact e4⟩, e1, e2]
      simp only [List.reverse_append, List.reverse_cons, List.reverse_nil, List.nil_append, List.reverse_reverse, List.cons_append]
      rw [if_pos (Or.inr ⟨by rw [hr]; exact hK, by rw [hr]; omega⟩)]
  · rw [Eg_er rfl ?_]
    · simp only [c, false_and]
    · simp only [mStep]
      rw [if_neg (fun q => c (by have := q.2.2.1; omega))]
theorem g_count {k : Nat} {w : Nat} (hK : K.2.2.1 0 = (1, 7)) (hw : w < 10) : Eg K y ((.invokevirtual k, 80, 2, 0) :: is) L (.int (nI w) :: .ref 0 :: st) G Q ↔ st.length ≤ 4 ∧ Eg K y is L (.int (aCount G.1 G.2.1 w) :: st) G Q :=
  g_virt (as := [.int (nI w)]) hK (by decide) rfl rfl rfl (by
    simp (disch := omega) only [gCall, gC1, reduceIte, Nat.reduceEqDiff, n_in, n_cl, and_self, true_and, and_true])
theorem g_type {k : Nat} {w : Nat} (hK : K.2.2.1 0 = (1, 7)) (hw : w < 65536) (ht : G.2.2.2.1 < 50) : Eg K y ((.invokevirtual k, 66, 2, 0) :: is) L (.int (nI w) :: .ref 0 :: st) G Q ↔ st.length ≤ 4 ∧ Eg K y is L (.int (nI (G.2.2.2.1 + 1)) :: st) (nType G w) Q :=
  g_virt (as := [.int (nI w)]) hK (by decide) rfl rfl rfl (by
    simp (disch := omega) only [gCall, gC1, reduceIte, Nat.reduceEqDiff, n_in, n_cl, and_self, true_and, and_true, ht])
theorem g_bestWay {k : Nat} {s : Nat} (hK : K.2.2.1 0 = (1, 7)) (hs : s < 6) : Eg K y ((.invokevirtual k, 76, 2, 0) :: is) L (.int (nI s) :: .ref 0 :: st) G Q ↔ st.length ≤ 4 ∧ Eg K y is L (.int (aBest G.1 s) :: st) G Q :=
  g_virt (as := [.int (nI s)]) hK (by decide) rfl rfl rfl (by
    simp (disch := omega) only [gCall, gC1, reduceIte, Nat.reduceEqDiff, n_in, n_cl, and_self, true_and, and_true])
theorem g_close {k : Nat} {s : Nat} (hK : K.2.2.1 0 = (1, 7)) (hs : s < 6) : Eg K y ((.invokevirtual k, 64, 2, 0) :: is) L (.int (nI s) :: .ref 0 :: st) G Q ↔ st.length ≤ 4 ∧ Eg K y is L (.int (aClose G.1 s) :: st) (nClose G s) Q :=
  g_virt (as := [.int (nI s)]) hK (by decide) rfl rfl rfl (by
    simp (disch := omega) only [gCall, gC1, reduceIte, Nat.reduceEqDiff, n_in, n_cl, and_self, true_and, and_true])
theorem g_setRule {k : Nat} {w : Nat} (hK : K.2.2.1 0 = (1, 7)) (hw : w < 4) : Eg K y ((.invokevirtual k, 59, 2, 0) :: is) L (.int (nI w) :: .ref 0 :: st) G Q ↔ st.length ≤ 4 ∧ Eg K y is L (.int (aRule G.1 w) :: st) (nRule G w) Q :=
  g_virt (as := [.int (nI w)]) hK (by decide) rfl rfl rfl (by
    simp (disch := omega) only [gCall, gC1, reduceIte, Nat.reduceEqDiff, n_in, n_cl, and_self, true_and, and_true])
theorem g_setLimit {k : Nat} {w : Nat} (hK : K.2.2.1 0 = (1, 7)) (hw : w < 202) (hw2 : 100 ≤ w) : Eg K y ((.invokevirtual k, 60, 2, 0) :: is) L (.int (nI w) :: .ref 0 :: st) G Q ↔ st.length ≤ 4 ∧ Eg K y is L (.int (aLim G.1 w) :: st) (nLim G w) Q :=
  g_virt (as := [.int (nI w)]) hK (by decide) rfl rfl rfl (by
    simp (disch := omega) only [gCall, gC1, reduceIte, Nat.reduceEqDiff, n_in, n_cl, and_self, true_and, and_true, hw2])
theorem g_spool {k : Nat} {s w : Nat} (hK : K.2.2.1 0 = (1, 7)) (hs : s < 6) (hw : w < 7) : Eg K y ((.invokevirtual k, 72, 3, 0) :: is) L (.int (nI w) :: .int (nI s) :: .ref 0 :: st) G Q ↔ st.length ≤ 4 ∧ Eg K y is L (.int (aSpool G.1 s w) :: st) G Q :=
  g_virt (as := [.int (nI s), .int (nI w)]) hK (by decide) rfl rfl rfl (by
    simp (disch := omega) only [gCall, gC2, reduceIte, Nat.reduceEqDiff, n_in, n_cl, and_self, true_and, and_true])
theorem g_event {k : Nat} {s w : Nat} (hK : K.2.2.1 0 = (1, 7)) (hs : s < 10) (hw : w < 3) : Eg K y ((.invokevirtual k, 79, 3, 0) :: is) L (.int (nI w) :: .int (nI s) :: .ref 0 :: st) G Q ↔ st.length ≤ 4 ∧ Eg K y is L (.int (aEvent G.1 s w) :: st) G Q :=
  g_virt (as := [.int (nI s), .int (nI w)]) hK (by decide) rfl rfl rfl (by
    simp (disch := omega) only [gCall, gC2, reduceIte, Nat.reduceEqDiff, n_in, n_cl, and_self, true_and, and_true])
theorem g_cut {k : Nat} {s w : Nat} (hK : K.2.2.1 0 = (1, 7)) (hs : s < 6) (hw : w < 1001) : Eg K y ((.invokevirtual k, 62, 3, 0) :: is) L (.int (nI w) :: .int (nI s) :: .ref 0 :: st) G Q ↔ st.length ≤ 4 ∧ Eg K y is L (.int (aCut G.1 s w) :: st) (nCut G s w) Q :=
  g_virt (as := [.int (nI s), .int (nI w)]) hK (by decide) rfl rfl rfl (by
    simp (disch := omega) only [gCall, gC2, reduceIte, Nat.reduceEqDiff, n_in, n_cl, and_self, true_and, and_true])
theorem g_splice {k : Nat} {s w : Nat} (hK : K.2.2.1 0 = (1, 7)) (hs : s < 6) (hw : w < 6) : Eg K y ((.invokevirtual k, 63, 3, 0) :: is) L (.int (nI w) :: .int (nI s) :: .ref 0 :: st) G Q ↔ st.length ≤ 4 ∧ Eg K y is L (.int (aSplice G.1 s w) :: st) (nSplice G s w) Q :=
  g_virt (as := [.int (nI s), .int (nI w)]) hK (by decide) rfl rfl rfl (by
    simp (disch := omega) only [gCall, gC2, reduceIte, Nat.reduceEqDiff, n_in, n_cl, and_self, true_and, and_true])
theorem g_punch {k : Nat} {s w : Nat} (hK : K.2.2.1 0 = (1, 7)) (hs : s < 6) (hw : w < 3) : Eg K y ((.invokevirtual k, 65, 3, 0) :: is) L (.int (nI w) :: .int (nI s) :: .ref 0 :: st) G Q ↔ st.length ≤ 4 ∧ Eg K y is L (.int (aPunch G.1 s w) :: st) (nPunch G s w) Q :=
  g_virt (as := [.int (nI s), .int (nI w)]) hK (by decide) rfl rfl rfl (by
    simp (disch := omega) only [gCall, gC2, reduceIte, Nat.reduceEqDiff, n_in, n_cl, and_self, true_and, and_true])
theorem g_gap {k : Nat} {s w r : Nat} (hK : K.2.2.1 0 = (1, 7)) (hs : s < 6) (hw : w < 1001) (hr : r < 3) : Eg K y ((.invokevirtual k, 73, 4, 0) :: is) L (.int (nI r) :: .int (nI w) :: .int (nI s) :: .ref 0 :: st) G Q ↔ st.length ≤ 4 ∧ Eg K y is L (.int (aGap G.1 s w r) :: st) G Q :=
  g_virt (as := [.int (nI s), .int (nI w), .int (nI r)]) hK (by decide) rfl rfl rfl (by
    simp (disch := omega) only [gCall, gC3, reduceIte, Nat.reduceEqDiff, n_in, n_cl, and_self, true_and, and_true])
theorem g_read {k : Nat} {s w r : Nat} (hK : K.2.2.1 0 = (1, 7)) (hs : s < 6) (hw : w < 3) (hr : r < 1001) : Eg K y ((.invokevirtual k, 74, 4, 0) :: is) L (.int (nI r) :: .int (nI w) :: .int (nI s) :: .ref 0 :: st) G Q ↔ st.length ≤ 4 ∧ Eg K y is L (.int (aRead G.1 s w r) :: st) G Q :=
  g_virt (as := [.int (nI s), .int (nI w), .int (nI r)]) hK (by decide) rfl rfl rfl (by
    simp (disch := omega) only [gCall, gC3, reduceIte, Nat.reduceEqDiff, n_in, n_cl, and_self, true_and, and_true])
theorem g_errors {k : Nat} {s w r : Nat} (hK : K.2.2.1 0 = (1, 7)) (hs : s < 6) (hw : w < 3) (hr : r < 3) : Eg K y ((.invokevirtual k, 75, 4, 0) :: is) L (.int (nI r) :: .int (nI w) :: .int (nI s) :: .ref 0 :: st) G Q ↔ st.length ≤ 4 ∧ Eg K y is L (.int (aErr G.1 s w r) :: st) G Q :=
  g_virt (as := [.int (nI s), .int (nI w), .int (nI r)]) hK (by decide) rfl rfl rfl (by
    simp (disch := omega) only [gCall, gC3, reduceIte, Nat.reduceEqDiff, n_in, n_cl, and_self, true_and, and_true])
theorem g_safe {k : Nat} {s w r : Nat} (hK : K.2.2.1 0 = (1, 7)) (hs : s < 6) (hw : w < 2) (hr : r < 10) : Eg K y ((.invokevirtual k, 78, 4, 0) :: is) L (.int (nI r) :: .int (nI w) :: .int (nI s) :: .ref 0 :: st) G Q ↔ st.length ≤ 4 ∧ Eg K y is L (.int (aSafe G.1 s w r) :: st) G Q :=
  g_virt (as := [.int (nI s), .int (nI w), .int (nI r)]) hK (by decide) rfl rfl rfl (by
    simp (disch := omega) only [gCall, gC3, reduceIte, Nat.reduceEqDiff, n_in, n_cl, and_self, true_and, and_true])
theorem g_rewind {k : Nat} {s w r : Nat} (hK : K.2.2.1 0 = (1, 7)) (hs : s < 6) (hw : w < 10) (hr : r < 31) (hr2 : 1 ≤ r) : Eg K y ((.invokevirtual k, 61, 4, 0) :: is) L (.int (nI r) :: .int (nI w) :: .int (nI s) :: .ref 0 :: st) G Q ↔ st.length ≤ 4 ∧ Eg K y is L (.int (aRew G.1 s w r) :: st) (nRew G s w r) Q :=
  g_virt (as := [.int (nI s), .int (nI w), .int (nI r)]) hK (by decide) rfl rfl rfl (by
    simp (disch := omega) only [gCall, gC3, reduceIte, Nat.reduceEqDiff, n_in, n_cl, and_self, true_and, and_true, hr2])
theorem g_after {k : Nat} {s w r q : Nat} (hK : K.2.2.1 0 = (1, 7)) (hs : s < 6) (hw : w < 2) (hr : r < 10) (hq : q < 31) : Eg K y ((.invokevirtual k, 77, 5, 0) :: is) L (.int (nI q) :: .int (nI r) :: .int (nI w) :: .int (nI s) :: .ref 0 :: st) G Q ↔ st.length ≤ 4 ∧ Eg K y is L (.int (aAfter G.1 s w r q) :: st) G Q :=
  g_virt (as := [.int (nI s), .int (nI w), .int (nI r), .int (nI q)]) hK (by decide) rfl rfl rfl (by
    simp (disch := omega) only [gCall, gC4, reduceIte, Nat.reduceEqDiff, n_in, n_cl, and_self, true_and, and_true])
theorem g_clear {k : Nat} (hK : K.2.2.1 0 = (1, 7)) : Eg K y ((.invokevirtual k, 67, 1, 0) :: is) L (.ref 0 :: st) G Q ↔ st.length ≤ 4 ∧ Eg K y is L (.int (nI G.2.2.2.1) :: st) (nClear G) Q :=
  g_virt (as := []) hK (by decide) rfl rfl rfl (by
    simp (disch := omega) only [gCall, gC0, reduceIte, Nat.reduceEqDiff, n_in, n_cl, and_self, true_and, and_true])
theorem g_undo {k : Nat} (hK : K.2.2.1 0 = (1, 7)) : Eg K y ((.invokevirtual k, 70, 1, 0) :: is) L (.ref 0 :: st) G Q ↔ st.length ≤ 4 ∧ Eg K y is L (.int (aUndo G) :: st) (nUndo G) Q :=
  g_virt (as := []) hK (by decide) rfl rfl rfl (by
    simp (disch := omega) only [gCall, gC0, reduceIte, Nat.reduceEqDiff, n_in, n_cl, and_self, true_and, and_true])
theorem g_restore {k : Nat} (hK : K.2.2.1 0 = (1, 7)) : Eg K y ((.invokevirtual k, 71, 1, 0) :: is) L (.ref 0 :: st) G Q ↔ st.length ≤ 4 ∧ Eg K y is L (.int (-5) :: st) G Q :=
  g_virt (as := []) hK (by decide) rfl rfl rfl (by
    simp (disch := omega) only [gCall, gC0, reduceIte, Nat.reduceEqDiff, n_in, n_cl, and_self, true_and, and_true])
theorem g_spool6 {k : Nat} (hK : K.2.2.1 0 = (1, 7)) : Eg K y ((.invokevirtual k, 72, 3, 0) :: is) L (.int (nI 0) :: .int (nI 6) :: .ref 0 :: st) G Q ↔ st.length ≤ 4 ∧ Eg K y is L (.int (-1) :: st) G Q :=
  g_virt (as := [.int (nI 6), .int (nI 0)]) hK (by decide) rfl rfl rfl (by
    have e1 : mIn (nI 6) 6 = false := by decide
    simp only [gCall, gC2, reduceIte, Nat.reduceEqDiff, e1, Bool.false_eq_true, false_and]
    rfl)
theorem g_perform {k : Nat} (hK : K.2.2.1 0 = (1, 7)) (hp : G.2.2.2.1 = 0 ∨ txW G.2.2.2.1 G.2.2.2.2 (gSp G)) : Eg K y ((.invokevirtual k, 68, 1, 0) :: is) L (.ref 0 :: st) G Q ↔ st.length ≤ 4 ∧ Eg K y is L (.int (aPerf G) :: st) (nPerf G) Q :=
  g_virt (as := []) hK (by decide) rfl rfl rfl (by
    simp only [gCall, gC0, reduceIte, Nat.reduceEqDiff]
    exact if_pos hp)
end GROWS
