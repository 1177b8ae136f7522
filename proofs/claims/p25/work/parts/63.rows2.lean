/-! ROWS, quicker: loads by the place, without a bound name -/
section EVROWS2
variable {y a b n : Nat} {v x p q : Int32} {is : List mIns} {L st : List Value} {h : mH} {o r : Nat} {Q : Option Value → mH → Prop}
theorem f_al0 {k : Fin 4} : Ev y ((.aload_n k, 0, b, v) :: is) (.ref o :: L) st h Q ↔ Ev y is (.ref o :: L) (.ref o :: st) h Q := Ev_nx rfl
theorem f_il0 {k : Fin 4} : Ev y ((.iload_n k, 0, b, v) :: is) (.int x :: L) st h Q ↔ Ev y is (.int x :: L) (.int x :: st) h Q := Ev_nx rfl
theorem f_ii0 {k : Nat} {m : Int} : Ev y ((.iinc k m, 0, b, v) :: is) (.int x :: L) st h Q ↔ Ev y is (.int (x + v) :: L) st h Q := Ev_nx rfl
theorem f_al1 {x0 : Value} {k : Fin 4} : Ev y ((.aload_n k, 1, b, v) :: is) (x0 :: .ref o :: L) st h Q ↔ Ev y is (x0 :: .ref o :: L) (.ref o :: st) h Q := Ev_nx rfl
theorem f_il1 {x0 : Value} {k : Fin 4} : Ev y ((.iload_n k, 1, b, v) :: is) (x0 :: .int x :: L) st h Q ↔ Ev y is (x0 :: .int x :: L) (.int x :: st) h Q := Ev_nx rfl
theorem f_ii1 {x0 : Value} {k : Nat} {m : Int} : Ev y ((.iinc k m, 1, b, v) :: is) (x0 :: .int x :: L) st h Q ↔ Ev y is (x0 :: .int (x + v) :: L) st h Q := Ev_nx rfl
theorem f_al2 {x0 x1 : Value} {k : Fin 4} : Ev y ((.aload_n k, 2, b, v) :: is) (x0 :: x1 :: .ref o :: L) st h Q ↔ Ev y is (x0 :: x1 :: .ref o :: L) (.ref o :: st) h Q := Ev_nx rfl
theorem f_il2 {x0 x1 : Value} {k : Fin 4} : Ev y ((.iload_n k, 2, b, v) :: is) (x0 :: x1 :: .int x :: L) st h Q ↔ Ev y is (x0 :: x1 :: .int x :: L) (.int x :: st) h Q := Ev_nx rfl
theorem f_ii2 {x0 x1 : Value} {k : Nat} {m : Int} : Ev y ((.iinc k m, 2, b, v) :: is) (x0 :: x1 :: .int x :: L) st h Q ↔ Ev y is (x0 :: x1 :: .int (x + v) :: L) st h Q := Ev_nx rfl
theorem f_al3 {x0 x1 x2 : Value} {k : Fin 4} : Ev y ((.aload_n k, 3, b, v) :: is) (x0 :: x1 :: x2 :: .ref o :: L) st h Q ↔ Ev y is (x0 :: x1 :: x2 :: .ref o :: L) (.ref o :: st) h Q := Ev_nx rfl
theorem f_il3 {x0 x1 x2 : Value} {k : Fin 4} : Ev y ((.iload_n k, 3, b, v) :: is) (x0 :: x1 :: x2 :: .int x :: L) st h Q ↔ Ev y is (x0 :: x1 :: x2 :: .int x :: L) (.int x :: st) h Q := Ev_nx rfl
theorem f_ii3 {x0 x1 x2 : Value} {k : Nat} {m : Int} : Ev y ((.iinc k m, 3, b, v) :: is) (x0 :: x1 :: x2 :: .int x :: L) st h Q ↔ Ev y is (x0 :: x1 :: x2 :: .int (x + v) :: L) st h Q := Ev_nx rfl
theorem f_al4 {x0 x1 x2 x3 : Value} {k : Nat} : Ev y ((.aload k, 4, b, v) :: is) (x0 :: x1 :: x2 :: x3 :: .ref o :: L) st h Q ↔ Ev y is (x0 :: x1 :: x2 :: x3 :: .ref o :: L) (.ref o :: st) h Q := Ev_nx rfl
theorem f_il4 {x0 x1 x2 x3 : Value} {k : Nat} : Ev y ((.iload k, 4, b, v) :: is) (x0 :: x1 :: x2 :: x3 :: .int x :: L) st h Q ↔ Ev y is (x0 :: x1 :: x2 :: x3 :: .int x :: L) (.int x :: st) h Q := Ev_nx rfl
theorem f_ii4 {x0 x1 x2 x3 : Value} {k : Nat} {m : Int} : Ev y ((.iinc k m, 4, b, v) :: is) (x0 :: x1 :: x2 :: x3 :: .int x :: L) st h Q ↔ Ev y is (x0 :: x1 :: x2 :: x3 :: .int (x + v) :: L) st h Q := Ev_nx rfl
theorem f_al5 {x0 x1 x2 x3 x4 : Value} {k : Nat} : Ev y ((.aload k, 5, b, v) :: is) (x0 :: x1 :: x2 :: x3 :: x4 :: .ref o :: L) st h Q ↔ Ev y is (x0 :: x1 :: x2 :: x3 :: x4 :: .ref o :: L) (.ref o :: st) h Q := Ev_nx rfl
theorem f_il5 {x0 x1 x2 x3 x4 : Value} {k : Nat} : Ev y ((.iload k, 5, b, v) :: is) (x0 :: x1 :: x2 :: x3 :: x4 :: .int x :: L) st h Q ↔ Ev y is (x0 :: x1 :: x2 :: x3 :: x4 :: .int x :: L) (.int x :: st) h Q := Ev_nx rfl
theorem f_ii5 {x0 x1 x2 x3 x4 : Value} {k : Nat} {m : Int} : Ev y ((.iinc k m, 5, b, v) :: is) (x0 :: x1 :: x2 :: x3 :: x4 :: .int x :: L) st h Q ↔ Ev y is (x0 :: x1 :: x2 :: x3 :: x4 :: .int (x + v) :: L) st h Q := Ev_nx rfl
theorem f_al6 {x0 x1 x2 x3 x4 x5 : Value} {k : Nat} : Ev y ((.aload k, 6, b, v) :: is) (x0 :: x1 :: x2 :: x3 :: x4 :: x5 :: .ref o :: L) st h Q ↔ Ev y is (x0 :: x1 :: x2 :: x3 :: x4 :: x5 :: .ref o :: L) (.ref o :: st) h Q := Ev_nx rfl
theorem f_il6 {x0 x1 x2 x3 x4 x5 : Value} {k : Nat} : Ev y ((.iload k, 6, b, v) :: is) (x0 :: x1 :: x2 :: x3 :: x4 :: x5 :: .int x :: L) st h Q ↔ Ev y is (x0 :: x1 :: x2 :: x3 :: x4 :: x5 :: .int x :: L) (.int x :: st) h Q := Ev_nx rfl
theorem f_ii6 {x0 x1 x2 x3 x4 x5 : Value} {k : Nat} {m : Int} : Ev y ((.iinc k m, 6, b, v) :: is) (x0 :: x1 :: x2 :: x3 :: x4 :: x5 :: .int x :: L) st h Q ↔ Ev y is (x0 :: x1 :: x2 :: x3 :: x4 :: x5 :: .int (x + v) :: L) st h Q := Ev_nx rfl
theorem f_al7 {x0 x1 x2 x3 x4 x5 x6 : Value} {k : Nat} : Ev y ((.aload k, 7, b, v) :: is) (x0 :: x1 :: x2 :: x3 :: x4 :: x5 :: x6 :: .ref o :: L) st h Q ↔ Ev y is (x0 :: x1 :: x2 :: x3 :: x4 :: x5 :: x6 :: .ref o :: L) (.ref o :: st) h Q := Ev_nx rfl
theorem f_il7 {x0 x1 x2 x3 x4 x5 x6 : Value} {k : Nat} : Ev y ((.iload k, 7, b, v) :: is) (x0 :: x1 :: x2 :: x3 :: x4 :: x5 :: x6 :: .int x :: L) st h Q ↔ Ev y is (x0 :: x1 :: x2 :: x3 :: x4 :: x5 :: x6 :: .int x :: L) (.int x :: st) h Q := Ev_nx rfl
theorem f_ii7 {x0 x1 x2 x3 x4 x5 x6 : Value} {k : Nat} {m : Int} : Ev y ((.iinc k m, 7, b, v) :: is) (x0 :: x1 :: x2 :: x3 :: x4 :: x5 :: x6 :: .int x :: L) st h Q ↔ Ev y is (x0 :: x1 :: x2 :: x3 :: x4 :: x5 :: x6 :: .int (x + v) :: L) st h Q := Ev_nx rfl
theorem f_al8 {x0 x1 x2 x3 x4 x5 x6 x7 : Value} {k : Nat} : Ev y ((.aload k, 8, b, v) :: is) (x0 :: x1 :: x2 :: x3 :: x4 :: x5 :: x6 :: x7 :: .ref o :: L) st h Q ↔ Ev y is (x0 :: x1 :: x2 :: x3 :: x4 :: x5 :: x6 :: x7 :: .ref o :: L) (.ref o :: st) h Q := Ev_nx rfl
theorem f_il8 {x0 x1 x2 x3 x4 x5 x6 x7 : Value} {k : Nat} : Ev y ((.iload k, 8, b, v) :: is) (x0 :: x1 :: x2 :: x3 :: x4 :: x5 :: x6 :: x7 :: .int x :: L) st h Q ↔ Ev y is (x0 :: x1 :: x2 :: x3 :: x4 :: x5 :: x6 :: x7 :: .int x :: L) (.int x :: st) h Q := Ev_nx rfl
theorem f_ii8 {x0 x1 x2 x3 x4 x5 x6 x7 : Value} {k : Nat} {m : Int} : Ev y ((.iinc k m, 8, b, v) :: is) (x0 :: x1 :: x2 :: x3 :: x4 :: x5 :: x6 :: x7 :: .int x :: L) st h Q ↔ Ev y is (x0 :: x1 :: x2 :: x3 :: x4 :: x5 :: x6 :: x7 :: .int (x + v) :: L) st h Q := Ev_nx rfl
theorem f_al9 {x0 x1 x2 x3 x4 x5 x6 x7 x8 : Value} {k : Nat} : Ev y ((.aload k, 9, b, v) :: is) (x0 :: x1 :: x2 :: x3 :: x4 :: x5 :: x6 :: x7 :: x8 :: .ref o :: L) st h Q ↔ Ev y is (x0 :: x1 :: x2 :: x3 :: x4 :: x5 :: x6 :: x7 :: x8 :: .ref o :: L) (.ref o :: st) h Q := Ev_nx rfl
theorem f_il9 {x0 x1 x2 x3 x4 x5 x6 x7 x8 : Value} {k : Nat} : Ev y ((.iload k, 9, b, v) :: is) (x0 :: x1 :: x2 :: x3 :: x4 :: x5 :: x6 :: x7 :: x8 :: .int x :: L) st h Q ↔ Ev y is (x0 :: x1 :: x2 :: x3 :: x4 :: x5 :: x6 :: x7 :: x8 :: .int x :: L) (.int x :: st) h Q := Ev_nx rfl
theorem f_ii9 {x0 x1 x2 x3 x4 x5 x6 x7 x8 : Value} {k : Nat} {m : Int} : Ev y ((.iinc k m, 9, b, v) :: is) (x0 :: x1 :: x2 :: x3 :: x4 :: x5 :: x6 :: x7 :: x8 :: .int x :: L) st h Q ↔ Ev y is (x0 :: x1 :: x2 :: x3 :: x4 :: x5 :: x6 :: x7 :: x8 :: .int (x + v) :: L) st h Q := Ev_nx rfl
theorem f_getR {k : Nat} : Ev y ((.getfield k, a, b, 2) :: is) L (.ref o :: st) h Q ↔ h.1.2.2.1 o = (1, a) ∧ (match h.2.1 o b with
    | some r => Ev y is L (.ref r :: st) h Q
    | none => False) := by
  rw [e_getR]
  cases h.2.1 o b with
  | none => simp
  | some r => simp
end EVROWS2
