/-! THE SMALL MACHINE: an interpreter of the instructions in use, over cells that are counted from 0. Values are the machine's own; .ref k is the k-th own cell;
    from 1000000 on: String constants, from 1100000 on: their byte arrays, 2000000: the script, 3000000: the JDK's formatter. -/
abbrev mK : Type := Nat × Nat × (Nat → Nat × Nat) × Nat × (Nat → Int32)
abbrev mH : Type := mK × (Nat → Nat → Option Nat) × (Nat → Nat → Int32)
/-- an instruction: as it is decoded, and what its operands mean -/
abbrev mIns : Type := Instr × Nat × Nat × Int32
abbrev mRes : Type := (List Value × List Value × mH) ⊕ (Nat × List Value × List Value) ⊕ (Option Value × mH) ⊕ Option (Nat × List Value × List Value)
abbrev mNx (L st : List Value) (h : mH) : mRes := .inl (L, st, h)
abbrev mJp (t : Nat) (L st : List Value) : mRes := .inr (.inl (t, L, st))
abbrev mRt (v : Option Value) (h : mH) : mRes := .inr (.inr (.inl (v, h)))
abbrev mCl (z : Nat) (as st : List Value) : mRes := .inr (.inr (.inr (some (z, as, st))))
abbrev mEr : mRes := .inr (.inr (.inr none))
def mSet (I : Nat → Nat → Int32) (a k : Nat) (x : Int32) : Nat → Nat → Int32 := fun b j => if b = a ∧ j = k then x else I b j
def mSetR (R : Nat → Nat → Option Nat) (a k : Nat) (x : Option Nat) : Nat → Nat → Option Nat := fun b j => if b = a ∧ j = k then x else R b j
def mCpy (I : Nat → Nat → Int32) (p : Nat) (sp : Nat) (q dp n : Nat) : Nat → Nat → Int32 := fun b j => if b = q ∧ dp ≤ j ∧ j < dp + n then I p (sp + (j - dp)) else I b j
def mShp (f : Nat → Nat × Nat) (k : Nat) (x : Nat × Nat) : Nat → Nat × Nat := fun j => if j = k then x else f j
def mCmp (c : Jvm.ClassFile.Cond) (x y : Int32) : Bool := match c with
  | .eq => x == y
  | .ne => !(x == y)
  | .lt => decide (x < y)
  | .ge => decide (y ≤ x)
  | .gt => decide (y < x)
  | .le => decide (x ≤ y)
/-- within an array of n -/
def mIn (i : Int32) (n : Nat) : Bool := decide (0 ≤ i) && decide (i.toNatClampNeg < n)
def mLen (k : Nat) : Nat := ([5, 6, 3, 6, 5, 5] : List Nat).getD k 0
def mByt (k : Nat) : List Int32 := ([[119, 114, 105, 116, 101], [114, 101, 119, 105, 110, 100], [99, 117, 116], [115, 112, 108, 105, 99, 101], [99, 108, 111, 115, 101], [112, 117, 110, 99, 104]] : List (List Int32)).getD k []
def mNar (v : Int32) (x : Int32) : Bool := if v = 0 then true else if v = 1 then x == 0 || x == 1 else if v = 2 then x.toInt8.toInt32 == x else (x.toUInt32 % 65536).toInt32 == x
def mStr (o : Nat) : Bool := decide (1000000 ≤ o) && decide (o < 1000006)
def mStB (o : Nat) : Bool := decide (1100000 ≤ o) && decide (o < 1100006)
def mTgt (a : Nat) (dflt lo : Int) (offs : Array Int) (x : Int32) : Nat := if x.toInt < lo then (a + dflt).toNat else match offs[(x.toInt - lo).toNat]? with
  | some off => (a + off).toNat
  | none => (a + dflt).toNat
def m1 (v : Value) : Bool := match v with
  | .int _ => true
  | .ref _ => true
  | _ => false
/-- the class of a method's receiver -/
def mStep (rc : Nat → Nat) (i : mIns) (L st : List Value) (h : mH) : mRes := match i with
  | (.iconst _, _, _, v) => mNx L (.int v :: st) h
  | (.bipush _, _, _, v) => mNx L (.int v :: st) h
  | (.sipush _, _, _, v) => mNx L (.int v :: st) h
  | (.iload_n _, a, _, _) => match L[a]? with
    | some (.int x) => mNx L (.int x :: st) h
    | _ => mEr
  | (.iload _, a, _, _) => match L[a]? with
    | some (.int x) => mNx L (.int x :: st) h
    | _ => mEr
  | (.aload_n _, a, _, _) => match L[a]? with
    | some (.ref x) => mNx L (.ref x :: st) h
    | _ => mEr
  | (.aload _, a, _, _) => match L[a]? with
    | some (.ref x) => mNx L (.ref x :: st) h
    | _ => mEr
  | (.istore_n _, a, _, _) => match st with
    | .int x :: st => mNx (L.set a (.int x)) st h
    | _ => mEr
  | (.istore _, a, _, _) => match st with
    | .int x :: st => mNx (L.set a (.int x)) st h
    | _ => mEr
  | (.astore_n _, a, _, _) => match st with
    | .ref x :: st => mNx (L.set a (.ref x)) st h
    | _ => mEr
  | (.astore _, a, _, _) => match st with
    | .ref x :: st => mNx (L.set a (.ref x)) st h
    | _ => mEr
  | (.iinc _ _, a, _, v) => match L[a]? with
    | some (.int x) => mNx (L.set a (.int (x + v))) st h
    | _ => mEr
  | (.iadd, _, _, _) => match st with
    | .int y :: .int x :: st => mNx L (.int (x + y) :: st) h
    | _ => mEr
  | (.isub, _, _, _) => match st with
    | .int y :: .int x :: st => mNx L (.int (x - y) :: st) h
    | _ => mEr
  | (.imul, _, _, _) => match st with
    | .int y :: .int x :: st => mNx L (.int (x * y) :: st) h
    | _ => mEr
  | (.idiv, _, _, _) => match st with
    | .int y :: .int x :: st => if y = 0 then mEr else mNx L (.int (x / y) :: st) h
    | _ => mEr
  | (.irem, _, _, _) => match st with
    | .int y :: .int x :: st => if y = 0 then mEr else mNx L (.int (x - x / y * y) :: st) h
    | _ => mEr
  | (.i2l, _, _, _) => match st with
    | .int x :: st => mNx L (.long x.toInt64 :: st) h
    | _ => mEr
  | (.ladd, _, _, _) => match st with
    | .long y :: .long x :: st => mNx L (.long (x + y) :: st) h
    | _ => mEr
  | (.lmul, _, _, _) => match st with
    | .long y :: .long x :: st => mNx L (.long (x * y) :: st) h
    | _ => mEr
  | (.lcmp, _, _, _) => match st with
    | .long y :: .long x :: st => mNx L (.int (lg_cmp x y) :: st) h
    | _ => mEr
  | (.lload_n _, a, _, _) => match L[a]?, L[a + 1]? with
    | some (.long x), some .null => mNx L (.long x :: st) h
    | _, _ => mEr
  | (.lload _, a, _, _) => match L[a]?, L[a + 1]? with
    | some (.long x), some .null => mNx L (.long x :: st) h
    | _, _ => mEr
  | (.lstore_n _, a, _, _) => match st with
    | .long x :: st => mNx ((L.set a (.long x)).set (a + 1) .null) st h
    | _ => mEr
  | (.lstore _, a, _, _) => match st with
    | .long x :: st => mNx ((L.set a (.long x)).set (a + 1) .null) st h
    | _ => mEr
  | (.ldc2_w _, _, _, v) => mNx L (.long v.toInt64 :: st) h
  | (.lreturn, _, _, _) => match st with
    | [.long x] => mRt (some (.long x)) h
    | _ => mEr
  | (.iand, _, _, _) => match st with
    | .int y :: .int x :: st => mNx L (.int (x &&& y) :: st) h
    | _ => mEr
  | (.ishr, _, _, _) => match st with
    | .int y :: .int x :: st => mNx L (.int (x >>> (y &&& 31)) :: st) h
    | _ => mEr
  | (.i2c, _, _, _) => match st with
    | .int x :: st => mNx L (.int (x.toUInt32 % 65536).toInt32 :: st) h
    | _ => mEr
  | (.dup, _, _, _) => match st with
    | .int x :: st => mNx L (.int x :: .int x :: st) h
    | .ref x :: st => mNx L (.ref x :: .ref x :: st) h
    | _ => mEr
  | (.dup2, _, _, _) => match st with
    | .int x :: .ref y :: st => mNx L (.int x :: .ref y :: .int x :: .ref y :: st) h
    | _ => mEr
  | (.pop, _, _, _) => match st with
    | .int _ :: st => mNx L st h
    | _ => mEr
  | (.goto _, a, _, _) => mJp a L st
  | (.nop, a, _, _) => mJp a L st
  | (.ifCond c _, a, _, _) => match st with
    | .int x :: st => if mCmp c x 0 then mJp a L st else mNx L st h
    | _ => mEr
  | (.if_icmp c _, a, _, _) => match st with
    | .int y :: .int x :: st => if mCmp c x y then mJp a L st else mNx L st h
    | _ => mEr
  | (.tableswitch dflt lo _ offs, a, _, _) => match st with
    | .int x :: st => mJp (mTgt a dflt lo offs x) L st
    | _ => mEr
  | (.ireturn, _, _, v) => match st with
    | [.int x] => if mNar v x then mRt (some (.int x)) h else mEr
    | _ => mEr
  | (.return_, _, _, _) => match st with
    | [] => mRt none h
    | _ => mEr
  | (.getfield _, a, b, v) => match st with
    | .ref o :: st =>
      if v = 4 then (if mStr o then mNx L (.ref (o + 100000) :: st) h else mEr)
      else if v = 5 then (if mStr o then mNx L (.int 0 :: st) h else mEr)
      else if h.1.2.2.1 o = (1, a) then
        (if v = 2 then (match h.2.1 o b with
          | some q => mNx L (.ref q :: st) h
          | none => mEr)
        else mNx L (.int (h.2.2 o b) :: st) h)
      else mEr
    | _ => mEr
  | (.putfield _, a, b, v) => match st with
    | .int x :: .ref o :: st => if h.1.2.2.1 o = (1, a) ∧ (v = 0 ∨ (v = 1 ∧ (x = 0 ∨ x = 1))) then mNx L st (h.1, h.2.1, mSet h.2.2 o b x) else mEr
    | .ref q :: .ref o :: st => if h.1.2.2.1 o = (1, a) ∧ v = 5 ∧ q < 500000 then mNx L st (h.1, mSetR h.2.1 o b (some q), h.2.2) else mEr
    | _ => mEr
  | (.getstatic _, _, _, v) => if v = 0 then mNx L (.int 1 :: st) h else if v = 1 then mNx L (.ref 3000000 :: st) h else mEr
  | (.iaload, _, _, v) => match st with
    | .int i :: .ref o :: st =>
      if v = 1 then (if o = 2000000 ∧ mIn i h.1.2.2.2.1 = true then mNx L (.int (h.1.2.2.2.2 i.toNatClampNeg) :: st) h else mEr)
      else if (h.1.2.2.1 o).1 = 2 ∧ mIn i (h.1.2.2.1 o).2 = true then mNx L (.int (h.2.2 o i.toNatClampNeg) :: st) h else mEr
    | _ => mEr
  | (.caload, _, _, _) => match st with
    | .int i :: .ref o :: st => if (h.1.2.2.1 o).1 = 3 ∧ mIn i (h.1.2.2.1 o).2 = true then mNx L (.int (h.2.2 o i.toNatClampNeg) :: st) h else mEr
    | _ => mEr
  | (.baload, _, _, _) => match st with
    | .int i :: .ref o :: st => if mStB o = true ∧ mIn i (mLen (o - 1100000)) = true then mNx L (.int ((mByt (o - 1100000)).getD i.toNatClampNeg 0) :: st) h else mEr
    | _ => mEr
  | (.iastore, _, _, _) => match st with
    | .int x :: .int i :: .ref o :: st => if (h.1.2.2.1 o).1 = 2 ∧ mIn i (h.1.2.2.1 o).2 = true then mNx L st (h.1, h.2.1, mSet h.2.2 o i.toNatClampNeg x) else mEr
    | _ => mEr
  | (.castore, _, _, _) => match st with
    | .int x :: .int i :: .ref o :: st => if (h.1.2.2.1 o).1 = 3 ∧ mIn i (h.1.2.2.1 o).2 = true then mNx L st (h.1, h.2.1, mSet h.2.2 o i.toNatClampNeg (x.toUInt32 % 65536).toInt32) else mEr
    | _ => mEr
  | (.aaload, a, _, _) => match st with
    | .int i :: .ref o :: st => if (a = 4 ∨ a = 5) ∧ (h.1.2.2.1 o).1 = a ∧ mIn i (h.1.2.2.1 o).2 = true then (match h.2.1 o i.toNatClampNeg with
        | some q => mNx L (.ref q :: st) h
        | none => mEr)
      else mEr
    | _ => mEr
  | (.aastore, a, b, _) => match st with
    | .ref q :: .int i :: .ref o :: st => if ((a = 4 ∧ b = 6) ∨ (a = 5 ∧ b = 4)) ∧ (h.1.2.2.1 o).1 = a ∧ mIn i (h.1.2.2.1 o).2 = true ∧ h.1.2.2.1 q = (1, b) then mNx L st (h.1, mSetR h.2.1 o i.toNatClampNeg (some q), h.2.2) else mEr
    | _ => mEr
  | (.arraylength, _, _, v) => match st with
    | .ref o :: st =>
      if v = 1 then (if o = 2000000 then mNx L (.int (nI h.1.2.2.2.1) :: st) h else mEr)
      else if v = 2 then (if mStB o then mNx L (.int (nI (mLen (o - 1100000))) :: st) h else mEr)
      else if (h.1.2.2.1 o).1 = 2 then mNx L (.int (nI (h.1.2.2.1 o).2) :: st) h else mEr
    | _ => mEr
  | (.newarray _, a, _, _) => match st with
    | .int n :: st => if (a = 2 ∨ a = 3) ∧ 0 ≤ n ∧ n ≤ 100000 ∧ h.1.1 < 500000 then
        mNx L (.ref h.1.1 :: st) ((h.1.1 + 1, h.1.2.1 + n.toNatClampNeg, mShp h.1.2.2.1 h.1.1 (a, n.toNatClampNeg), h.1.2.2.2), h.2.1, fun b j => if b = h.1.1 then 0 else h.2.2 b j) else mEr
    | _ => mEr
  | (.anewarray _, a, b, _) => match st with
    | .int n :: st => if ((a = 4 ∧ b = 6) ∨ (a = 5 ∧ b = 4)) ∧ 0 ≤ n ∧ n ≤ 100000 ∧ h.1.1 < 500000 then
        mNx L (.ref h.1.1 :: st) ((h.1.1 + 1, h.1.2.1 + n.toNatClampNeg, mShp h.1.2.2.1 h.1.1 (a, n.toNatClampNeg), h.1.2.2.2), fun b j => if b = h.1.1 then none else h.2.1 b j, h.2.2) else mEr
    | _ => mEr
  | (.new _, a, b, v) => if v = 0 ∧ h.1.1 < 500000 then
      mNx L (.ref h.1.1 :: st) ((h.1.1 + 1, h.1.2.1 + b, mShp h.1.2.2.1 h.1.1 (1, a), h.1.2.2.2), fun b j => if b = h.1.1 then none else h.2.1 b j, fun b j => if b = h.1.1 then 0 else h.2.2 b j) else mEr
  | (.invokespecial _, a, b, v) =>
    if v = 0 then (match st with
      | .ref o :: st => if st.length ≤ 4 ∧ o < 1000000 then mNx L st h else mEr
      | _ => mEr)
    else if v = 1 ∧ b ≤ st.length ∧ st.length ≤ b + 4 ∧ (st.take b).all m1 = true then (match (st.take b).reverse with
      | .ref o :: as => if o < 1000000 then mCl a (.ref o :: as) (st.drop b) else mEr
      | _ => mEr)
    else mEr
  | (.invokevirtual _, a, b, v) =>
    if v = 0 ∧ b ≤ st.length ∧ st.length ≤ b + 4 ∧ (st.take b).all m1 = true then (match (st.take b).reverse with
      | .ref o :: as => if (rc a = 10 ∧ mStr o = true) ∨ (h.1.2.2.1 o = (1, rc a) ∧ rc a < 8) then mCl a (.ref o :: as) (st.drop b) else mEr
      | _ => mEr)
    else mEr
  | (.invokestatic _, a, b, v) =>
    if v = 0 then (if b ≤ st.length ∧ st.length ≤ b + 4 ∧ (st.take b).all m1 = true then mCl a (st.take b).reverse (st.drop b) else mEr)
    else if v = 1 then (match st with
      | .int y :: .int x :: st => if st.length ≤ 4 then mNx L (.int (if y < x then y else x) :: st) h else mEr
      | _ => mEr)
    else if v = 2 then (match st with
      | .int n :: .int dp :: .ref q :: .int sp :: .ref p :: st =>
        if 0 ≤ sp ∧ 0 ≤ dp ∧ 0 ≤ n ∧ (h.1.2.2.1 p).1 = 2 ∧ (h.1.2.2.1 q).1 = 2 ∧ sp.toNatClampNeg + n.toNatClampNeg ≤ (h.1.2.2.1 p).2 ∧ dp.toNatClampNeg + n.toNatClampNeg ≤ (h.1.2.2.1 q).2 ∧ st.length ≤ 4 then
          mNx L st (h.1, h.2.1, mCpy h.2.2 p sp.toNatClampNeg q dp.toNatClampNeg n.toNatClampNeg) else mEr
      | _ => mEr)
    else mEr
  | (.ldc _, a, b, v) => if b = 1 then mNx L (.int v :: st) h else mNx L (.ref (1000000 + a) :: st) h
  | _ => mEr
/-- the run: B the blocks of the methods by method and place, N how many locals, rc the receivers' classes -/
def mRun (B : Nat → Nat → List mIns) (N rc : Nat → Nat) : Nat → Nat → List mIns → List Value → List Value → mH → Option (Option Value × mH)
  | 0, _, _, _, _, _ => none
  | f + 1, y, is, L, st, h => match is with
    | [] => none
    | i :: is => match mStep rc i L st h with
      | .inl (L', st', h') => mRun B N rc f y is L' st' h'
      | .inr (.inl (t, L', st')) => mRun B N rc f y (B y t) L' st' h
      | .inr (.inr (.inl r)) => some r
      | .inr (.inr (.inr none)) => none
      | .inr (.inr (.inr (some (z, as, st')))) => match mRun B N rc f z (B z 0) (as ++ List.replicate (N z - as.length) .null) [] h with
        | none => none
        | some (v, h') => mRun B N rc f y is L (v.toList ++ st') h'
