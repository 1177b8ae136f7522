/-! RUNS OF THE SMALL MACHINE, without their length: Ev, EvM; a row an instruction -/
def mR : Nat → Nat → List mIns → List Value → List Value → mH → Option (Option Value × mH) := mRun mB mN mRc
theorem mR_succ (f y : Nat) (i : mIns) (is : List mIns) (L st : List Value) (h : mH) : mR (f + 1) y (i :: is) L st h = match mStep mRc i L st h with
      | .inl (L', st', h') => mR f y is L' st' h'
      | .inr (.inl (t, L', st')) => mR f y (mB y t) L' st' h
      | .inr (.inr (.inl r)) => some r
      | .inr (.inr (.inr none)) => none
      | .inr (.inr (.inr (some (z, as, st')))) => match mR f z (mB z 0) (as ++ List.replicate (mN z - as.length) .null) [] h with
        | none => none
        | some (v, h') => mR f y is L (v.toList ++ st') h' := rfl
theorem mR_nil (f y : Nat) (L st : List Value) (h : mH) : mR f y [] L st h = none := by cases f <;> rfl
theorem mR_mono : ∀ (f y : Nat) (is : List mIns) (L st : List Value) (h : mH) (r : Option Value × mH), mR f y is L st h = some r → mR (f + 1) y is L st h = some r := by
  intro f
  induction f with
  | zero => intro y is L st h r hr; cases hr
  | succ f ih =>
    intro y is L st h r hr
    cases is with
    | nil => rw [mR_nil] at hr; cases hr
    | cons i is =>
      rw [mR_succ] at hr ⊢
      generalize mStep mRc i L st h = w at hr ⊢
      rcases w with ⟨L', st', h'⟩ | ⟨t, L', st'⟩ | q | (_ | ⟨z, as, st'⟩)
      · exact ih _ _ _ _ _ _ hr
      · exact ih _ _ _ _ _ _ hr
      · exact hr
      · cases hr
      · dsimp only at hr ⊢
        cases hc : mR f z (mB z 0) (as ++ List.replicate (mN z - as.length) .null) [] h with
        | none => rw [hc] at hr; cases hr
        | some q =>
          rw [hc] at hr
          rw [ih _ _ _ _ _ _ hc]
          exact ih _ _ _ _ _ _ hr
theorem mR_le {f g y : Nat} {is : List mIns} {L st : List Value} {h : mH} {r : Option Value × mH} (hfg : f ≤ g) (hr : mR f y is L st h = some r) : mR g y is L st h = some r := by
  obtain ⟨d, rfl⟩ := Nat.exists_eq_add_of_le hfg
  induction d with
  | zero => exact hr
  | succ d ih => exact mR_mono _ _ _ _ _ _ _ (ih (Nat.le_add_right _ _))
def Ev (y : Nat) (is : List mIns) (L st : List Value) (h : mH) (Q : Option Value → mH → Prop) : Prop := ∃ (f : Nat) (r : Option Value × mH), mR f y is L st h = some r ∧ Q r.1 r.2
def EvM (z : Nat) (as : List Value) (h : mH) (Q : Option Value → mH → Prop) : Prop := Ev z (mB z 0) (as ++ List.replicate (mN z - as.length) .null) [] h Q
theorem Ev_mono {y : Nat} {is : List mIns} {L st : List Value} {h : mH} {Q Q' : Option Value → mH → Prop} (hQ : ∀ v k, Q v k → Q' v k) (hE : Ev y is L st h Q) : Ev y is L st h Q' := by
  obtain ⟨f, r, h1, h2⟩ := hE
  exact ⟨f, r, h1, hQ _ _ h2⟩
theorem EvM_mono {z : Nat} {as : List Value} {h : mH} {Q Q' : Option Value → mH → Prop} (hQ : ∀ v k, Q v k → Q' v k) (hE : EvM z as h Q) : EvM z as h Q' := Ev_mono hQ hE
theorem Ev_nx {y : Nat} {i : mIns} {is : List mIns} {L st L' st' : List Value} {h h' : mH} {Q : Option Value → mH → Prop} (hs : mStep mRc i L st h = .inl (L', st', h')) : Ev y (i :: is) L st h Q ↔ Ev y is L' st' h' Q := by
  constructor
  · rintro ⟨f, r, h1, h2⟩
    cases f with
    | zero => cases h1
    | succ f => rw [mR_succ, hs] at h1; exact ⟨f, r, h1, h2⟩
  · rintro ⟨f, r, h1, h2⟩
    exact ⟨f + 1, r, by rw [mR_succ, hs]; exact h1, h2⟩
theorem Ev_jp {y t : Nat} {i : mIns} {is : List mIns} {L st L' st' : List Value} {h : mH} {Q : Option Value → mH → Prop} (hs : mStep mRc i L st h = .inr (.inl (t, L', st'))) : Ev y (i :: is) L st h Q ↔ Ev y (mB y t) L' st' h Q := by
  constructor
  · rintro ⟨f, r, h1, h2⟩
    cases f with
    | zero => cases h1
    | succ f => rw [mR_succ, hs] at h1; exact ⟨f, r, h1, h2⟩
  · rintro ⟨f, r, h1, h2⟩
    exact ⟨f + 1, r, by rw [mR_succ, hs]; exact h1, h2⟩
theorem Ev_rt {y : Nat} {i : mIns} {is : List mIns} {L st : List Value} {h : mH} {v : Option Value} {h' : mH} {Q : Option Value → mH → Prop} (hs : mStep mRc i L st h = .inr (.inr (.inl (v, h')))) : Ev y (i :: is) L st h Q ↔ Q v h' := by
  constructor
  · rintro ⟨f, r, h1, h2⟩
    cases f with
    | zero => cases h1
    | succ f => rw [mR_succ, hs] at h1; cases h1; exact h2
  · intro h2
    exact ⟨1, (v, h'), by rw [mR_succ, hs], h2⟩
theorem Ev_er {y : Nat} {i : mIns} {is : List mIns} {L st : List Value} {h : mH} {Q : Option Value → mH → Prop} (hs : mStep mRc i L st h = .inr (.inr (.inr none))) : Ev y (i :: is) L st h Q ↔ False := by
  constructor
  · rintro ⟨f, r, h1, h2⟩
    cases f with
    | zero => cases h1
    | succ f => rw [mR_succ, hs] at h1; cases h1
  · exact False.elim
theorem Ev_cl {y z : Nat} {i : mIns} {is : List mIns} {as L st st' : List Value} {h : mH} {Q : Option Value → mH → Prop} (hs : mStep mRc i L st h = .inr (.inr (.inr (some (z, as, st'))))) : Ev y (i :: is) L st h Q ↔ EvM z as h (fun v h' => Ev y is L (v.toList ++ st') h' Q) := by
  constructor
  · rintro ⟨f, r, h1, h2⟩
    cases f with
    | zero => cases h1
    | succ f =>
      rw [mR_succ, hs] at h1
      dsimp only at h1
      cases hc : mR f z (mB z 0) (as ++ List.replicate (mN z - as.length) .null) [] h with
      | none => rw [hc] at h1; cases h1
      | some q => rw [hc] at h1; exact ⟨f, q, hc, f, r, h1, h2⟩
  · rintro ⟨f, q, h1, g, r, h2, h3⟩
    refine ⟨max f g + 1, r, ?_, h3⟩
    rw [mR_succ, hs]
    dsimp only
    rw [mR_le (Nat.le_max_left f g) h1]
    exact mR_le (Nat.le_max_right f g) h2
section EVROWS
variable {y a b n : Nat} {v x p q : Int32} {is : List mIns} {L st : List Value} {h : mH} {o r : Nat} {Q : Option Value → mH → Prop}
theorem e_iconst {k : Int} : Ev y ((.iconst k, a, b, v) :: is) L st h Q ↔ Ev y is L (.int v :: st) h Q := Ev_nx rfl
theorem e_bipush {k : Int} : Ev y ((.bipush k, a, b, v) :: is) L st h Q ↔ Ev y is L (.int v :: st) h Q := Ev_nx rfl
theorem e_sipush {k : Int} : Ev y ((.sipush k, a, b, v) :: is) L st h Q ↔ Ev y is L (.int v :: st) h Q := Ev_nx rfl
theorem e_iload_n {k : Fin 4} : Ev y ((.iload_n k, a, b, v) :: is) L st h Q ↔ ∃ x, L[a]? = some (.int x) ∧ Ev y is L (.int x :: st) h Q := by
  constructor
  · intro z
    by_cases c : ∃ x, L[a]? = some (.int x)
    · obtain ⟨x, c⟩ := c
      rw [Ev_nx (L' := L) (st' := .int x :: st) (h' := h) (by simp only [mStep, c])] at z
      exact ⟨x, c, z⟩
    · rw [Ev_er] at z
      · exact z.elim
      · simp only [mStep]
        split
        · rename_i x e; exact absurd ⟨x, e⟩ c
        · rfl
  · rintro ⟨x, c, z⟩
    rw [Ev_nx (L' := L) (st' := .int x :: st) (h' := h) (by simp only [mStep, c])]
    exact z
theorem e_iload {k : Nat} : Ev y ((.iload k, a, b, v) :: is) L st h Q ↔ ∃ x, L[a]? = some (.int x) ∧ Ev y is L (.int x :: st) h Q := by
  constructor
  · intro z
    by_cases c : ∃ x, L[a]? = some (.int x)
    · obtain ⟨x, c⟩ := c
      rw [Ev_nx (L' := L) (st' := .int x :: st) (h' := h) (by simp only [mStep, c])] at z
      exact ⟨x, c, z⟩
    · rw [Ev_er] at z
      · exact z.elim
      · simp only [mStep]
        split
        · rename_i x e; exact absurd ⟨x, e⟩ c
        · rfl
  · rintro ⟨x, c, z⟩
    rw [Ev_nx (L' := L) (st' := .int x :: st) (h' := h) (by simp only [mStep, c])]
    exact z
theorem e_aload_n {k : Fin 4} : Ev y ((.aload_n k, a, b, v) :: is) L st h Q ↔ ∃ o, L[a]? = some (.ref o) ∧ Ev y is L (.ref o :: st) h Q := by
  constructor
  · intro z
    by_cases c : ∃ x, L[a]? = some (.ref x)
    · obtain ⟨x, c⟩ := c
      rw [Ev_nx (L' := L) (st' := .ref x :: st) (h' := h) (by simp only [mStep, c])] at z
      exact ⟨x, c, z⟩
    · rw [Ev_er] at z
      · exact z.elim
      · simp only [mStep]
        split
        · rename_i x e; exact absurd ⟨x, e⟩ c
        · rfl
  · rintro ⟨x, c, z⟩
    rw [Ev_nx (L' := L) (st' := .ref x :: st) (h' := h) (by simp only [mStep, c])]
    exact z
theorem e_aload {k : Nat} : Ev y ((.aload k, a, b, v) :: is) L st h Q ↔ ∃ o, L[a]? = some (.ref o) ∧ Ev y is L (.ref o :: st) h Q := by
  constructor
  · intro z
    by_cases c : ∃ x, L[a]? = some (.ref x)
    · obtain ⟨x, c⟩ := c
      rw [Ev_nx (L' := L) (st' := .ref x :: st) (h' := h) (by simp only [mStep, c])] at z
      exact ⟨x, c, z⟩
    · rw [Ev_er] at z
      · exact z.elim
      · simp only [mStep]
        split
        · rename_i x e; exact absurd ⟨x, e⟩ c
        · rfl
  · rintro ⟨x, c, z⟩
    rw [Ev_nx (L' := L) (st' := .ref x :: st) (h' := h) (by simp only [mStep, c])]
    exact z
theorem e_istore_n {k : Fin 4} : Ev y ((.istore_n k, a, b, v) :: is) L (.int x :: st) h Q ↔ Ev y is (L.set a (.int x)) st h Q := Ev_nx rfl
theorem e_istore {k : Nat} : Ev y ((.istore k, a, b, v) :: is) L (.int x :: st) h Q ↔ Ev y is (L.set a (.int x)) st h Q := Ev_nx rfl
theorem e_astore_n {k : Fin 4} : Ev y ((.astore_n k, a, b, v) :: is) L (.ref o :: st) h Q ↔ Ev y is (L.set a (.ref o)) st h Q := Ev_nx rfl
theorem e_astore {k : Nat} : Ev y ((.astore k, a, b, v) :: is) L (.ref o :: st) h Q ↔ Ev y is (L.set a (.ref o)) st h Q := Ev_nx rfl
theorem e_iinc {k : Nat} {m : Int} : Ev y ((.iinc k m, a, b, v) :: is) L st h Q ↔ ∃ x, L[a]? = some (.int x) ∧ Ev y is (L.set a (.int (x + v))) st h Q := by
  constructor
  · intro z
    by_cases c : ∃ x, L[a]? = some (.int x)
    · obtain ⟨x, c⟩ := c
      rw [Ev_nx (L' := L.set a (.int (x + v))) (st' := st) (h' := h) (by simp only [mStep, c])] at z
      exact ⟨x, c, z⟩
    · rw [Ev_er] at z
      · exact z.elim
      · simp only [mStep]
        split
        · rename_i x e; exact absurd ⟨x, e⟩ c
        · rfl
  · rintro ⟨x, c, z⟩
    rw [Ev_nx (L' := L.set a (.int (x + v))) (st' := st) (h' := h) (by simp only [mStep, c])]
    exact z
theorem e_iadd : Ev y ((.iadd, a, b, v) :: is) L (.int q :: .int p :: st) h Q ↔ Ev y is L (.int (p + q) :: st) h Q := Ev_nx rfl
theorem e_isub : Ev y ((.isub, a, b, v) :: is) L (.int q :: .int p :: st) h Q ↔ Ev y is L (.int (p - q) :: st) h Q := Ev_nx rfl
theorem e_imul : Ev y ((.imul, a, b, v) :: is) L (.int q :: .int p :: st) h Q ↔ Ev y is L (.int (p * q) :: st) h Q := Ev_nx rfl
theorem e_iand : Ev y ((.iand, a, b, v) :: is) L (.int q :: .int p :: st) h Q ↔ Ev y is L (.int (p &&& q) :: st) h Q := Ev_nx rfl
theorem e_ishr : Ev y ((.ishr, a, b, v) :: is) L (.int q :: .int p :: st) h Q ↔ Ev y is L (.int (p >>> (q &&& 31)) :: st) h Q := Ev_nx rfl
theorem e_idiv : Ev y ((.idiv, a, b, v) :: is) L (.int q :: .int p :: st) h Q ↔ ¬ q = 0 ∧ Ev y is L (.int (p / q) :: st) h Q := by
  by_cases c : q = 0
  · subst c
    rw [Ev_er (by simp [mStep])]; simp
  · rw [Ev_nx (L' := L) (st' := .int (p / q) :: st) (h' := h) (by simp [mStep, c])]; simp [c]
theorem e_i2c : Ev y ((.i2c, a, b, v) :: is) L (.int p :: st) h Q ↔ Ev y is L (.int (p.toUInt32 % 65536).toInt32 :: st) h Q := Ev_nx rfl
theorem e_dup_i : Ev y ((.dup, a, b, v) :: is) L (.int p :: st) h Q ↔ Ev y is L (.int p :: .int p :: st) h Q := Ev_nx rfl
theorem e_dup_r : Ev y ((.dup, a, b, v) :: is) L (.ref o :: st) h Q ↔ Ev y is L (.ref o :: .ref o :: st) h Q := Ev_nx rfl
theorem e_dup2 : Ev y ((.dup2, a, b, v) :: is) L (.int p :: .ref o :: st) h Q ↔ Ev y is L (.int p :: .ref o :: .int p :: .ref o :: st) h Q := Ev_nx rfl
theorem e_pop : Ev y ((.pop, a, b, v) :: is) L (.int p :: st) h Q ↔ Ev y is L st h Q := Ev_nx rfl
theorem e_goto {k : Int} : Ev y ((.goto k, a, b, v) :: is) L st h Q ↔ Ev y (mB y a) L st h Q := Ev_jp rfl
theorem e_nop : Ev y ((.nop, a, b, v) :: is) L st h Q ↔ Ev y (mB y a) L st h Q := Ev_jp rfl
theorem e_if_eq {k : Int} : Ev y ((.ifCond .eq k, a, b, v) :: is) L (.int p :: st) h Q ↔ if p = 0 then Ev y (mB y a) L st h Q else Ev y is L st h Q := by
  by_cases c : p = 0
  · rw [if_pos c, Ev_jp (t := a) (L' := L) (st' := st) (by simp [mStep, mCmp, c])]
  · rw [if_neg c, Ev_nx (L' := L) (st' := st) (h' := h) (by simp [mStep, mCmp]; first | exact fun z => absurd z c | (simpa using c) | exact c)]
theorem e_if_ne {k : Int} : Ev y ((.ifCond .ne k, a, b, v) :: is) L (.int p :: st) h Q ↔ if ¬ p = 0 then Ev y (mB y a) L st h Q else Ev y is L st h Q := by
  by_cases c : ¬ p = 0
  · rw [if_pos c, Ev_jp (t := a) (L' := L) (st' := st) (by simp [mStep, mCmp, c])]
  · rw [if_neg c, Ev_nx (L' := L) (st' := st) (h' := h) (by simp [mStep, mCmp]; first | exact fun z => absurd z c | (simpa using c) | exact c)]
theorem e_if_lt {k : Int} : Ev y ((.ifCond .lt k, a, b, v) :: is) L (.int p :: st) h Q ↔ if p < 0 then Ev y (mB y a) L st h Q else Ev y is L st h Q := by
  by_cases c : p < 0
  · rw [if_pos c, Ev_jp (t := a) (L' := L) (st' := st) (by simp [mStep, mCmp, c])]
  · rw [if_neg c, Ev_nx (L' := L) (st' := st) (h' := h) (by simp [mStep, mCmp]; first | exact fun z => absurd z c | (simpa using c) | exact c)]
theorem e_if_ge {k : Int} : Ev y ((.ifCond .ge k, a, b, v) :: is) L (.int p :: st) h Q ↔ if 0 ≤ p then Ev y (mB y a) L st h Q else Ev y is L st h Q := by
  by_cases c : 0 ≤ p
  · rw [if_pos c, Ev_jp (t := a) (L' := L) (st' := st) (by simp [mStep, mCmp, c])]
  · rw [if_neg c, Ev_nx (L' := L) (st' := st) (h' := h) (by simp [mStep, mCmp]; first | exact fun z => absurd z c | (simpa using c) | exact c)]
theorem e_if_gt {k : Int} : Ev y ((.ifCond .gt k, a, b, v) :: is) L (.int p :: st) h Q ↔ if 0 < p then Ev y (mB y a) L st h Q else Ev y is L st h Q := by
  by_cases c : 0 < p
  · rw [if_pos c, Ev_jp (t := a) (L' := L) (st' := st) (by simp [mStep, mCmp, c])]
  · rw [if_neg c, Ev_nx (L' := L) (st' := st) (h' := h) (by simp [mStep, mCmp]; first | exact fun z => absurd z c | (simpa using c) | exact c)]
theorem e_if_le {k : Int} : Ev y ((.ifCond .le k, a, b, v) :: is) L (.int p :: st) h Q ↔ if p ≤ 0 then Ev y (mB y a) L st h Q else Ev y is L st h Q := by
  by_cases c : p ≤ 0
  · rw [if_pos c, Ev_jp (t := a) (L' := L) (st' := st) (by simp [mStep, mCmp, c])]
  · rw [if_neg c, Ev_nx (L' := L) (st' := st) (h' := h) (by simp [mStep, mCmp]; first | exact fun z => absurd z c | (simpa using c) | exact c)]
theorem e_icmp_eq {k : Int} : Ev y ((.if_icmp .eq k, a, b, v) :: is) L (.int q :: .int p :: st) h Q ↔ if p = q then Ev y (mB y a) L st h Q else Ev y is L st h Q := by
  by_cases c : p = q
  · rw [if_pos c, Ev_jp (t := a) (L' := L) (st' := st) (by simp [mStep, mCmp, c])]
  · rw [if_neg c, Ev_nx (L' := L) (st' := st) (h' := h) (by simp [mStep, mCmp]; first | exact fun z => absurd z c | (simpa using c) | exact c)]
theorem e_icmp_ne {k : Int} : Ev y ((.if_icmp .ne k, a, b, v) :: is) L (.int q :: .int p :: st) h Q ↔ if ¬ p = q then Ev y (mB y a) L st h Q else Ev y is L st h Q := by
  by_cases c : ¬ p = q
  · rw [if_pos c, Ev_jp (t := a) (L' := L) (st' := st) (by simp [mStep, mCmp, c])]
  · rw [if_neg c, Ev_nx (L' := L) (st' := st) (h' := h) (by simp [mStep, mCmp]; first | exact fun z => absurd z c | (simpa using c) | exact c)]
theorem e_icmp_lt {k : Int} : Ev y ((.if_icmp .lt k, a, b, v) :: is) L (.int q :: .int p :: st) h Q ↔ if p < q then Ev y (mB y a) L st h Q else Ev y is L st h Q := by
  by_cases c : p < q
  · rw [if_pos c, Ev_jp (t := a) (L' := L) (st' := st) (by simp [mStep, mCmp, c])]
  · rw [if_neg c, Ev_nx (L' := L) (st' := st) (h' := h) (by simp [mStep, mCmp]; first | exact fun z => absurd z c | (simpa using c) | exact c)]
theorem e_icmp_ge {k : Int} : Ev y ((.if_icmp .ge k, a, b, v) :: is) L (.int q :: .int p :: st) h Q ↔ if q ≤ p then Ev y (mB y a) L st h Q else Ev y is L st h Q := by
  by_cases c : q ≤ p
  · rw [if_pos c, Ev_jp (t := a) (L' := L) (st' := st) (by simp [mStep, mCmp, c])]
  · rw [if_neg c, Ev_nx (L' := L) (st' := st) (h' := h) (by simp [mStep, mCmp]; first | exact fun z => absurd z c | (simpa using c) | exact c)]
theorem e_icmp_gt {k : Int} : Ev y ((.if_icmp .gt k, a, b, v) :: is) L (.int q :: .int p :: st) h Q ↔ if q < p then Ev y (mB y a) L st h Q else Ev y is L st h Q := by
  by_cases c : q < p
  · rw [if_pos c, Ev_jp (t := a) (L' := L) (st' := st) (by simp [mStep, mCmp, c])]
  · rw [if_neg c, Ev_nx (L' := L) (st' := st) (h' := h) (by simp [mStep, mCmp]; first | exact fun z => absurd z c | (simpa using c) | exact c)]
theorem e_icmp_le {k : Int} : Ev y ((.if_icmp .le k, a, b, v) :: is) L (.int q :: .int p :: st) h Q ↔ if p ≤ q then Ev y (mB y a) L st h Q else Ev y is L st h Q := by
  by_cases c : p ≤ q
  · rw [if_pos c, Ev_jp (t := a) (L' := L) (st' := st) (by simp [mStep, mCmp, c])]
  · rw [if_neg c, Ev_nx (L' := L) (st' := st) (h' := h) (by simp [mStep, mCmp]; first | exact fun z => absurd z c | (simpa using c) | exact c)]
theorem e_tsw {d lo hi : Int} {offs : Array Int} : Ev y ((.tableswitch d lo hi offs, a, b, v) :: is) L (.int p :: st) h Q ↔ Ev y (mB y (mTgt a d lo offs p)) L st h Q := Ev_jp rfl
theorem e_ret0 : Ev y ((.ireturn, a, b, 0) :: is) L [.int p] h Q ↔ Q (some (.int p)) h := Ev_rt (by simp [mStep, mNar])
theorem e_ret1 : Ev y ((.ireturn, a, b, 1) :: is) L [.int p] h Q ↔ (p = 0 ∨ p = 1) ∧ Q (some (.int p)) h := by
  by_cases c : p = 0 ∨ p = 1
  · rw [Ev_rt (v := some (.int p)) (h' := h) (by simp [mStep, mNar, c])]; simp [c]
  · rw [Ev_er (by simp [mStep, mNar]; simpa using c)]; simp [c]
theorem e_retv (hn : mNar v p = true) : Ev y ((.ireturn, a, b, v) :: is) L [.int p] h Q ↔ Q (some (.int p)) h := Ev_rt (by simp only [mStep, hn, if_true])
theorem e_retn : Ev y ((.return_, a, b, v) :: is) L [] h Q ↔ Q none h := Ev_rt rfl
theorem e_getI {k : Nat} : Ev y ((.getfield k, a, b, 0) :: is) L (.ref o :: st) h Q ↔ h.1.2.2.1 o = (1, a) ∧ Ev y is L (.int (h.2.2 o b) :: st) h Q := by
  by_cases c : h.1.2.2.1 o = (1, a)
  · rw [Ev_nx (L' := L) (st' := .int (h.2.2 o b) :: st) (h' := h) (by simp [mStep, c])]; simp [c]
  · rw [Ev_er (by simp [mStep, c])]; simp [c]
theorem e_getZ {k : Nat} : Ev y ((.getfield k, a, b, 1) :: is) L (.ref o :: st) h Q ↔ h.1.2.2.1 o = (1, a) ∧ Ev y is L (.int (h.2.2 o b) :: st) h Q := by
  by_cases c : h.1.2.2.1 o = (1, a)
  · rw [Ev_nx (L' := L) (st' := .int (h.2.2 o b) :: st) (h' := h) (by simp [mStep, c])]; simp [c]
  · rw [Ev_er (by simp [mStep, c])]; simp [c]
theorem e_getR {k : Nat} : Ev y ((.getfield k, a, b, 2) :: is) L (.ref o :: st) h Q ↔ h.1.2.2.1 o = (1, a) ∧ ∃ r, h.2.1 o b = some r ∧ Ev y is L (.ref r :: st) h Q := by
  by_cases c : h.1.2.2.1 o = (1, a)
  · cases e : h.2.1 o b with
    | some r => rw [Ev_nx (L' := L) (st' := .ref r :: st) (h' := h) (by simp [mStep, c, e])]; simp [c]
    | none => rw [Ev_er (by simp [mStep, c, e])]; simp
  · rw [Ev_er (by simp [mStep, c])]; simp [c]
theorem e_getV {k : Nat} : Ev y ((.getfield k, a, b, 4) :: is) L (.ref o :: st) h Q ↔ mStr o = true ∧ Ev y is L (.ref (o + 100000) :: st) h Q := by
  by_cases c : mStr o = true
  · rw [Ev_nx (L' := L) (st' := .ref (o + 100000) :: st) (h' := h) (by simp [mStep, c])]; simp [c]
  · rw [Ev_er (by simp [mStep, c])]; simp [c]
theorem e_getC {k : Nat} : Ev y ((.getfield k, a, b, 5) :: is) L (.ref o :: st) h Q ↔ mStr o = true ∧ Ev y is L (.int 0 :: st) h Q := by
  by_cases c : mStr o = true
  · rw [Ev_nx (L' := L) (st' := .int 0 :: st) (h' := h) (by simp [mStep, c])]; simp [c]
  · rw [Ev_er (by simp [mStep, c])]; simp [c]
theorem e_putI {k : Nat} : Ev y ((.putfield k, a, b, 0) :: is) L (.int x :: .ref o :: st) h Q ↔ h.1.2.2.1 o = (1, a) ∧ Ev y is L st (h.1, h.2.1, mSet h.2.2 o b x) Q := by
  by_cases c : h.1.2.2.1 o = (1, a)
  · rw [Ev_nx (L' := L) (st' := st) (h' := (h.1, h.2.1, mSet h.2.2 o b x)) (by simp [mStep, c])]; simp [c]
  · rw [Ev_er (by simp [mStep, c])]; simp [c]
theorem e_putZ {k : Nat} : Ev y ((.putfield k, a, b, 1) :: is) L (.int x :: .ref o :: st) h Q ↔ h.1.2.2.1 o = (1, a) ∧ (x = 0 ∨ x = 1) ∧ Ev y is L st (h.1, h.2.1, mSet h.2.2 o b x) Q := by
  by_cases c : h.1.2.2.1 o = (1, a) ∧ (x = 0 ∨ x = 1)
  · rw [Ev_nx (L' := L) (st' := st) (h' := (h.1, h.2.1, mSet h.2.2 o b x)) (by simp only [mStep]; rw [if_pos ⟨c.1, Or.inr ⟨trivial, c.2⟩⟩])]; simp only [c.1, c.2, true_and]
  · rw [Ev_er (by simp only [mStep]; rw [if_neg (fun z => c ⟨z.1, z.2.elim (fun w => absurd w (by decide)) (fun w => w.2)⟩)])]
    constructor
    · exact False.elim
    · rintro ⟨c1, c2, -⟩; exact c ⟨c1, c2⟩
theorem e_putF {k : Nat} : Ev y ((.putfield k, a, b, 5) :: is) L (.ref r :: .ref o :: st) h Q ↔ h.1.2.2.1 o = (1, a) ∧ r < 500000 ∧ Ev y is L st (h.1, mSetR h.2.1 o b (some r), h.2.2) Q := by
  by_cases c : h.1.2.2.1 o = (1, a) ∧ r < 500000
  · rw [Ev_nx (L' := L) (st' := st) (h' := (h.1, mSetR h.2.1 o b (some r), h.2.2)) (by simp [mStep, c.1, c.2])]; simp [c.1, c.2]
  · rw [Ev_er (by simp only [mStep]; rw [if_neg (by rintro ⟨c1, -, c2⟩; exact c ⟨c1, c2⟩)])]
    constructor
    · exact False.elim
    · rintro ⟨c1, c2, -⟩; exact c ⟨c1, c2⟩
theorem e_gst0 {k : Nat} : Ev y ((.getstatic k, a, b, 0) :: is) L st h Q ↔ Ev y is L (.int 1 :: st) h Q := Ev_nx (by simp [mStep])
theorem e_gst1 {k : Nat} : Ev y ((.getstatic k, a, b, 1) :: is) L st h Q ↔ Ev y is L (.ref 3000000 :: st) h Q := Ev_nx (by simp [mStep])
theorem e_sld : Ev y ((.iaload, a, b, 1) :: is) L (.int p :: .ref o :: st) h Q ↔ (o = 2000000 ∧ mIn p h.1.2.2.2.1 = true) ∧ Ev y is L (.int (h.1.2.2.2.2 p.toNatClampNeg) :: st) h Q := by
  by_cases c : o = 2000000 ∧ mIn p h.1.2.2.2.1 = true
  · rw [Ev_nx (L' := L) (st' := .int (h.1.2.2.2.2 p.toNatClampNeg) :: st) (h' := h) (by simp [mStep, c.1, c.2])]; simp [c.1, c.2]
  · rw [Ev_er (by simp only [mStep, if_true]; rw [if_neg c])]; simp only [c, false_and]
theorem e_iald : Ev y ((.iaload, a, b, 0) :: is) L (.int p :: .ref o :: st) h Q ↔ ((h.1.2.2.1 o).1 = 2 ∧ mIn p (h.1.2.2.1 o).2 = true) ∧ Ev y is L (.int (h.2.2 o p.toNatClampNeg) :: st) h Q := by
  by_cases c : (h.1.2.2.1 o).1 = 2 ∧ mIn p (h.1.2.2.1 o).2 = true
  · rw [Ev_nx (L' := L) (st' := .int (h.2.2 o p.toNatClampNeg) :: st) (h' := h) (by simp [mStep, c.1, c.2])]; simp [c.1, c.2]
  · rw [Ev_er (by simp only [mStep]; rw [if_neg (by decide), if_neg c])]; simp only [c, false_and]
theorem e_cald : Ev y ((.caload, a, b, v) :: is) L (.int p :: .ref o :: st) h Q ↔ ((h.1.2.2.1 o).1 = 3 ∧ mIn p (h.1.2.2.1 o).2 = true) ∧ Ev y is L (.int (h.2.2 o p.toNatClampNeg) :: st) h Q := by
  by_cases c : (h.1.2.2.1 o).1 = 3 ∧ mIn p (h.1.2.2.1 o).2 = true
  · rw [Ev_nx (L' := L) (st' := .int (h.2.2 o p.toNatClampNeg) :: st) (h' := h) (by simp [mStep, c.1, c.2])]; simp [c.1, c.2]
  · rw [Ev_er (by simp only [mStep]; rw [if_neg c])]; simp only [c, false_and]
theorem e_bald : Ev y ((.baload, a, b, v) :: is) L (.int p :: .ref o :: st) h Q ↔ (mStB o = true ∧ mIn p (mLen (o - 1100000)) = true) ∧ Ev y is L (.int ((mByt (o - 1100000)).getD p.toNatClampNeg 0) :: st) h Q := by
  by_cases c : mStB o = true ∧ mIn p (mLen (o - 1100000)) = true
  · rw [Ev_nx (L' := L) (st' := .int ((mByt (o - 1100000)).getD p.toNatClampNeg 0) :: st) (h' := h) (by simp only [mStep]; rw [if_pos c])]; simp only [c, true_and, and_self]
  · rw [Ev_er (by simp only [mStep]; rw [if_neg c])]; simp only [c, false_and]
theorem e_iast : Ev y ((.iastore, a, b, v) :: is) L (.int x :: .int p :: .ref o :: st) h Q ↔ ((h.1.2.2.1 o).1 = 2 ∧ mIn p (h.1.2.2.1 o).2 = true) ∧ Ev y is L st (h.1, h.2.1, mSet h.2.2 o p.toNatClampNeg x) Q := by
  by_cases c : (h.1.2.2.1 o).1 = 2 ∧ mIn p (h.1.2.2.1 o).2 = true
  · rw [Ev_nx (L' := L) (st' := st) (h' := (h.1, h.2.1, mSet h.2.2 o p.toNatClampNeg x)) (by simp only [mStep]; rw [if_pos c])]; simp only [c, true_and, and_self]
  · rw [Ev_er (by simp only [mStep]; rw [if_neg c])]; simp only [c, false_and]
theorem e_cast : Ev y ((.castore, a, b, v) :: is) L (.int x :: .int p :: .ref o :: st) h Q ↔ ((h.1.2.2.1 o).1 = 3 ∧ mIn p (h.1.2.2.1 o).2 = true) ∧ Ev y is L st (h.1, h.2.1, mSet h.2.2 o p.toNatClampNeg (x.toUInt32 % 65536).toInt32) Q := by
  by_cases c : (h.1.2.2.1 o).1 = 3 ∧ mIn p (h.1.2.2.1 o).2 = true
  · rw [Ev_nx (L' := L) (st' := st) (h' := (h.1, h.2.1, mSet h.2.2 o p.toNatClampNeg (x.toUInt32 % 65536).toInt32)) (by simp only [mStep]; rw [if_pos c])]; simp only [c, true_and, and_self]
  · rw [Ev_er (by simp only [mStep]; rw [if_neg c])]; simp only [c, false_and]
theorem e_aald : Ev y ((.aaload, a, b, v) :: is) L (.int p :: .ref o :: st) h Q ↔ ((a = 4 ∨ a = 5) ∧ (h.1.2.2.1 o).1 = a ∧ mIn p (h.1.2.2.1 o).2 = true) ∧ ∃ r, h.2.1 o p.toNatClampNeg = some r ∧ Ev y is L (.ref r :: st) h Q := by
  by_cases c : (a = 4 ∨ a = 5) ∧ (h.1.2.2.1 o).1 = a ∧ mIn p (h.1.2.2.1 o).2 = true
  · cases e : h.2.1 o p.toNatClampNeg with
    | some r => rw [Ev_nx (L' := L) (st' := .ref r :: st) (h' := h) (by simp only [mStep]; rw [if_pos c, e])]; simp only [c, true_and, and_self, Option.some.injEq, exists_eq_left']
    | none => rw [Ev_er (by simp only [mStep]; rw [if_pos c, e])]; simp
  · rw [Ev_er (by simp only [mStep]; rw [if_neg c])]; simp only [c, false_and]
theorem e_aast : Ev y ((.aastore, a, b, v) :: is) L (.ref r :: .int p :: .ref o :: st) h Q ↔ (((a = 4 ∧ b = 6) ∨ (a = 5 ∧ b = 4)) ∧ (h.1.2.2.1 o).1 = a ∧ mIn p (h.1.2.2.1 o).2 = true ∧ h.1.2.2.1 r = (1, b)) ∧ Ev y is L st (h.1, mSetR h.2.1 o p.toNatClampNeg (some r), h.2.2) Q := by
  by_cases c : ((a = 4 ∧ b = 6) ∨ (a = 5 ∧ b = 4)) ∧ (h.1.2.2.1 o).1 = a ∧ mIn p (h.1.2.2.1 o).2 = true ∧ h.1.2.2.1 r = (1, b)
  · rw [Ev_nx (L' := L) (st' := st) (h' := (h.1, mSetR h.2.1 o p.toNatClampNeg (some r), h.2.2)) (by simp only [mStep]; rw [if_pos c])]; simp only [c, true_and, and_self]
  · rw [Ev_er (by simp only [mStep]; rw [if_neg c])]; simp only [c, false_and]
theorem e_alen : Ev y ((.arraylength, a, b, 0) :: is) L (.ref o :: st) h Q ↔ (h.1.2.2.1 o).1 = 2 ∧ Ev y is L (.int (nI (h.1.2.2.1 o).2) :: st) h Q := by
  by_cases c : (h.1.2.2.1 o).1 = 2
  · rw [Ev_nx (L' := L) (st' := .int (nI (h.1.2.2.1 o).2) :: st) (h' := h) (by simp [mStep, c])]; simp [c]
  · rw [Ev_er (by simp [mStep, c])]; simp [c]
theorem e_slen : Ev y ((.arraylength, a, b, 1) :: is) L (.ref o :: st) h Q ↔ o = 2000000 ∧ Ev y is L (.int (nI h.1.2.2.2.1) :: st) h Q := by
  by_cases c : o = 2000000
  · rw [Ev_nx (L' := L) (st' := .int (nI h.1.2.2.2.1) :: st) (h' := h) (by simp [mStep, c])]; simp [c]
  · rw [Ev_er (by simp [mStep, c])]; simp [c]
theorem e_blen : Ev y ((.arraylength, a, b, 2) :: is) L (.ref o :: st) h Q ↔ mStB o = true ∧ Ev y is L (.int (nI (mLen (o - 1100000))) :: st) h Q := by
  by_cases c : mStB o = true
  · rw [Ev_nx (L' := L) (st' := .int (nI (mLen (o - 1100000))) :: st) (h' := h) (by simp [mStep, c])]; simp [c]
  · rw [Ev_er (by simp [mStep, c])]; simp [c]
theorem e_newa {t : ArrayType} : Ev y ((.newarray t, a, b, v) :: is) L (.int x :: st) h Q ↔ ((a = 2 ∨ a = 3) ∧ 0 ≤ x ∧ x ≤ 100000 ∧ h.1.1 < 500000) ∧
    Ev y is L (.ref h.1.1 :: st) ((h.1.1 + 1, h.1.2.1 + x.toNatClampNeg, mShp h.1.2.2.1 h.1.1 (a, x.toNatClampNeg), h.1.2.2.2), h.2.1, fun b j => if b = h.1.1 then 0 else h.2.2 b j) Q := by
  by_cases c : (a = 2 ∨ a = 3) ∧ 0 ≤ x ∧ x ≤ 100000 ∧ h.1.1 < 500000
  · rw [Ev_nx (L' := L) (st' := .ref h.1.1 :: st) (h' := ((h.1.1 + 1, h.1.2.1 + x.toNatClampNeg, mShp h.1.2.2.1 h.1.1 (a, x.toNatClampNeg), h.1.2.2.2), h.2.1, fun b j => if b = h.1.1 then 0 else h.2.2 b j)) (by simp only [mStep]; rw [if_pos c])]; simp only [c, true_and, and_self]
  · rw [Ev_er (by simp only [mStep]; rw [if_neg c])]; simp only [c, false_and]
theorem e_newq {k : Nat} : Ev y ((.anewarray k, a, b, v) :: is) L (.int x :: st) h Q ↔ (((a = 4 ∧ b = 6) ∨ (a = 5 ∧ b = 4)) ∧ 0 ≤ x ∧ x ≤ 100000 ∧ h.1.1 < 500000) ∧
    Ev y is L (.ref h.1.1 :: st) ((h.1.1 + 1, h.1.2.1 + x.toNatClampNeg, mShp h.1.2.2.1 h.1.1 (a, x.toNatClampNeg), h.1.2.2.2), fun b j => if b = h.1.1 then none else h.2.1 b j, h.2.2) Q := by
  by_cases c : ((a = 4 ∧ b = 6) ∨ (a = 5 ∧ b = 4)) ∧ 0 ≤ x ∧ x ≤ 100000 ∧ h.1.1 < 500000
  · rw [Ev_nx (L' := L) (st' := .ref h.1.1 :: st) (h' := ((h.1.1 + 1, h.1.2.1 + x.toNatClampNeg, mShp h.1.2.2.1 h.1.1 (a, x.toNatClampNeg), h.1.2.2.2), fun b j => if b = h.1.1 then none else h.2.1 b j, h.2.2)) (by simp only [mStep]; rw [if_pos c])]; simp only [c, true_and, and_self]
  · rw [Ev_er (by simp only [mStep]; rw [if_neg c])]; simp only [c, false_and]
theorem e_new {k : Nat} : Ev y ((.new k, a, b, 0) :: is) L st h Q ↔ h.1.1 < 500000 ∧
    Ev y is L (.ref h.1.1 :: st) ((h.1.1 + 1, h.1.2.1 + b, mShp h.1.2.2.1 h.1.1 (1, a), h.1.2.2.2), fun b j => if b = h.1.1 then none else h.2.1 b j, fun b j => if b = h.1.1 then 0 else h.2.2 b j) Q := by
  by_cases c : h.1.1 < 500000
  · rw [Ev_nx (L' := L) (st' := .ref h.1.1 :: st) (h' := ((h.1.1 + 1, h.1.2.1 + b, mShp h.1.2.2.1 h.1.1 (1, a), h.1.2.2.2), fun b j => if b = h.1.1 then none else h.2.1 b j, fun b j => if b = h.1.1 then 0 else h.2.2 b j)) (by simp [mStep, c])]; simp only [c, true_and]
  · rw [Ev_er (by simp [mStep, c])]; simp [c]
theorem e_oinit {k : Nat} : Ev y ((.invokespecial k, a, b, 0) :: is) L (.ref o :: st) h Q ↔ (st.length ≤ 4 ∧ o < 1000000) ∧ Ev y is L st h Q := by
  by_cases c : st.length ≤ 4 ∧ o < 1000000
  · rw [Ev_nx (L' := L) (st' := st) (h' := h) (by simp only [mStep]; rw [if_pos trivial, if_pos c])]; simp only [c, true_and, and_self]
  · rw [Ev_er (by simp only [mStep]; rw [if_pos trivial, if_neg c])]; simp only [c, false_and]
theorem e_ctor {k : Nat} : Ev y ((.invokespecial k, a, b, 1) :: is) L st h Q ↔ ∃ o as, (st.take b).reverse = .ref o :: as ∧ ((b ≤ st.length ∧ st.length ≤ b + 4 ∧ (st.take b).all m1 = true) ∧ o < 1000000) ∧ EvM a (.ref o :: as) h (fun v h' => Ev y is L (v.toList ++ st.drop b) h' Q) := by
  constructor
  · intro z
    by_cases c : b ≤ st.length ∧ st.length ≤ b + 4 ∧ (st.take b).all m1 = true
    · by_cases hs : ∃ o as, (st.take b).reverse = .ref o :: as
      · obtain ⟨o, as, hs⟩ := hs
        by_cases d : o < 1000000
        · rw [Ev_cl (z := a) (as := .ref o :: as) (st' := st.drop b) (by simp only [mStep]; rw [if_neg (by decide), if_pos ⟨trivial, c⟩, hs]; dsimp only; rw [if_pos d])] at z
          exact ⟨o, as, hs, ⟨c, d⟩, z⟩
        · rw [Ev_er (by simp only [mStep]; rw [if_neg (by decide), if_pos ⟨trivial, c⟩, hs]; dsimp only; rw [if_neg d])] at z
          exact z.elim
      · rw [Ev_er] at z
        · exact z.elim
        · simp only [mStep]
          rw [if_neg (by decide), if_pos ⟨trivial, c⟩]
          split
          · rename_i o as e; exact absurd ⟨o, as, e⟩ hs
          · rfl
    · rw [Ev_er (by simp only [mStep]; rw [if_neg (by decide), if_neg (fun z => c z.2)])] at z
      exact z.elim
  · rintro ⟨o, as, hs, ⟨c, d⟩, z⟩
    rw [Ev_cl (z := a) (as := .ref o :: as) (st' := st.drop b) (by simp only [mStep]; rw [if_neg (by decide), if_pos ⟨trivial, c⟩, hs]; dsimp only; rw [if_pos d])]
    exact z
theorem e_virt {k : Nat} : Ev y ((.invokevirtual k, a, b, 0) :: is) L st h Q ↔ ∃ o as, (st.take b).reverse = .ref o :: as ∧ ((b ≤ st.length ∧ st.length ≤ b + 4 ∧ (st.take b).all m1 = true) ∧ ((mRc a = 10 ∧ mStr o = true) ∨ (h.1.2.2.1 o = (1, mRc a) ∧ mRc a < 8))) ∧ EvM a (.ref o :: as) h (fun v h' => Ev y is L (v.toList ++ st.drop b) h' Q) := by
  constructor
  · intro z
    by_cases c : b ≤ st.length ∧ st.length ≤ b + 4 ∧ (st.take b).all m1 = true
    · by_cases hs : ∃ o as, (st.take b).reverse = .ref o :: as
      · obtain ⟨o, as, hs⟩ := hs
        by_cases d : (mRc a = 10 ∧ mStr o = true) ∨ (h.1.2.2.1 o = (1, mRc a) ∧ mRc a < 8)
        · rw [Ev_cl (z := a) (as := .ref o :: as) (st' := st.drop b) (by simp only [mStep]; rw [if_pos ⟨trivial, c⟩, hs]; dsimp only; rw [if_pos d])] at z
          exact ⟨o, as, hs, ⟨c, d⟩, z⟩
        · rw [Ev_er (by simp only [mStep]; rw [if_pos ⟨trivial, c⟩, hs]; dsimp only; rw [if_neg d])] at z
          exact z.elim
      · rw [Ev_er] at z
        · exact z.elim
        · simp only [mStep]
          rw [if_pos ⟨trivial, c⟩]
          split
          · rename_i o as e; exact absurd ⟨o, as, e⟩ hs
          · rfl
    · rw [Ev_er (by simp only [mStep]; rw [if_neg (fun z => c z.2)])] at z
      exact z.elim
  · rintro ⟨o, as, hs, ⟨c, d⟩, z⟩
    rw [Ev_cl (z := a) (as := .ref o :: as) (st' := st.drop b) (by simp only [mStep]; rw [if_pos ⟨trivial, c⟩, hs]; dsimp only; rw [if_pos d])]
    exact z
theorem e_stat {k : Nat} : Ev y ((.invokestatic k, a, b, 0) :: is) L st h Q ↔ (b ≤ st.length ∧ st.length ≤ b + 4 ∧ (st.take b).all m1 = true) ∧ EvM a (st.take b).reverse h (fun v h' => Ev y is L (v.toList ++ st.drop b) h' Q) := by
  by_cases c : b ≤ st.length ∧ st.length ≤ b + 4 ∧ (st.take b).all m1 = true
  · rw [Ev_cl (z := a) (as := (st.take b).reverse) (st' := st.drop b) (by simp only [mStep, if_true]; rw [if_pos c])]; simp only [c, true_and, and_self]
  · rw [Ev_er (by simp only [mStep, if_true]; rw [if_neg c])]; simp only [c, false_and]
theorem e_min {k : Nat} : Ev y ((.invokestatic k, a, b, 1) :: is) L (.int q :: .int p :: st) h Q ↔ st.length ≤ 4 ∧ Ev y is L (.int (if q < p then q else p) :: st) h Q := by
  by_cases c : st.length ≤ 4
  · rw [Ev_nx (L' := L) (st' := .int (if q < p then q else p) :: st) (h' := h) (by simp [mStep, c])]; simp only [c, true_and]
  · rw [Ev_er (by simp [mStep, c])]; simp only [c, false_and]
theorem e_copy {k : Nat} {n dp sp : Int32} : Ev y ((.invokestatic k, a, b, 2) :: is) L (.int n :: .int dp :: .ref r :: .int sp :: .ref o :: st) h Q ↔
    (0 ≤ sp ∧ 0 ≤ dp ∧ 0 ≤ n ∧ (h.1.2.2.1 o).1 = 2 ∧ (h.1.2.2.1 r).1 = 2 ∧ sp.toNatClampNeg + n.toNatClampNeg ≤ (h.1.2.2.1 o).2 ∧ dp.toNatClampNeg + n.toNatClampNeg ≤ (h.1.2.2.1 r).2 ∧ st.length ≤ 4) ∧
    Ev y is L st (h.1, h.2.1, mCpy h.2.2 o sp.toNatClampNeg r dp.toNatClampNeg n.toNatClampNeg) Q := by
  by_cases c : 0 ≤ sp ∧ 0 ≤ dp ∧ 0 ≤ n ∧ (h.1.2.2.1 o).1 = 2 ∧ (h.1.2.2.1 r).1 = 2 ∧ sp.toNatClampNeg + n.toNatClampNeg ≤ (h.1.2.2.1 o).2 ∧ dp.toNatClampNeg + n.toNatClampNeg ≤ (h.1.2.2.1 r).2 ∧ st.length ≤ 4
  · rw [Ev_nx (L' := L) (st' := st) (h' := (h.1, h.2.1, mCpy h.2.2 o sp.toNatClampNeg r dp.toNatClampNeg n.toNatClampNeg)) (by simp only [mStep]; rw [if_neg (by decide), if_neg (by decide), if_pos (by decide), if_pos c])]; simp only [c, true_and, and_self]
  · rw [Ev_er (by simp only [mStep]; rw [if_neg (by decide), if_neg (by decide), if_pos (by decide), if_neg c])]; simp only [c, false_and]
theorem e_ldc {k : Nat} : Ev y ((.ldc k, a, 0, v) :: is) L st h Q ↔ Ev y is L (.ref (1000000 + a) :: st) h Q := Ev_nx rfl
theorem m1_i {x : Int32} : m1 (.int x) = true := rfl
theorem m1_r {o : Nat} : m1 (.ref o) = true := rfl
end EVROWS
