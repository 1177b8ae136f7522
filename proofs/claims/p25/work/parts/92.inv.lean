/-! what a run keeps -/
theorem iv_same {G : mG} {h : mH} (ok : mOK G h) : mOK G h ∧ h.1.1 ≤ h.1.1 ∧ h.1.2.1 ≤ h.1.2.1 := ⟨ok, Nat.le_refl _, Nat.le_refl _⟩
theorem iv_c1 {v : Value} {st : List Value} (hv : mIV v) (h : ∀ v ∈ st, mIV v) : ∀ w ∈ v :: st, mIV w := List.forall_mem_cons.mpr ⟨hv, h⟩
theorem iv_i {x : Int32} : mIR (.int x) := Or.inl ⟨x, rfl⟩
theorem iv_r {x : Nat} : mIR (.ref x) := Or.inr ⟨x, rfl⟩
theorem iv_t {v : Value} {st : List Value} (h : ∀ w ∈ v :: st, mIV w) : ∀ w ∈ st, mIV w := (List.forall_mem_cons.mp h).2
theorem jv_i {x : Int32} : mIV (.int x) := Or.inl iv_i
theorem jv_r {x : Nat} : mIV (.ref x) := Or.inl iv_r
theorem jv_l {x : Int64} : mIV (.long x) := Or.inr ⟨x, rfl⟩
set_option maxHeartbeats 40000000 in
set_option maxRecDepth 100000 in
theorem mStep_inv {G : mG} {rc : Nat → Nat} {i : mIns} {L st L' st' : List Value} {h h' : mH} (hs : mStep rc i L st h = .inl (L', st', h')) (ok : mOK G h) (hst : ∀ v ∈ st, mIV v) : (mOK G h' ∧ h.1.1 ≤ h'.1.1 ∧ h.1.2.1 ≤ h'.1.2.1) ∧ ∀ v ∈ st', mIV v := by
  obtain ⟨ins, a, b, v⟩ := i
  cases ins
  case iconst => simp only [mStep] at hs; cases hs; exact ⟨iv_same ok, iv_c1 jv_i hst⟩
  case bipush => simp only [mStep] at hs; cases hs; exact ⟨iv_same ok, iv_c1 jv_i hst⟩
  case sipush => simp only [mStep] at hs; cases hs; exact ⟨iv_same ok, iv_c1 jv_i hst⟩
  case iload_n => simp only [mStep] at hs; split at hs <;> cases hs; exact ⟨iv_same ok, iv_c1 jv_i hst⟩
  case iload => simp only [mStep] at hs; split at hs <;> cases hs; exact ⟨iv_same ok, iv_c1 jv_i hst⟩
  case aload_n => simp only [mStep] at hs; split at hs <;> cases hs; exact ⟨iv_same ok, iv_c1 jv_r hst⟩
  case aload => simp only [mStep] at hs; split at hs <;> cases hs; exact ⟨iv_same ok, iv_c1 jv_r hst⟩
  case istore_n => simp only [mStep] at hs; split at hs <;> cases hs; exact ⟨iv_same ok, iv_t hst⟩
  case istore => simp only [mStep] at hs; split at hs <;> cases hs; exact ⟨iv_same ok, iv_t hst⟩
  case astore_n => simp only [mStep] at hs; split at hs <;> cases hs; exact ⟨iv_same ok, iv_t hst⟩
  case astore => simp only [mStep] at hs; split at hs <;> cases hs; exact ⟨iv_same ok, iv_t hst⟩
  case iinc => simp only [mStep] at hs; split at hs <;> cases hs; exact ⟨iv_same ok, hst⟩
  case iadd => simp only [mStep] at hs; split at hs <;> cases hs; exact ⟨iv_same ok, iv_c1 jv_i (iv_t (iv_t hst))⟩
  case isub => simp only [mStep] at hs; split at hs <;> cases hs; exact ⟨iv_same ok, iv_c1 jv_i (iv_t (iv_t hst))⟩
  case imul => simp only [mStep] at hs; split at hs <;> cases hs; exact ⟨iv_same ok, iv_c1 jv_i (iv_t (iv_t hst))⟩
  case iand => simp only [mStep] at hs; split at hs <;> cases hs; exact ⟨iv_same ok, iv_c1 jv_i (iv_t (iv_t hst))⟩
  case ishr => simp only [mStep] at hs; split at hs <;> cases hs; exact ⟨iv_same ok, iv_c1 jv_i (iv_t (iv_t hst))⟩
  case idiv =>
    simp only [mStep] at hs
    split at hs
    · split at hs <;> cases hs
      exact ⟨iv_same ok, iv_c1 jv_i (iv_t (iv_t hst))⟩
    · cases hs
  case irem =>
    simp only [mStep] at hs
    split at hs
    · split at hs <;> cases hs
      exact ⟨iv_same ok, iv_c1 jv_i (iv_t (iv_t hst))⟩
    · cases hs
  case i2l => simp only [mStep] at hs; split at hs <;> cases hs; exact ⟨iv_same ok, iv_c1 jv_l (iv_t hst)⟩
  case ladd => simp only [mStep] at hs; split at hs <;> cases hs; exact ⟨iv_same ok, iv_c1 jv_l (iv_t (iv_t hst))⟩
  case lmul => simp only [mStep] at hs; split at hs <;> cases hs; exact ⟨iv_same ok, iv_c1 jv_l (iv_t (iv_t hst))⟩
  case lcmp => simp only [mStep] at hs; split at hs <;> cases hs; exact ⟨iv_same ok, iv_c1 jv_i (iv_t (iv_t hst))⟩
  case lload_n => simp only [mStep] at hs; split at hs <;> cases hs; exact ⟨iv_same ok, iv_c1 jv_l hst⟩
  case lload => simp only [mStep] at hs; split at hs <;> cases hs; exact ⟨iv_same ok, iv_c1 jv_l hst⟩
  case lstore_n => simp only [mStep] at hs; split at hs <;> cases hs; exact ⟨iv_same ok, iv_t hst⟩
  case lstore => simp only [mStep] at hs; split at hs <;> cases hs; exact ⟨iv_same ok, iv_t hst⟩
  case ldc2_w => simp only [mStep] at hs; cases hs; exact ⟨iv_same ok, iv_c1 jv_l hst⟩
  case lreturn => simp only [mStep] at hs; split at hs <;> cases hs
  case i2c => simp only [mStep] at hs; split at hs <;> cases hs; exact ⟨iv_same ok, iv_c1 jv_i (iv_t hst)⟩
  case dup =>
    simp only [mStep] at hs
    split at hs
    · cases hs; exact ⟨iv_same ok, iv_c1 jv_i hst⟩
    · cases hs; exact ⟨iv_same ok, iv_c1 jv_r hst⟩
    · cases hs
  case dup2 => simp only [mStep] at hs; split at hs <;> cases hs; exact ⟨iv_same ok, iv_c1 jv_i (iv_c1 jv_r hst)⟩
  case pop => simp only [mStep] at hs; split at hs <;> cases hs; exact ⟨iv_same ok, iv_t hst⟩
  case goto => simp only [mStep] at hs; cases hs
  case nop => simp only [mStep] at hs; cases hs
  case ifCond =>
    simp only [mStep] at hs
    split at hs
    · split at hs <;> cases hs
      exact ⟨iv_same ok, iv_t hst⟩
    · cases hs
  case if_icmp =>
    simp only [mStep] at hs
    split at hs
    · split at hs <;> cases hs
      exact ⟨iv_same ok, iv_t (iv_t hst)⟩
    · cases hs
  case tableswitch => simp only [mStep] at hs; split at hs <;> cases hs
  case ireturn =>
    simp only [mStep] at hs
    split at hs
    · split at hs <;> cases hs
    · cases hs
  case return_ => simp only [mStep] at hs; split at hs <;> cases hs
  case getfield =>
    simp only [mStep] at hs
    split at hs
    · split at hs
      · split at hs <;> cases hs
        exact ⟨iv_same ok, iv_c1 jv_r (iv_t hst)⟩
      · split at hs
        · split at hs <;> cases hs
          exact ⟨iv_same ok, iv_c1 jv_i (iv_t hst)⟩
        · split at hs
          · split at hs
            · split at hs <;> cases hs
              exact ⟨iv_same ok, iv_c1 jv_r (iv_t hst)⟩
            · cases hs; exact ⟨iv_same ok, iv_c1 jv_i (iv_t hst)⟩
          · cases hs
    · cases hs
  case putfield =>
    simp only [mStep] at hs
    split at hs
    · split at hs <;> cases hs
      exact ⟨iv_same (h := (h.1, h.2.1, mSet h.2.2 _ b _)) ok, iv_t (iv_t hst)⟩
    · split at hs
      · rename_i q o st hc
        cases hs
        refine ⟨⟨⟨ok.1, ok.2.1, fun k j r hr => ?_, ok.2.2.2⟩, Nat.le_refl _, Nat.le_refl _⟩, iv_t (iv_t hst)⟩
        simp only [mSetR] at hr
        split at hr
        · cases hr; exact hc.2.2
        · exact ok.2.2.1 k j r hr
      · cases hs
    · cases hs
  case getstatic =>
    simp only [mStep] at hs
    split at hs
    · cases hs; exact ⟨iv_same ok, iv_c1 jv_i hst⟩
    · split at hs <;> cases hs
      exact ⟨iv_same ok, iv_c1 jv_r hst⟩
  case iaload =>
    simp only [mStep] at hs
    split at hs
    · split at hs
      · split at hs <;> cases hs
        exact ⟨iv_same ok, iv_c1 jv_i (iv_t (iv_t hst))⟩
      · split at hs <;> cases hs
        exact ⟨iv_same ok, iv_c1 jv_i (iv_t (iv_t hst))⟩
    · cases hs
  case caload =>
    simp only [mStep] at hs
    split at hs
    · split at hs <;> cases hs
      exact ⟨iv_same ok, iv_c1 jv_i (iv_t (iv_t hst))⟩
    · cases hs
  case baload =>
    simp only [mStep] at hs
    split at hs
    · split at hs <;> cases hs
      exact ⟨iv_same ok, iv_c1 jv_i (iv_t (iv_t hst))⟩
    · cases hs
  case iastore =>
    simp only [mStep] at hs
    split at hs
    · split at hs <;> cases hs
      exact ⟨iv_same (h := (h.1, h.2.1, mSet h.2.2 _ _ _)) ok, iv_t (iv_t (iv_t hst))⟩
    · cases hs
  case castore =>
    simp only [mStep] at hs
    split at hs
    · split at hs <;> cases hs
      exact ⟨iv_same (h := (h.1, h.2.1, mSet h.2.2 _ _ _)) ok, iv_t (iv_t (iv_t hst))⟩
    · cases hs
  case aaload =>
    simp only [mStep] at hs
    split at hs
    · split at hs
      · split at hs <;> cases hs
        exact ⟨iv_same ok, iv_c1 jv_r (iv_t (iv_t hst))⟩
      · cases hs
    · cases hs
  case aastore =>
    simp only [mStep] at hs
    split at hs
    · split at hs
      · rename_i q i o st hc
        cases hs
        refine ⟨⟨⟨ok.1, ok.2.1, fun k j r hr => ?_, ok.2.2.2⟩, Nat.le_refl _, Nat.le_refl _⟩, iv_t (iv_t (iv_t hst))⟩
        simp only [mSetR] at hr
        split at hr
        · cases hr
          have h1 := mOK_lt ok (k := q) (by rw [hc.2.2.2]; intro z; cases z)
          have h2 := ok.1
          omega
        · exact ok.2.2.1 k j r hr
      · cases hs
    · cases hs
  case arraylength =>
    simp only [mStep] at hs
    split at hs
    · split at hs
      · split at hs <;> cases hs
        exact ⟨iv_same ok, iv_c1 jv_i (iv_t hst)⟩
      · split at hs
        · split at hs <;> cases hs
          exact ⟨iv_same ok, iv_c1 jv_i (iv_t hst)⟩
        · split at hs <;> cases hs
          exact ⟨iv_same ok, iv_c1 jv_i (iv_t hst)⟩
    · cases hs
  case newarray =>
    simp only [mStep] at hs
    split at hs
    · split at hs
      · rename_i n st hc
        cases hs
        refine ⟨⟨⟨hc.2.2.2, fun k hk => ?_, ok.2.2.1, ok.2.2.2⟩, Nat.le_succ _, Nat.le_add_right _ _⟩, iv_c1 jv_r (iv_t hst)⟩
        show mShp h.1.2.2.1 h.1.1 _ k = _
        have hk : h.1.1 + 1 ≤ k := hk
        rw [mShp, if_neg (by omega)]
        exact ok.2.1 k (by omega)
      · cases hs
    · cases hs
  case anewarray =>
    simp only [mStep] at hs
    split at hs
    · split at hs
      · rename_i n st hc
        cases hs
        refine ⟨⟨⟨hc.2.2.2, fun k hk => ?_, fun k j r hr => ?_, ok.2.2.2⟩, Nat.le_succ _, Nat.le_add_right _ _⟩, iv_c1 jv_r (iv_t hst)⟩
        · show mShp h.1.2.2.1 h.1.1 _ k = _
          have hk : h.1.1 + 1 ≤ k := hk
          rw [mShp, if_neg (by omega)]
          exact ok.2.1 k (by omega)
        · dsimp only at hr
          split at hr
          · cases hr
          · exact ok.2.2.1 k j r hr
      · cases hs
    · cases hs
  case new =>
    simp only [mStep] at hs
    split at hs
    · rename_i hc
      cases hs
      refine ⟨⟨⟨hc.2, fun k hk => ?_, fun k j r hr => ?_, ok.2.2.2⟩, Nat.le_succ _, Nat.le_add_right _ _⟩, iv_c1 jv_r hst⟩
      · show mShp h.1.2.2.1 h.1.1 _ k = _
        have hk : h.1.1 + 1 ≤ k := hk
        rw [mShp, if_neg (by omega)]
        exact ok.2.1 k (by omega)
      · dsimp only at hr
        split at hr
        · cases hr
        · exact ok.2.2.1 k j r hr
    · cases hs
  case invokespecial =>
    simp only [mStep] at hs
    split at hs
    · split at hs
      · split at hs <;> cases hs
        exact ⟨iv_same ok, iv_t hst⟩
      · cases hs
    · split at hs
      · split at hs
        · split at hs <;> cases hs
        · cases hs
      · cases hs
  case invokevirtual =>
    simp only [mStep] at hs
    split at hs
    · split at hs
      · split at hs <;> cases hs
      · cases hs
    · cases hs
  case invokestatic =>
    simp only [mStep] at hs
    split at hs
    · split at hs <;> cases hs
    · split at hs
      · split at hs
        · split at hs <;> cases hs
          exact ⟨iv_same ok, iv_c1 jv_i (iv_t (iv_t hst))⟩
        · cases hs
      · split at hs
        · split at hs
          · split at hs <;> cases hs
            exact ⟨iv_same (h := (h.1, h.2.1, mCpy h.2.2 _ _ _ _ _)) ok, iv_t (iv_t (iv_t (iv_t (iv_t hst))))⟩
          · cases hs
        · cases hs
  case ldc =>
    simp only [mStep] at hs
    split at hs
    · cases hs; exact ⟨iv_same ok, iv_c1 jv_i hst⟩
    · cases hs; exact ⟨iv_same ok, iv_c1 jv_r hst⟩
  all_goals (simp only [mStep] at hs; cases hs)
