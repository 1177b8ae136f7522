/-! JUMPS, RETURNS, CALLS; a body; the contracts -/
theorem mStep_jp {rc : Nat → Nat} {i : mIns} {L st L' st' : List Value} {h : mH} {t : Nat} (hs : mStep rc i L st h = .inr (.inl (t, L', st'))) (hst : ∀ v ∈ st, mIV v) : L' = L ∧ ∀ v ∈ st', mIV v := by
  obtain ⟨ins, a, b, v⟩ := i
  cases ins
  case goto => simp only [mStep] at hs; cases hs; exact ⟨rfl, hst⟩
  case nop => simp only [mStep] at hs; cases hs; exact ⟨rfl, hst⟩
  case ifCond =>
    simp only [mStep] at hs
    split at hs
    · split at hs <;> cases hs
      exact ⟨rfl, iv_t hst⟩
    · cases hs
  case if_icmp =>
    simp only [mStep] at hs
    split at hs
    · split at hs <;> cases hs
      exact ⟨rfl, iv_t (iv_t hst)⟩
    · cases hs
  case tableswitch => simp only [mStep] at hs; split at hs <;> cases hs; exact ⟨rfl, iv_t hst⟩
  all_goals (simp only [mStep] at hs; (repeat' split at hs) <;> cases hs)
theorem mStep_rt {rc : Nat → Nat} {i : mIns} {L st : List Value} {h h' : mH} {v : Option Value} (hs : mStep rc i L st h = .inr (.inr (.inl (v, h')))) : h' = h ∧ ((v = none ∧ i.1 = .return_ ∧ st = []) ∨ (∃ x, v = some (.int x) ∧ i.1 = .ireturn ∧ st = [.int x] ∧ mNar i.2.2.2 x = true) ∨ ∃ x, v = some (.long x) ∧ i.1 = .lreturn ∧ st = [.long x]) := by
  obtain ⟨ins, a, b, w⟩ := i
  cases ins
  case ireturn =>
    simp only [mStep] at hs
    split at hs
    · split at hs <;> cases hs
      rename_i x hn
      exact ⟨rfl, Or.inr (Or.inl ⟨x, rfl, rfl, rfl, hn⟩)⟩
    · cases hs
  case lreturn => simp only [mStep] at hs; split at hs <;> cases hs; exact ⟨rfl, Or.inr (Or.inr ⟨_, rfl, rfl, rfl⟩)⟩
  case return_ => simp only [mStep] at hs; split at hs <;> cases hs; exact ⟨rfl, Or.inl ⟨rfl, rfl, rfl⟩⟩
  all_goals (simp only [mStep] at hs; (repeat' split at hs) <;> cases hs)
theorem tk_mem {st : List Value} {b : Nat} (hst : ∀ v ∈ st, mIV v) : ∀ v ∈ st.drop b, mIV v := fun v hv => hst v (List.mem_of_mem_drop hv)
theorem tk_m1 {st : List Value} {b : Nat} (h : (st.take b).all m1 = true) : ∀ v ∈ (st.take b).reverse, mIR v := fun v hv => m1_IR (List.all_eq_true.mp h v (List.mem_reverse.mp hv))
/-- what a call is -/
theorem mStep_cl {rc : Nat → Nat} {i : mIns} {L st as st' : List Value} {h : mH} {z : Nat} (hs : mStep rc i L st h = .inr (.inr (.inr (some (z, as, st'))))) :
    z = i.2.1 ∧ as = (st.take i.2.2.1).reverse ∧ st' = st.drop i.2.2.1 ∧ i.2.2.1 ≤ st.length ∧ st'.length ≤ 4 ∧ (st.take i.2.2.1).all m1 = true ∧
    ((∃ k o as', i.1 = .invokespecial k ∧ ¬ i.2.2.2 = 0 ∧ as = .ref o :: as' ∧ o < 1000000) ∨ (∃ k o as', i.1 = .invokevirtual k ∧ i.2.2.2 = 0 ∧ as = .ref o :: as' ∧ ((rc z = 10 ∧ mStr o = true) ∨ (h.1.2.2.1 o = (1, rc z) ∧ rc z < 8))) ∨ (∃ k, i.1 = .invokestatic k ∧ i.2.2.2 = 0)) := by
  obtain ⟨ins, a, b, w⟩ := i
  cases ins
  case invokespecial k =>
    simp only [mStep] at hs
    split at hs
    · split at hs
      · split at hs <;> cases hs
      · cases hs
    · rename_i hw
      split at hs
      · rename_i hc
        split at hs
        · rename_i o as' he
          split at hs <;> cases hs
          rename_i hd
          exact ⟨rfl, he.symm, rfl, hc.2.1, by rw [List.length_drop]; have := hc.2.2.1; omega, hc.2.2.2, Or.inl ⟨k, o, as', rfl, hw, rfl, hd⟩⟩
        · cases hs
      · cases hs
  case invokevirtual k =>
    simp only [mStep] at hs
    split at hs
    · rename_i hc
      split at hs
      · rename_i o as' he
        split at hs <;> cases hs
        rename_i hd
        exact ⟨rfl, he.symm, rfl, hc.2.1, by rw [List.length_drop]; have := hc.2.2.1; omega, hc.2.2.2, Or.inr (Or.inl ⟨k, o, as', rfl, hc.1, rfl, hd⟩)⟩
      · cases hs
    · cases hs
  case invokestatic k =>
    simp only [mStep] at hs
    split at hs
    · rename_i hw
      split at hs <;> cases hs
      rename_i hc
      exact ⟨rfl, rfl, rfl, hc.1, by rw [List.length_drop]; have := hc.2.1; omega, hc.2.2, Or.inr (Or.inr ⟨k, rfl, hw⟩)⟩
    · split at hs
      · split at hs
        · split at hs <;> cases hs
        · cases hs
      · split at hs
        · split at hs
          · split at hs <;> cases hs
          · cases hs
        · cases hs
  all_goals (simp only [mStep] at hs; (repeat' split at hs) <;> cases hs)
/-- a run keeps the cells in order, makes none less, and answers nothing or an int -/
theorem mR_inv {G : mG} : ∀ (f y : Nat) (is : List mIns) (L st : List Value) (h : mH) (r : Option Value × mH), mR f y is L st h = some r → mOK G h → (∀ v ∈ st, mIV v) → mOK G r.2 ∧ h.1.1 ≤ r.2.1.1 ∧ h.1.2.1 ≤ r.2.1.2.1 ∧ (r.1 = none ∨ (∃ x, r.1 = some (.int x)) ∨ ∃ x, r.1 = some (.long x)) := by
  intro f
  induction f with
  | zero => intro y is L st h r hr; cases hr
  | succ f ih =>
    intro y is L st h r hr ok hst
    cases is with
    | nil => rw [mR_nil] at hr; cases hr
    | cons i is =>
      rw [mR_succ] at hr
      generalize hw : mStep mRc i L st h = w at hr
      rcases w with ⟨L', st', h'⟩ | ⟨t, L', st'⟩ | ⟨v, h'⟩ | (_ | ⟨z, as, st'⟩)
      · obtain ⟨⟨o1, o2, o3⟩, o4⟩ := mStep_inv hw ok hst
        obtain ⟨a1, a2, a3, a4⟩ := ih _ _ _ _ _ _ hr o1 o4
        exact ⟨a1, Nat.le_trans o2 a2, Nat.le_trans o3 a3, a4⟩
      · exact ih _ _ _ _ _ _ hr ok (mStep_jp hw hst).2
      · cases hr
        obtain ⟨rfl, e⟩ := mStep_rt hw
        exact ⟨ok, Nat.le_refl _, Nat.le_refl _, e.elim (fun q => Or.inl q.1) (fun e => e.elim (fun ⟨x, q, _⟩ => Or.inr (Or.inl ⟨x, q⟩)) (fun ⟨x, q, _⟩ => Or.inr (Or.inr ⟨x, q⟩)))⟩
      · cases hr
      · dsimp only at hr
        obtain ⟨e1, e2, e3, e4, e5, -⟩ := mStep_cl hw
        cases hc : mR f z (mB z 0) (as ++ List.replicate (mN z - as.length) .null) [] h with
        | none => rw [hc] at hr; cases hr
        | some q =>
          rw [hc] at hr
          dsimp only at hr
          obtain ⟨a1, a2, a3, a4⟩ := ih _ _ _ _ _ _ hc ok (fun v hv => by cases hv)
          have hst' : ∀ v ∈ q.1.toList ++ st', mIV v := by
            intro v hv
            rcases List.mem_append.mp hv with w | w
            · rcases a4 with e | ⟨x, e⟩ | ⟨x, e⟩ <;> rw [e] at w
              · cases w
              · rw [Option.toList_some, List.mem_singleton] at w; rw [w]; exact jv_i
              · rw [Option.toList_some, List.mem_singleton] at w; rw [w]; exact jv_l
            · rw [e3] at w; exact tk_mem hst v w
          obtain ⟨b1, b2, b3, b4⟩ := ih _ _ _ _ _ _ hr a1 hst'
          exact ⟨b1, Nat.le_trans a2 b2, Nat.le_trans a3 b3, b4⟩
/-- the end of a method: its answer, its cells -/
def gQ (G : mG) (r : Option Value × mH) : Array Value → State → Outcome → State → Prop := fun _ st oc t => oc = .returned (r.1.map (gV G)) ∧ va_P (gD G) vwCl (gW G r.2) t.heap ∧ va_D (gAt G) (gW G r.2) ∧ st.heap.size ≤ t.heap.size ∧ ∀ q : Nat, q < st.heap.size → ¬ gAt G q → t.heap[q]? = st.heap[q]?
def gMet (l : Launch) (G : mG) (z : Nat) : Prop := ∀ (f : Nat) (as : List Value) (h : mH) (r : Option Value × mH), mR f z (mB z 0) (as ++ List.replicate (mN z - as.length) .null) [] h = some r → as.length = mAn z → mOK G h → (∀ v ∈ as, mIR v) →
  Met l (mY z) (.code (mY z) (mC z) (mN z) (mT z) :: aw) { frames := mRk z, cells := r.2.1.1 - h.1.1, slots := r.2.1.2.1 - h.1.2.1, locals := mLo z } (va_Pc (as.map (gV G)) (gPic G h)) (gQ G r) (r.2.1.1 - h.1.1) (r.2.1.2.1 - h.1.2.1) (gAt G)
section CL
variable {p : Program} {l : Launch} {e : Env} {R : Room} {s : State} {m : MethodId} {args : Array Value} {below : List Frame} {meth : Method} {c : Code} {Q : State → Prop}
theorem m_after {G : mG} {q : Option Value × mH} {H : Heap} {locs : List Loc} {cells slots mc ms pc : Nat} {ls : Array Slot} {st0 rest : List Value} {aa : Array Value} (hr : va_Run p l e R s m args below meth c H locs cells slots mc ms (F0 m pc ls st0) rest (gQ G q aa) (gAt G)) (hS : va_S (gAt G) s.heap H locs) (ok : mOK G q.2)
    (kk : ∀ (H1 : Heap) (locs1 : List Loc), gHp G q.2 s H1 locs1 → W p l e R s m args below meth c H1 locs1 (cells + mc) (slots + ms) Q (F0 m (pc + 3) ls ((q.1.map (gV G)).toList ++ rest))) : W p l e R s m args below meth c H locs cells slots Q (F0 m pc ls st0) := by
  intro T hT X
  obtain ⟨v, st₀, t, T', L, h0, X', hL, e1, e2, ⟨hv, hP, hD, hz, hk⟩, st⟩ := hr T hT X
  cases hv
  rw [h0] at hz hk
  have hS1 : va_S (gAt G) s.heap T'.heap (locs ++ L) := by
    refine ⟨?_, fun q h1 h2 => ?_, fun q hq => ?_⟩
    · rw [e1]; exact Nat.le_trans hS.1 hz
    · rw [e1, hk q (Nat.lt_of_lt_of_le h1 hS.1) h2]; exact hS.2.1 q h1 h2
    · rcases List.mem_append.mp hq with w | w
      · exact hS.2.2 q w
      · exact hL q w
  obtain ⟨t2, a1, b1⟩ := kk T'.heap (locs ++ L) ⟨by rw [e1]; exact hP, hD, hS1, ok⟩ T' rfl X'
  exact ⟨t2, st t2 a1, b1⟩
end CL
