/-! THE GHOST MACHINE, run: Eg, EgM -/
/-- instructions that leave the heap alone -/
def gOkI (i : mIns) : Bool := match i with
  | (.iconst _, _) => true
  | (.bipush _, _) => true
  | (.sipush _, _) => true
  | (.iload_n _, _) => true
  | (.iload _, _) => true
  | (.aload_n _, _) => true
  | (.aload _, _) => true
  | (.istore_n _, _) => true
  | (.istore _, _) => true
  | (.iinc _ _, _) => true
  | (.iadd, _) => true
  | (.isub, _) => true
  | (.imul, _) => true
  | (.idiv, _) => true
  | (.irem, _) => true
  | (.iand, _) => true
  | (.ishr, _) => true
  | (.i2c, _) => true
  | (.i2l, _) => true
  | (.ladd, _) => true
  | (.lmul, _) => true
  | (.lcmp, _) => true
  | (.lload_n _, _) => true
  | (.lload _, _) => true
  | (.lstore_n _, _) => true
  | (.lstore _, _) => true
  | (.ldc2_w _, _) => true
  | (.goto _, _) => true
  | (.nop, _) => true
  | (.ifCond _ _, _) => true
  | (.if_icmp _ _, _) => true
  | (.ireturn, _) => true
  | (.lreturn, _) => true
  | (.return_, _) => true
  | (.pop, _) => true
  | (.invokevirtual _, _) => true
  | (.ldc _, _, b, _) => decide (b = 1)
  | (.invokestatic _, _, _, v) => decide (v = 0)
  | (.iaload, _, _, v) => decide (v = 1)
  | (.arraylength, _, _, v) => decide (v = 1)
  | _ => false
def h0 (K : mK) : mH := (K, fun _ _ => none, fun _ _ => 0)
section GOK
variable {K : mK} {R : Nat → Nat → Option Nat} {I : Nat → Nat → Int32} {i : mIns} {L st L' st' : List Value} {h' : mH}
set_option maxHeartbeats 4000000 in
theorem gOk_nx (hg : gOkI i = true) (hs : mStep mRc i L st (h0 K) = .inl (L', st', h')) : mStep mRc i L st (K, R, I) = .inl (L', st', (K, R, I)) := by
  obtain ⟨ins, a, b, v⟩ := i
  cases ins
  case iconst => simp only [mStep] at hs ⊢; cases hs; rfl
  case bipush => simp only [mStep] at hs ⊢; cases hs; rfl
  case sipush => simp only [mStep] at hs ⊢; cases hs; rfl
  case ldc2_w => simp only [mStep] at hs ⊢; cases hs; rfl
  case iload_n => simp only [mStep] at hs ⊢; split at hs <;> cases hs; rename_i hv; simp only [hv]
  case iload => simp only [mStep] at hs ⊢; split at hs <;> cases hs; rename_i hv; simp only [hv]
  case aload_n => simp only [mStep] at hs ⊢; split at hs <;> cases hs; rename_i hv; simp only [hv]
  case aload => simp only [mStep] at hs ⊢; split at hs <;> cases hs; rename_i hv; simp only [hv]
  case iinc => simp only [mStep] at hs ⊢; split at hs <;> cases hs; rename_i hv; simp only [hv]
  case lload_n => simp only [mStep] at hs ⊢; split at hs <;> cases hs; rename_i hv hn; simp only [hv, hn]
  case lload => simp only [mStep] at hs ⊢; split at hs <;> cases hs; rename_i hv hn; simp only [hv, hn]
  case istore_n => simp only [mStep] at hs ⊢; split at hs <;> cases hs; rfl
  case istore => simp only [mStep] at hs ⊢; split at hs <;> cases hs; rfl
  case iadd => simp only [mStep] at hs ⊢; split at hs <;> cases hs; rfl
  case isub => simp only [mStep] at hs ⊢; split at hs <;> cases hs; rfl
  case imul => simp only [mStep] at hs ⊢; split at hs <;> cases hs; rfl
  case iand => simp only [mStep] at hs ⊢; split at hs <;> cases hs; rfl
  case ishr => simp only [mStep] at hs ⊢; split at hs <;> cases hs; rfl
  case i2c => simp only [mStep] at hs ⊢; split at hs <;> cases hs; rfl
  case i2l => simp only [mStep] at hs ⊢; split at hs <;> cases hs; rfl
  case ladd => simp only [mStep] at hs ⊢; split at hs <;> cases hs; rfl
  case lmul => simp only [mStep] at hs ⊢; split at hs <;> cases hs; rfl
  case lcmp => simp only [mStep] at hs ⊢; split at hs <;> cases hs; rfl
  case lstore_n => simp only [mStep] at hs ⊢; split at hs <;> cases hs; rfl
  case lstore => simp only [mStep] at hs ⊢; split at hs <;> cases hs; rfl
  case pop => simp only [mStep] at hs ⊢; split at hs <;> cases hs; rfl
  case idiv =>
    simp only [mStep] at hs ⊢
    split at hs
    · split at hs <;> cases hs
      rename_i hn
      rw [if_neg hn]
    · cases hs
  case irem =>
    simp only [mStep] at hs ⊢
    split at hs
    · split at hs <;> cases hs
      rename_i hn
      rw [if_neg hn]
    · cases hs
  case ifCond =>
    simp only [mStep] at hs ⊢
    split at hs
    · split at hs <;> cases hs
      rename_i hn
      rw [if_neg hn]
    · cases hs
  case if_icmp =>
    simp only [mStep] at hs ⊢
    split at hs
    · split at hs <;> cases hs
      rename_i hn
      rw [if_neg hn]
    · cases hs
  case ldc =>
    have hb : b = 1 := by simpa [gOkI] using hg
    simp only [mStep] at hs ⊢
    rw [if_pos hb] at hs ⊢
    cases hs; rfl
  case iaload =>
    have hb : v = 1 := by simpa [gOkI] using hg
    simp only [mStep] at hs ⊢
    split at hs
    · rw [if_pos hb] at hs ⊢
      split at hs <;> cases hs
      rename_i hc
      exact if_pos hc
    · cases hs
  case arraylength =>
    have hb : v = 1 := by simpa [gOkI] using hg
    simp only [mStep] at hs ⊢
    split at hs
    · rw [if_pos hb] at hs ⊢
      split at hs <;> cases hs
      rename_i hc
      exact if_pos hc
    · cases hs
  case invokevirtual =>
    simp only [mStep] at hs
    split at hs
    · split at hs
      · split at hs <;> cases hs
      · cases hs
    · cases hs
  case invokestatic =>
    have hb : v = 0 := by simpa [gOkI] using hg
    simp only [mStep] at hs
    rw [if_pos hb] at hs
    split at hs <;> cases hs
  case goto => simp only [mStep] at hs; cases hs
  case nop => simp only [mStep] at hs; cases hs
  case ireturn =>
    simp only [mStep] at hs
    split at hs
    · split at hs <;> cases hs
    · cases hs
  case lreturn => simp only [mStep] at hs; split at hs <;> cases hs
  case return_ => simp only [mStep] at hs; split at hs <;> cases hs
  all_goals cases hg
set_option maxHeartbeats 4000000 in
theorem gOk_jp {t : Nat} (hg : gOkI i = true) (hs : mStep mRc i L st (h0 K) = .inr (.inl (t, L', st'))) : mStep mRc i L st (K, R, I) = .inr (.inl (t, L', st')) := by
  obtain ⟨ins, a, b, v⟩ := i
  cases ins
  case goto => simp only [mStep] at hs ⊢; exact hs
  case nop => simp only [mStep] at hs ⊢; exact hs
  case ifCond =>
    simp only [mStep] at hs ⊢
    split at hs
    · split at hs <;> cases hs
      rename_i hn
      rw [if_pos hn]
    · cases hs
  case if_icmp =>
    simp only [mStep] at hs ⊢
    split at hs
    · split at hs <;> cases hs
      rename_i hn
      rw [if_pos hn]
    · cases hs
  case ldc =>
    simp only [mStep] at hs
    split at hs <;> cases hs
  all_goals first | (cases hg; done) | (simp only [mStep] at hs; (repeat' split at hs) <;> cases hs)
set_option maxHeartbeats 4000000 in
theorem gOk_rt {w : Option Value} (hg : gOkI i = true) (hs : mStep mRc i L st (h0 K) = .inr (.inr (.inl (w, h')))) : mStep mRc i L st (K, R, I) = .inr (.inr (.inl (w, (K, R, I)))) := by
  obtain ⟨ins, a, b, v⟩ := i
  cases ins
  case ireturn =>
    simp only [mStep] at hs ⊢
    split at hs
    · split at hs <;> cases hs
      rename_i hn
      rw [if_pos hn]
    · cases hs
  case lreturn => simp only [mStep] at hs ⊢; split at hs <;> cases hs; rfl
  case return_ => simp only [mStep] at hs ⊢; split at hs <;> cases hs; rfl
  all_goals first | (cases hg; done) | (simp only [mStep] at hs; (repeat' split at hs) <;> cases hs)
set_option maxHeartbeats 4000000 in
theorem gOk_cl {z : Nat} {as : List Value} (hg : gOkI i = true) (hs : mStep mRc i L st (h0 K) = .inr (.inr (.inr (some (z, as, st'))))) : mStep mRc i L st (K, R, I) = .inr (.inr (.inr (some (z, as, st')))) := by
  obtain ⟨ins, a, b, v⟩ := i
  cases ins
  case invokevirtual k =>
    simp only [mStep] at hs ⊢
    split at hs
    · rename_i hc
      rw [if_pos hc]
      split at hs
      · rename_i o as' he
        split at hs <;> cases hs
        rename_i hd
        exact if_pos hd
      · cases hs
    · cases hs
  case invokestatic k =>
    have hb : v = 0 := by simpa [gOkI] using hg
    simp only [mStep] at hs ⊢
    rw [if_pos hb] at hs ⊢
    split at hs <;> cases hs
    rename_i hc
    rw [if_pos hc]
  all_goals first | (cases hg; done) | (simp only [mStep] at hs; (repeat' split at hs) <;> cases hs)
end GOK
/-- the run over the ghost: methods from 94 on are the law's own -/
noncomputable def gR (K : mK) : Nat → Nat → List mIns → List Value → List Value → gS → Option (Option Value × gS)
  | 0, _, _, _, _, _ => none
  | f + 1, y, is, L, st, G => match is with
    | [] => none
    | i :: is => if gOkI i = true then (match mStep mRc i L st (h0 K) with
      | .inl (L', st', _) => gR K f y is L' st' G
      | .inr (.inl (t, L', st')) => gR K f y (mB y t) L' st' G
      | .inr (.inr (.inl (v, _))) => some (v, G)
      | .inr (.inr (.inr none)) => none
      | .inr (.inr (.inr (some (z, as, st')))) => if z < 94 then (match gCall z as G with
        | none => none
        | some (x, G') => gR K f y is L (.int x :: st') G')
      else match gR K f z (mB z 0) (as ++ List.replicate (mN z - as.length) .null) [] G with
        | none => none
        | some (v, G') => gR K f y is L (v.toList ++ st') G') else none
theorem gR_succ (K : mK) (f y : Nat) (i : mIns) (is : List mIns) (L st : List Value) (G : gS) : gR K (f + 1) y (i :: is) L st G = if gOkI i = true then (match mStep mRc i L st (h0 K) with
      | .inl (L', st', _) => gR K f y is L' st' G
      | .inr (.inl (t, L', st')) => gR K f y (mB y t) L' st' G
      | .inr (.inr (.inl (v, _))) => some (v, G)
      | .inr (.inr (.inr none)) => none
      | .inr (.inr (.inr (some (z, as, st')))) => if z < 94 then (match gCall z as G with
        | none => none
        | some (x, G') => gR K f y is L (.int x :: st') G')
      else match gR K f z (mB z 0) (as ++ List.replicate (mN z - as.length) .null) [] G with
        | none => none
        | some (v, G') => gR K f y is L (v.toList ++ st') G') else none := rfl
theorem gR_nil (K : mK) (f y : Nat) (L st : List Value) (G : gS) : gR K f y [] L st G = none := by cases f <;> rfl
theorem gR_mono (K : mK) : ∀ (f y : Nat) (is : List mIns) (L st : List Value) (G : gS) (r : Option Value × gS), gR K f y is L st G = some r → gR K (f + 1) y is L st G = some r := by
  intro f
  induction f with
  | zero => intro y is L st G r hr; cases hr
  | succ f ih =>
    intro y is L st G r hr
    cases is with
    | nil => rw [gR_nil] at hr; cases hr
    | cons i is =>
      rw [gR_succ] at hr ⊢
      split at hr
      · rename_i hg
        rw [if_pos hg]
        generalize mStep mRc i L st (h0 K) = w at hr ⊢
        rcases w with ⟨L', st', h'⟩ | ⟨t, L', st'⟩ | q | (_ | ⟨z, as, st'⟩)
        · exact ih _ _ _ _ _ _ hr
        · exact ih _ _ _ _ _ _ hr
        · exact hr
        · cases hr
        · dsimp only at hr ⊢
          by_cases hz : z < 94
          · rw [if_pos hz] at hr ⊢
            cases hc : gCall z as G with
            | none => rw [hc] at hr; cases hr
            | some q => rw [hc] at hr; exact ih _ _ _ _ _ _ hr
          · rw [if_neg hz] at hr ⊢
            cases hc : gR K f z (mB z 0) (as ++ List.replicate (mN z - as.length) .null) [] G with
            | none => rw [hc] at hr; cases hr
            | some q =>
              rw [hc] at hr
              rw [ih _ _ _ _ _ _ hc]
              exact ih _ _ _ _ _ _ hr
      · cases hr
theorem gR_le {K : mK} {f g y : Nat} {is : List mIns} {L st : List Value} {G : gS} {r : Option Value × gS} (hfg : f ≤ g) (hr : gR K f y is L st G = some r) : gR K g y is L st G = some r := by
  obtain ⟨d, rfl⟩ := Nat.exists_eq_add_of_le hfg
  induction d with
  | zero => exact hr
  | succ d ih => exact gR_mono _ _ _ _ _ _ _ _ (ih (Nat.le_add_right _ _))
def Eg (K : mK) (y : Nat) (is : List mIns) (L st : List Value) (G : gS) (Q : Option Value → gS → Prop) : Prop := ∃ (f : Nat) (r : Option Value × gS), gR K f y is L st G = some r ∧ Q r.1 r.2
def EgM (K : mK) (z : Nat) (as : List Value) (G : gS) (Q : Option Value → gS → Prop) : Prop := Eg K z (mB z 0) (as ++ List.replicate (mN z - as.length) .null) [] G Q
section EG
variable {K : mK} {y t z : Nat} {i : mIns} {is : List mIns} {L st L' st' as : List Value} {G : gS} {h' : mH} {Q Q' : Option Value → gS → Prop}
theorem Eg_mono (hQ : ∀ v k, Q v k → Q' v k) (hE : Eg K y is L st G Q) : Eg K y is L st G Q' := by
  obtain ⟨f, r, h1, h2⟩ := hE
  exact ⟨f, r, h1, hQ _ _ h2⟩
theorem EgM_mono (hQ : ∀ v k, Q v k → Q' v k) (hE : EgM K z as G Q) : EgM K z as G Q' := Eg_mono hQ hE
theorem Eg_nx (hg : gOkI i = true) (hs : mStep mRc i L st (h0 K) = .inl (L', st', h')) : Eg K y (i :: is) L st G Q ↔ Eg K y is L' st' G Q := by
  constructor
  · rintro ⟨f, r, h1, h2⟩
    cases f with
    | zero => cases h1
    | succ f => rw [gR_succ, if_pos hg, hs] at h1; exact ⟨f, r, h1, h2⟩
  · rintro ⟨f, r, h1, h2⟩
    exact ⟨f + 1, r, by rw [gR_succ, if_pos hg, hs]; exact h1, h2⟩
theorem Eg_jp (hg : gOkI i = true) (hs : mStep mRc i L st (h0 K) = .inr (.inl (t, L', st'))) : Eg K y (i :: is) L st G Q ↔ Eg K y (mB y t) L' st' G Q := by
  constructor
  · rintro ⟨f, r, h1, h2⟩
    cases f with
    | zero => cases h1
    | succ f => rw [gR_succ, if_pos hg, hs] at h1; exact ⟨f, r, h1, h2⟩
  · rintro ⟨f, r, h1, h2⟩
    exact ⟨f + 1, r, by rw [gR_succ, if_pos hg, hs]; exact h1, h2⟩
theorem Eg_rt {v : Option Value} (hg : gOkI i = true) (hs : mStep mRc i L st (h0 K) = .inr (.inr (.inl (v, h')))) : Eg K y (i :: is) L st G Q ↔ Q v G := by
  constructor
  · rintro ⟨f, r, h1, h2⟩
    cases f with
    | zero => cases h1
    | succ f => rw [gR_succ, if_pos hg, hs] at h1; cases h1; exact h2
  · intro h2
    exact ⟨1, (v, G), by rw [gR_succ, if_pos hg, hs], h2⟩
theorem Eg_er (hg : gOkI i = true) (hs : mStep mRc i L st (h0 K) = .inr (.inr (.inr none))) : Eg K y (i :: is) L st G Q ↔ False := by
  constructor
  · rintro ⟨f, r, h1, h2⟩
    cases f with
    | zero => cases h1
    | succ f => rw [gR_succ, if_pos hg, hs] at h1; cases h1
  · exact False.elim
theorem Eg_cc {x : Int32} {G' : gS} (hg : gOkI i = true) (hs : mStep mRc i L st (h0 K) = .inr (.inr (.inr (some (z, as, st'))))) (hz : z < 94) (hc : gCall z as G = some (x, G')) : Eg K y (i :: is) L st G Q ↔ Eg K y is L (.int x :: st') G' Q := by
  constructor
  · rintro ⟨f, r, h1, h2⟩
    cases f with
    | zero => cases h1
    | succ f =>
      rw [gR_succ, if_pos hg, hs] at h1
      dsimp only at h1
      rw [if_pos hz, hc] at h1
      exact ⟨f, r, h1, h2⟩
  · rintro ⟨f, r, h1, h2⟩
    refine ⟨f + 1, r, ?_, h2⟩
    rw [gR_succ, if_pos hg, hs]
    dsimp only
    rw [if_pos hz, hc]
    exact h1
theorem Eg_cl (hg : gOkI i = true) (hs : mStep mRc i L st (h0 K) = .inr (.inr (.inr (some (z, as, st'))))) (hz : ¬ z < 94) : Eg K y (i :: is) L st G Q ↔ EgM K z as G (fun v G' => Eg K y is L (v.toList ++ st') G' Q) := by
  constructor
  · rintro ⟨f, r, h1, h2⟩
    cases f with
    | zero => cases h1
    | succ f =>
      rw [gR_succ, if_pos hg, hs] at h1
      dsimp only at h1
      rw [if_neg hz] at h1
      cases hc : gR K f z (mB z 0) (as ++ List.replicate (mN z - as.length) .null) [] G with
      | none => rw [hc] at h1; cases h1
      | some q => rw [hc] at h1; exact ⟨f, q, hc, f, r, h1, h2⟩
  · rintro ⟨f, q, h1, g, r, h2, h3⟩
    refine ⟨max f g + 1, r, ?_, h3⟩
    rw [gR_succ, if_pos hg, hs]
    dsimp only
    rw [if_neg hz, gR_le (Nat.le_max_left f g) h1]
    exact gR_le (Nat.le_max_right f g) h2
theorem EgM_iff {G0 : gS} {v0 : Option Value} (hE : EgM K z as G (fun v k => v = v0 ∧ k = G0)) : EgM K z as G Q ↔ Q v0 G0 := by
  obtain ⟨f, r, h1, h2, h3⟩ := hE
  constructor
  · rintro ⟨g, r', g1, g2⟩
    have e1 := gR_le (Nat.le_max_left f g) h1
    have e2 := gR_le (Nat.le_max_right f g) g1
    rw [e1] at e2
    cases e2
    rw [← h2, ← h3]
    exact g2
  · intro hq
    exact ⟨f, r, h1, by rw [h2, h3]; exact hq⟩
theorem Eg_cg (hL : L' = L) (h : Eg K y is L st G Q) : Eg K y is L' st G Q := by rw [hL]; exact h
end EG
/-- a run over the ghost is a run -/
theorem gR_sound {K : mK} : ∀ (f y : Nat) (is : List mIns) (L st : List Value) (G : gS) (r : Option Value × gS), gR K f y is L st G = some r → ∀ (R : Nat → Nat → Option Nat) (I : Nat → Nat → Int32), RELG K R I G → Ev y is L st (K, R, I) (fun v h => v = r.1 ∧ ∃ R' I', h = (K, R', I') ∧ RELG K R' I' r.2) := by
  intro f
  induction f with
  | zero => intro y is L st G r hr; cases hr
  | succ f ih =>
    intro y is L st G r hr R I hrel
    cases is with
    | nil => rw [gR_nil] at hr; cases hr
    | cons i is =>
      rw [gR_succ] at hr
      split at hr
      · rename_i hg
        generalize hw : mStep mRc i L st (h0 K) = w at hr
        rcases w with ⟨L', st', h'⟩ | ⟨t, L', st'⟩ | ⟨v, h'⟩ | (_ | ⟨z, as, st'⟩)
        · exact (Ev_nx (gOk_nx hg hw)).mpr (ih _ _ _ _ _ _ hr R I hrel)
        · exact (Ev_jp (gOk_jp hg hw)).mpr (ih _ _ _ _ _ _ hr R I hrel)
        · cases hr
          exact (Ev_rt (gOk_rt hg hw)).mpr ⟨rfl, R, I, rfl, hrel⟩
        · cases hr
        · dsimp only at hr
          rw [Ev_cl (gOk_cl hg hw)]
          by_cases hz : z < 94
          · rw [if_pos hz] at hr
            cases hc : gCall z as G with
            | none => rw [hc] at hr; cases hr
            | some q =>
              obtain ⟨x, G'⟩ := q
              rw [hc] at hr
              refine EvM_mono ?_ (call_sound hrel hc)
              rintro v h ⟨rfl, R', I', rfl, hrel'⟩
              exact ih _ _ _ _ _ _ hr R' I' hrel'
          · rw [if_neg hz] at hr
            cases hc : gR K f z (mB z 0) (as ++ List.replicate (mN z - as.length) .null) [] G with
            | none => rw [hc] at hr; cases hr
            | some q =>
              rw [hc] at hr
              refine EvM_mono ?_ (ih _ _ _ _ _ _ hc R I hrel)
              rintro v h ⟨rfl, R', I', rfl, hrel'⟩
              exact ih _ _ _ _ _ _ hr R' I' hrel'
      · cases hr
theorem Eg_sound {K : mK} {y : Nat} {is : List mIns} {L st : List Value} {G : gS} {Q : Option Value → gS → Prop} {R : Nat → Nat → Option Nat} {I : Nat → Nat → Int32} (h : Eg K y is L st G Q) (hrel : RELG K R I G) : Ev y is L st (K, R, I) (fun v h => ∃ G' R' I', h = (K, R', I') ∧ RELG K R' I' G' ∧ Q v G') := by
  obtain ⟨f, r, h1, h2⟩ := h
  refine Ev_mono ?_ (gR_sound _ _ _ _ _ _ _ h1 R I hrel)
  rintro v k ⟨rfl, R', I', rfl, hr⟩
  exact ⟨r.2, R', I', rfl, hr, h2⟩
