/-! THE PICTURE of the small machine's cells in the heap, and what a run keeps -/
def aw : List Cond := lw_tbl.filter goodWord
theorem aw_of {w : Cond} (h : w ∈ lw_tbl) (g : goodWord w = true) : w ∈ aw := List.mem_filter.mpr ⟨h, g⟩
theorem aw_at {w : Cond} {i : Nat} (h : lw_tbl[i]? = some w) (g : goodWord w = true) : w ∈ aw := aw_of (List.mem_of_getElem? h) g
theorem aw_gd {w : Cond} (h : w ∈ aw) : (w.onTables && w.keeps) = true ∨ ∃ ty, w = .arrayClass ty := good_of_word (List.mem_filter.mp h).2
/-- base, classes and fields, the classes of arrays by tag, the String constants, their bytes, the script, the formatter, the script's length and values -/
abbrev mG : Type := Nat × va_G × (Nat → ClassId) × (Nat → Nat) × (Nat → Nat) × Nat × Value × Nat × (Nat → Int32)
def gB (G : mG) : Nat := G.1
def gD (G : mG) : va_G := G.2.1
def gC (G : mG) : Nat → ClassId := G.2.2.1
def gK (G : mG) : Nat → Nat := G.2.2.2.1
def gSs (G : mG) : Nat → Nat := G.2.2.2.2.1
def gX (G : mG) : Nat := G.2.2.2.2.2.1
def gF (G : mG) : Value := G.2.2.2.2.2.2.1
def gL (G : mG) : Nat := G.2.2.2.2.2.2.2.1
def gXs (G : mG) : Nat → Int32 := G.2.2.2.2.2.2.2.2
def gAt (G : mG) : Nat → Prop := fun q => gB G ≤ q
def gAd (G : mG) (k : Nat) : Nat := if k < 1000000 then gB G + k else if k < 1100000 then gK G (k - 1000000) else if k < 2000000 then gSs G (k - 1100000) else gX G
def gV (G : mG) (v : Value) : Value := match v with
  | .ref k => if k = 3000000 then gF G else .ref (gAd G k)
  | v => v
def gTys (G : mG) : List (ClassId × FieldType) := [(gC G 2, .int), (gC G 3, .char), (gC G 4, .object (mCN 6)), (gC G 5, .object (mCN 4))]
def gFs (G : mG) (c : Nat) (r : Nat → Option Nat) (i : Nat → Int32) : List Value := (List.range (mNf c)).map (fun j => if mFk c j = 2 then va_rf ((r j).map (fun q => gB G + q)) else .int (i j))
def gE (G : mG) (h : mH) (k : Nat) : va_E :=
  if (h.1.2.2.1 k).1 = 1 then .inr ((h.1.2.2.1 k).2, gFs G (h.1.2.2.1 k).2 (h.2.1 k) (h.2.2 k))
  else if (h.1.2.2.1 k).1 = 2 then .inl (gC G 2, (h.1.2.2.1 k).2, .inl (h.2.2 k))
  else if (h.1.2.2.1 k).1 = 3 then .inl (gC G 3, (h.1.2.2.1 k).2, .inl (h.2.2 k))
  else .inl (gC G (h.1.2.2.1 k).1, (h.1.2.2.1 k).2, .inr (.inr (.inr (.inr (fun j => (h.2.1 k j).map (fun q => gB G + q))))))
def gW (G : mG) (h : mH) : va_W := (List.range h.1.1).map (fun k => (gB G + k, gE G h k))
def mOK (G : mG) (h : mH) : Prop := h.1.1 ≤ 500000 ∧ (∀ k, h.1.1 ≤ k → h.1.2.2.1 k = (0, 0)) ∧ (∀ k j q, h.2.1 k j = some q → q < 500000) ∧ h.1.2.2.2 = (gL G, gXs G)
def gEnv (G : mG) (U : State) : Prop :=
  vk_S 6 [5, 6, 3, 6, 5, 5] [[119, 114, 105, 116, 101], [114, 101, 119, 105, 110, 100], [99, 117, 116], [115, 112, 108, 105, 99, 101], [99, 108, 111, 115, 101], [112, 117, 110, 99, 104]] (gK G) (gSs G) (gAt G) U U.heap ∧
  (∀ q ∈ mLD, ∃ tx, vk_R (mCN 0) q.1 tx (gK G q.2) U) ∧
  va_Z "java/lang/String" "COMPACT_STRINGS" "Z" (.int 1) (gAt G) U U.heap ∧
  va_Z "jdk/internal/util/Preconditions" "SIOOBE_FORMATTER" "Ljava/util/function/BiFunction;" (gF G) (gAt G) U U.heap ∧
  (gF G = .null ∨ ∃ t, gF G = .ref t) ∧
  va_X (gX G) (gL G) (gXs G) U U.heap ∧ gX G < gB G ∧ gB G ≤ U.heap.size ∧
  (∀ q ∈ mFN, va_Nw (.fieldLinkNest (mCN q.2.1) q.2.2.1 (mTT q.2.2.2.1 q.2.2.2.2).1 (mTT q.2.2.2.1 q.2.2.2.2).2.1 (mTT q.2.2.2.1 q.2.2.2.2).2.2.1 "StretchSpool") U) ∧
  (∀ q ∈ mMN, va_Nw (.methodLinkNest (mCN q.2.1) q.2.2.1 (mNm q.2.2.2) "StretchSpool") U) ∧ va_AO (mCN 6) U ∧ va_AO (mCN 4) U
def gHp (G : mG) (h : mH) (s : State) (H : Heap) (locs : List Loc) : Prop := va_P (gD G) vwCl (gW G h) H ∧ va_D (gAt G) (gW G h) ∧ va_S (gAt G) s.heap H locs ∧ mOK G h
def gPic (G : mG) (h : mH) (U : State) : Prop := U.heap.size = gB G + h.1.1 ∧ va_P (gD G) vwCl (gW G h) U.heap ∧ va_D (gAt G) (gW G h) ∧ va_K (gD G) vwCl (gTys G) U ∧ gEnv G U
theorem gEnv_go {G : mG} {s U : State} {H : Heap} {locs : List Loc} (h : gEnv G s) (hS : va_S (gAt G) s.heap H locs) (hU : U.heap = H) (hW : s.WarmedH U.vm) : gEnv G U := by
  obtain ⟨h1, h2, h3, h4, h5, h6, h7, h8, h9, h10, h11, h12⟩ := h
  have hk : ∀ a : Nat, a < s.heap.size → ¬ gAt G a → U.heap[a]? = s.heap[a]? := fun a ha hn => by rw [hU]; exact hS.2.1 a ha hn
  refine ⟨(h1.moved hW.alike).kept hk, fun q hq => ?_, (va_Z.moved hW.alike h3).kept hk, (va_Z.moved hW.alike h4).kept hk, h5, (h6.moved hW.alike).kept (hk _ (Nat.lt_of_lt_of_le h7 h8) (fun z => absurd z (Nat.not_le.mpr h7))), h7, ?_, fun q hq => va_Nw.warmF hW (h9 q hq), fun q hq => va_Nw.warmM hW (h10 q hq), h11.moved hW.alike, h12.moved hW.alike⟩
  · obtain ⟨tx, e⟩ := h2 q hq
    exact ⟨tx, e.warm hW⟩
  · rw [hU]; exact Nat.le_trans h8 hS.1
theorem gEnv_blind {G : mG} {U : State} {g : JFrame} {mk : MethodId} {a : Array Value} (h : gEnv G U) : gEnv G (U.calling g mk a) := by
  obtain ⟨h1, h2, h3, h4, h5, h6, h7, h8, h9, h10, h11, h12⟩ := h
  refine ⟨(h1.moved (U := U.calling g mk a) (Vm.Alike.refl U.vm)).kept (fun _ _ _ => rfl), fun q hq => ?_, (va_Z.moved (U := U.calling g mk a) (Vm.Alike.refl U.vm) h3).kept (fun _ _ _ => rfl), (va_Z.moved (U := U.calling g mk a) (Vm.Alike.refl U.vm) h4).kept (fun _ _ _ => rfl), h5, (h6.moved (U := U.calling g mk a) (Vm.Alike.refl U.vm)).kept rfl, h7, h8, fun q hq => va_Nw.same rfl rfl (h9 q hq), fun q hq => va_Nw.same rfl rfl (h10 q hq), h11.moved (u := U) (U := U.calling g mk a) (Vm.Alike.refl U.vm), h12.moved (u := U) (U := U.calling g mk a) (Vm.Alike.refl U.vm)⟩
  obtain ⟨tx, e⟩ := h2 q hq
  exact ⟨tx, vk_R.same rfl e⟩
theorem gPic_blind {G : mG} {h : mH} {as : List Value} : FrameBlind (va_Pc as (gPic G h)) := by
  intro a U g mk q
  obtain ⟨q0, q1, q2, q3, q4, q5⟩ := q
  exact ⟨q0, q1, q2, q3, va_K.moved (u := U) (U := U.calling g mk a) (Vm.Alike.refl U.vm) q4, gEnv_blind q5⟩
theorem gW_at {G : mG} {h : mH} {k : Nat} (hk : k < h.1.1) : (gW G h)[k]? = some (gB G + k, gE G h k) := by
  rw [gW, List.getElem?_map, List.getElem?_range hk]; rfl
theorem gW_len {G : mG} {h : mH} : (gW G h).length = h.1.1 := by rw [gW, List.length_map, List.length_range]
theorem gW_set {G : mG} {h h' : mH} {k : Nat} (hn : h'.1.1 = h.1.1) (hk : k < h.1.1) (ho : ∀ j, j ≠ k → gE G h' j = gE G h j) : (gW G h).set k (gB G + k, gE G h' k) = gW G h' := by
  apply List.ext_getElem?
  intro j
  by_cases hj : j = k
  · subst hj
    rw [List.getElem?_set_self (by rw [gW_len]; exact hk), gW_at (by rw [hn]; exact hk)]
  · rw [List.getElem?_set_ne (Ne.symm hj)]
    rcases Nat.lt_or_ge j h.1.1 with q | q
    · rw [gW_at q, gW_at (by rw [hn]; exact q), ho j hj]
    · rw [List.getElem?_eq_none (by rw [gW_len]; exact q), List.getElem?_eq_none (by rw [gW_len, hn]; exact q)]
theorem gW_push {G : mG} {h h' : mH} (hn : h'.1.1 = h.1.1 + 1) (ho : ∀ j, j < h.1.1 → gE G h' j = gE G h j) : gW G h ++ [(gB G + h.1.1, gE G h' h.1.1)] = gW G h' := by
  rw [gW, gW, hn, List.range_succ, List.map_append]
  congr 1
  apply List.map_congr_left
  intro j hj
  rw [ho j (List.mem_range.mp hj)]
theorem mOK_lt {G : mG} {h : mH} (ok : mOK G h) {k : Nat} (hk : ¬ h.1.2.2.1 k = (0, 0)) : k < h.1.1 := by
  rcases Nat.lt_or_ge k h.1.1 with q | q
  · exact q
  · exact absurd (ok.2.1 k q) hk
theorem gAd_lo {G : mG} {k : Nat} (h : k < 1000000) : gAd G k = gB G + k := if_pos h
theorem gV_lo {G : mG} {k : Nat} (h : k < 1000000) : gV G (.ref k) = .ref (gB G + k) := by
  show (if k = 3000000 then gF G else .ref (gAd G k)) = _
  rw [if_neg (by omega), gAd_lo h]
theorem gV_str {G : mG} {k : Nat} (h : mStr k = true) : gV G (.ref k) = .ref (gK G (k - 1000000)) ∧ k - 1000000 < 6 := by
  simp only [mStr, Bool.and_eq_true, decide_eq_true_eq] at h
  refine ⟨?_, by omega⟩
  show (if k = 3000000 then gF G else .ref (gAd G k)) = _
  rw [if_neg (by omega), gAd, if_neg (by omega), if_pos (by omega)]
theorem gV_stb {G : mG} {k : Nat} (h : mStB k = true) : gV G (.ref k) = .ref (gSs G (k - 1100000)) ∧ k - 1100000 < 6 := by
  simp only [mStB, Bool.and_eq_true, decide_eq_true_eq] at h
  refine ⟨?_, by omega⟩
  show (if k = 3000000 then gF G else .ref (gAd G k)) = _
  rw [if_neg (by omega), gAd, if_neg (by omega), if_neg (by omega), if_pos (by omega)]
theorem gV_scr {G : mG} : gV G (.ref 2000000) = .ref (gX G) := rfl
theorem gV_fmt {G : mG} : gV G (.ref 3000000) = gF G := rfl
theorem gV_ref {G : mG} (hF : gF G = .null ∨ ∃ t, gF G = .ref t) (k : Nat) : gV G (.ref k) = .null ∨ ∃ t, gV G (.ref k) = .ref t := by
  by_cases h : k = 3000000
  · subst h; exact hF
  · exact Or.inr ⟨gAd G k, by show (if k = 3000000 then gF G else .ref (gAd G k)) = _; rw [if_neg h]⟩
/-- the locals, as the kit lists them -/
def gLs (G : mG) (L : List Value) : List (Nat × Value) := L.zipIdx.filterMap (fun q => match q.1 with
  | .int x => some (q.2, .int x)
  | .ref o => some (q.2, gV G (.ref o))
  | .long x => (match L[q.2 + 1]? with
    | some .null => some (q.2, .long x)
    | _ => none)
  | _ => none)
def mIR (v : Value) : Prop := (∃ x, v = .int x) ∨ ∃ o, v = .ref o
def mIV (v : Value) : Prop := mIR v ∨ ∃ x, v = .long x
theorem m1_IR {v : Value} (h : m1 v = true) : mIR v := by
  cases v
  case int x => exact Or.inl ⟨x, rfl⟩
  case ref o => exact Or.inr ⟨o, rfl⟩
  all_goals cases h
theorem gLs_mem {G : mG} {L : List Value} {k : Nat} {w : Value} : (k, w) ∈ gLs G L ↔ ∃ v, L[k]? = some v ∧ (mIR v ∨ ((∃ x, v = .long x) ∧ L[k + 1]? = some .null)) ∧ w = gV G v := by
  unfold gLs
  rw [List.mem_filterMap]
  constructor
  · rintro ⟨⟨v, j⟩, h1, h2⟩
    have h3 := List.mem_zipIdx_iff_getElem?.mp h1
    cases v with
    | int x => cases h2; exact ⟨_, h3, Or.inl (Or.inl ⟨_, rfl⟩), rfl⟩
    | ref x => cases h2; exact ⟨_, h3, Or.inl (Or.inr ⟨_, rfl⟩), rfl⟩
    | long x =>
      dsimp only at h2 h3
      split at h2
      · rename_i hn
        cases h2
        exact ⟨_, h3, Or.inr ⟨⟨_, rfl⟩, hn⟩, rfl⟩
      · cases h2
    | _ => cases h2
  · rintro ⟨v, h1, h2, rfl⟩
    refine ⟨(v, k), List.mem_zipIdx_iff_getElem?.mpr h1, ?_⟩
    rcases h2 with (⟨x, rfl⟩ | ⟨o, rfl⟩) | ⟨⟨x, rfl⟩, hn⟩
    · rfl
    · rfl
    · dsimp only
      rw [hn]
      rfl
theorem lv_mem {ls : Array Slot} {nL : Nat} {l l' : List (Nat × Value)} (h : lv_has ls nL l) (hm : ∀ q ∈ l', q ∈ l) : lv_has ls nL l' := ⟨h.1, h.2.1, fun q hq => h.2.2 q (hm q hq)⟩
theorem gV_cat {G : mG} (hF : gF G = .null ∨ ∃ t, gF G = .ref t) {v : Value} (hv : mIR v) : (gV G v).category = 1 := by
  rcases hv with ⟨x, rfl⟩ | ⟨o, rfl⟩
  · rfl
  · rcases gV_ref hF o with e | ⟨t, e⟩ <;> rw [e] <;> rfl
theorem gV_cat2 {G : mG} (hF : gF G = .null ∨ ∃ t, gF G = .ref t) {L : List Value} {k : Nat} {u : Value} (h : mIR u ∨ ((∃ x, u = .long x) ∧ L[k + 1]? = some .null)) (hc : (gV G u).category = 2) : (∃ x, u = .long x) ∧ L[k + 1]? = some .null := by
  rcases h with h | h
  · rw [gV_cat hF h] at hc; cases hc
  · exact h
theorem gLs_set {G : mG} {L : List Value} {a : Nat} {v : Value} (hF : gF G = .null ∨ ∃ t, gF G = .ref t) (hv : mIR v) : ∀ q ∈ gLs G (L.set a v), q ∈ (a, gV G v) :: (gLs G L).filter (fun q => !(q.1 == a) && !(q.1 + 1 == a && q.2.category == 2)) := by
  have hnn : ¬ v = .null := by rcases hv with ⟨x, rfl⟩ | ⟨o, rfl⟩ <;> (intro h; cases h)
  rintro ⟨k, w⟩ hq
  obtain ⟨u, h1, h2, rfl⟩ := gLs_mem.mp hq
  by_cases hk : a = k
  · subst hk
    rw [List.getElem?_set] at h1
    simp only [if_true] at h1
    split at h1
    · cases h1; exact List.mem_cons_self
    · cases h1
  · rw [List.getElem?_set_ne hk] at h1
    have h3 : k + 1 ≠ a ∨ mIR u := by
      rcases h2 with h2 | ⟨-, h2⟩
      · exact Or.inr h2
      · left
        intro e
        subst e
        rw [List.getElem?_set] at h2
        simp only [if_true] at h2
        split at h2
        · cases h2; exact hnn rfl
        · cases h2
    have h4 : mIR u ∨ ((∃ x, u = .long x) ∧ L[k + 1]? = some .null) := by
      rcases h2 with h2 | ⟨h2, h5⟩
      · exact Or.inl h2
      · rcases h3 with h3 | h3
        · rw [List.getElem?_set_ne (Ne.symm h3)] at h5
          exact Or.inr ⟨h2, h5⟩
        · exact Or.inl h3
    refine List.mem_cons_of_mem _ (List.mem_filter.mpr ⟨gLs_mem.mpr ⟨u, h1, h4, rfl⟩, ?_⟩)
    rcases h3 with h3 | h3
    · simp [Ne.symm hk, h3]
    · have hc := gV_cat hF h3
      simp [hc, Ne.symm hk]
theorem gLs_set2 {G : mG} {L : List Value} {a : Nat} {x : Int64} (hF : gF G = .null ∨ ∃ t, gF G = .ref t) : ∀ q ∈ gLs G ((L.set a (.long x)).set (a + 1) .null), q ∈ (a, Value.long x) :: (gLs G L).filter (fun q => !(q.1 == a) && (!(q.1 == a + 1) && !(q.1 + 1 == a && q.2.category == 2))) := by
  rintro ⟨k, w⟩ hq
  obtain ⟨u, h1, h2, rfl⟩ := gLs_mem.mp hq
  by_cases hk1 : a + 1 = k
  · subst hk1
    rw [List.getElem?_set] at h1
    simp only [if_true] at h1
    split at h1
    · cases h1
      rcases h2 with (⟨x, e⟩ | ⟨o, e⟩) | ⟨⟨x, e⟩, -⟩ <;> cases e
    · cases h1
  · rw [List.getElem?_set_ne hk1] at h1
    by_cases hk : a = k
    · subst hk
      rw [List.getElem?_set] at h1
      simp only [if_true] at h1
      split at h1
      · cases h1; exact List.mem_cons_self
      · cases h1
    · rw [List.getElem?_set_ne hk] at h1
      have h3 : k + 1 ≠ a ∨ mIR u := by
        rcases h2 with h2 | ⟨-, h2⟩
        · exact Or.inr h2
        · left
          intro e
          subst e
          rw [List.getElem?_set_ne (by omega), List.getElem?_set] at h2
          simp only [if_true] at h2
          split at h2
          · cases h2
          · cases h2
      have h4 : mIR u ∨ ((∃ x, u = .long x) ∧ L[k + 1]? = some .null) := by
        rcases h2 with h2 | ⟨h2, h5⟩
        · exact Or.inl h2
        · rcases h3 with h3 | h3
          · rw [List.getElem?_set_ne (by omega), List.getElem?_set_ne (Ne.symm h3)] at h5
            exact Or.inr ⟨h2, h5⟩
          · exact Or.inl h3
      refine List.mem_cons_of_mem _ (List.mem_filter.mpr ⟨gLs_mem.mpr ⟨u, h1, h4, rfl⟩, ?_⟩)
      rcases h3 with h3 | h3
      · simp [Ne.symm hk, Ne.symm hk1, h3]
      · have hc := gV_cat hF h3
        simp [hc, Ne.symm hk, Ne.symm hk1]
theorem gLs_at {G : mG} {L : List Value} {ls : Array Slot} {nL a : Nat} {v : Value} (h : lv_has ls nL (gLs G L)) (hv : L[a]? = some v) (hi : mIR v) : ls[a]? = some (.val (gV G v)) := h.2.2 (a, gV G v) (gLs_mem.mpr ⟨v, hv, Or.inl hi, rfl⟩)
theorem gLs_atL {G : mG} {L : List Value} {ls : Array Slot} {nL a : Nat} {x : Int64} (h : lv_has ls nL (gLs G L)) (hv : L[a]? = some (.long x)) (hn : L[a + 1]? = some .null) : ls[a]? = some (.val (.long x)) := h.2.2 (a, .long x) (gLs_mem.mpr ⟨.long x, hv, Or.inr ⟨⟨x, rfl⟩, hn⟩, rfl⟩)
theorem gLs_args {G : mG} {n : Nat} (hF : gF G = .null ∨ ∃ t, gF G = .ref t) : ∀ (as : List Value), (∀ v ∈ as, mIR v) → ∀ (i k : Nat) (v : Value), as[k]? = some v → (i + k, gV G v) ∈ lv_args i (as.map (gV G)) := by
  intro as
  induction as with
  | nil => intro _ i k v h; simp at h
  | cons a as ih =>
    intro hall i k v h
    have hc : ¬ (gV G a).category = 2 := by rw [gV_cat hF (hall a List.mem_cons_self)]; decide
    show _ ∈ (i, gV G a) :: lv_args (if (gV G a).category = 2 then i + 2 else i + 1) (as.map (gV G))
    rw [if_neg hc]
    cases k with
    | zero => cases h; exact List.mem_cons_self
    | succ k =>
      have h1 := ih (fun v hv => hall v (List.mem_cons_of_mem _ hv)) (i + 1) k v h
      rw [show i + 1 + k = i + (k + 1) by omega] at h1
      exact List.mem_cons_of_mem _ h1
theorem gLs_entry {G : mG} {as : List Value} {n nL : Nat} (hF : gF G = .null ∨ ∃ t, gF G = .ref t) (hall : ∀ v ∈ as, mIR v) {ls : Array Slot} (h : lv_has ls nL (lv_args 0 (as.map (gV G)))) : lv_has ls nL (gLs G (as ++ List.replicate n .null)) := by
  refine lv_mem h ?_
  rintro ⟨k, w⟩ hq
  obtain ⟨u, h1, h2, rfl⟩ := gLs_mem.mp hq
  rcases Nat.lt_or_ge k as.length with q | q
  · rw [List.getElem?_append_left q] at h1
    have h3 := gLs_args (n := 0) hF as hall 0 k u h1
    rwa [Nat.zero_add] at h3
  · rw [List.getElem?_append_right q] at h1
    have h3 := List.mem_of_getElem? h1
    have h4 := List.eq_of_mem_replicate h3
    subst h4
    rcases h2 with (⟨x, e⟩ | ⟨o, e⟩) | ⟨⟨x, e⟩, -⟩ <;> cases e
theorem mIn_vp {i : Int32} {n : Nat} (h : mIn i n = true) : vp_in i n := by
  simp only [mIn, Bool.and_eq_true, decide_eq_true_eq] at h
  rintro (q | q)
  · exact absurd h.1 (Int32.not_le.mpr q)
  · omega
