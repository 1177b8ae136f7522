/-! THE LAW's START: the picture of nothing, and what the small machine's run of the law gives -/
def sIx (i : Nat) : Nat := ([55, 61, 63, 65, 67, 69] : List Nat).getD i 0
def sTm (i : Nat) : Term := .string "StretchSpool$Command" (sIx i)
def sNar : List Cond := flatC (Jvm.Cond.and given_1 narrow_1)
theorem s_ex : ∀ i, i < 6 → Cond.exactly (sTm i) "java/lang/String" ∈ sNar := by decide +kernel
theorem s_co : ∀ i, i < 6 → Cond.eq (.field (sTm i) "java/lang/String" "coder" "B") (.int 0) ∈ sNar := by decide +kernel
theorem s_ar : ∀ i, i < 6 → Cond.arrayOf (.field (sTm i) "java/lang/String" "value" "[B") .byte ∈ sNar := by decide +kernel
theorem s_le : ∀ i, i < 6 → Cond.eq (.length (.field (sTm i) "java/lang/String" "value" "[B")) (.int (Int32.ofNat (([5, 6, 3, 6, 5, 5] : List Nat).getD i 0))) ∈ sNar := by decide +kernel
theorem s_el : ∀ i, i < 6 → ∀ j, j < ([5, 6, 3, 6, 5, 5] : List Nat).getD i 0 → Cond.eq (.elem (.field (sTm i) "java/lang/String" "value" "[B") (.int (Int32.ofNat j))) (.int ((([[119, 114, 105, 116, 101], [114, 101, 119, 105, 110, 100], [99, 117, 116], [115, 112, 108, 105, 99, 101], [99, 108, 111, 115, 101], [112, 117, 110, 99, 104]] : List (List Int32)).getD i []).getD j 0)) ∈ sNar := by decide +kernel
theorem st_ne : ∀ i, i < 6 → ∀ j, j < 6 → i ≠ j → Cond.not (Cond.eq (sTm i) (sTm j)) ∈ sNar ∨ Cond.not (Cond.eq (sTm j) (sTm i)) ∈ sNar := by decide +kernel
theorem s_st : Cond.eq (Term.static "java/lang/String" "COMPACT_STRINGS" "Z") (.int 1) ∈ sNar ∧ Cond.isRef (Term.static "jdk/internal/util/Preconditions" "SIOOBE_FORMATTER" "Ljava/util/function/BiFunction;") ∈ sNar := by decide +kernel
theorem s_wd : .laysStatic "java/lang/String" "COMPACT_STRINGS" "Z" ∈ lw_tbl ∧ .laysStatic "jdk/internal/util/Preconditions" "SIOOBE_FORMATTER" "Ljava/util/function/BiFunction;" ∈ lw_tbl ∧ .initialized "java/lang/String" ∈ lw_tbl ∧ .initialized "jdk/internal/util/Preconditions" ∈ lw_tbl := by decide +kernel
theorem s_sr : .stringRef "StretchSpool$Command" 55 "write" ∈ lw_tbl ∧ .stringRef "StretchSpool$Command" 61 "rewind" ∈ lw_tbl ∧ .stringRef "StretchSpool$Command" 63 "cut" ∈ lw_tbl ∧ .stringRef "StretchSpool$Command" 65 "splice" ∈ lw_tbl ∧ .stringRef "StretchSpool$Command" 67 "close" ∈ lw_tbl ∧ .stringRef "StretchSpool$Command" 69 "punch" ∈ lw_tbl := by decide +kernel
theorem start_env {s : State} {b L : Nat} {xs : Nat → Int32} (hts : ∀ w ∈ lw_tbl, w.before #[Value.ref b] s = true) (hX : va_X b L xs s s.heap) (hbl : b < s.heap.size) (hgv : (Jvm.Cond.and given_1 narrow_1).before #[Value.ref b] s = true) :
    ∃ G : mG, gB G = s.heap.size ∧ gX G = b ∧ gL G = L ∧ gXs G = xs ∧ gEnv G s ∧ va_K (gD G) vwCl (gTys G) s := by
  have hf := flat_of_before _ hgv
  have hA : ∀ a : Nat, a < s.heap.size → ¬ (fun q : Nat => s.heap.size ≤ q) a := fun a h => Nat.not_le.mpr h
  obtain ⟨adK, adV, hS, hSe⟩ := vk_Sof (args := #[Value.ref b]) (s := s) (N := 6) (tm := sTm) (len := [5, 6, 3, 6, 5, 5]) (byt := [[119, 114, 105, 116, 101], [114, 101, 119, 105, 110, 100], [99, 117, 116], [115, 112, 108, 105, 99, 101], [99, 108, 111, 115, 101], [112, 117, 110, 99, 104]]) (A := fun q : Nat => s.heap.size ≤ q) (by decide) (fun i hi => hf _ (s_ex i hi)) (fun i hi => hf _ (s_co i hi)) (fun i hi => hf _ (s_ar i hi)) (fun i hi => hf _ (s_le i hi)) (fun i hi j hj => hf _ (s_el i hi j hj))
    (fun i j hi hj hij => (st_ne i hi j hj hij).elim (fun q => Or.inl (hf _ q)) (fun q => Or.inr (hf _ q))) hA
  have hZ := va_Zof (A := fun q : Nat => s.heap.size ≤ q) (hts _ s_wd.1) (hts _ s_wd.2.2.1) (va_eqt (hf _ s_st.1)) hA
  have hQ := va_Zqof (A := fun q : Nat => s.heap.size ≤ q) (hts _ s_wd.2.1) (hts _ s_wd.2.2.2) (hf _ s_st.2) hA
  have hfm : ∃ v : Value, va_Z "jdk/internal/util/Preconditions" "SIOOBE_FORMATTER" "Ljava/util/function/BiFunction;" v (fun q : Nat => s.heap.size ≤ q) s s.heap ∧ (v = .null ∨ ∃ t, v = .ref t) := by
    rcases hQ with h | ⟨t, h⟩
    · exact ⟨_, h, Or.inl rfl⟩
    · exact ⟨_, h, Or.inr ⟨t, rfl⟩⟩
  obtain ⟨fm, hfm1, hfm2⟩ := hfm
  have hcl : ∀ k : Nat, ∃ q : ClassId × (Nat → Nat), k < 8 → u_Kn s (mCN k) (mTT k) (mNf k) q.1 q.2 := by
    intro k
    by_cases hk : k < 8
    · obtain ⟨c0, i0, h0⟩ := u_known hts (w_lay k hk) (hts _ (w_ins k hk).1)
      exact ⟨(c0, i0), fun _ => h0⟩
    · exact ⟨(0, fun _ => 0), fun h => absurd h hk⟩
  obtain ⟨cl, hcl⟩ := Classical.axiomOfChoice hcl
  obtain ⟨cI, kI, mI, hI1, hI2, hI3⟩ := Cond.arrayClass_spec (hts _ w_misc.2.2.2.2.2.2.2.2.1)
  obtain ⟨cC, kC, mC', hC1, hC2, hC3⟩ := Cond.arrayClass_spec (hts _ w_misc.2.2.2.2.2.2.2.2.2.1)
  obtain ⟨mW, cW, kW, hW1, hW2, hW3, hW4, hW5⟩ := Cond.arrayOver_spec (hts _ w_misc.2.2.2.2.2.2.2.2.2.2.1)
  obtain ⟨mS', cS, kS, hS1, hS2, hS3, hS4, hS5⟩ := Cond.arrayOver_spec (hts _ w_misc.2.2.2.2.2.2.2.2.2.2.2)
  refine ⟨(s.heap.size, (fun k => (cl k).1, fun k => (cl k).2), fun t => if t = 2 then cI else if t = 3 then cC else if t = 4 then cW else cS, adK, adV, b, fm, L, xs), rfl, rfl, rfl, rfl, ?_, ?_⟩
  · refine ⟨hS, fun q hq => ?_, hZ, hfm1, hfm2, hX, hbl, Nat.le_refl _, fun q hq => va_Nw.of rfl (hts _ (List.mem_of_getElem? (w_fn q hq))), fun q hq => va_Nw.of rfl (hts _ (List.mem_of_getElem? (w_mn q hq))), va_AO.of (hts _ w_misc.2.2.2.2.2.2.2.2.2.2.1), va_AO.of (hts _ w_misc.2.2.2.2.2.2.2.2.2.2.2)⟩
    obtain ⟨t0, t1, t2, t3, t4, t5⟩ := s_sr
    simp only [mLD, List.mem_cons, List.not_mem_nil, or_false] at hq
    rcases hq with rfl | rfl | rfl | rfl | rfl | rfl
    · exact ⟨_, vk_R.of (hts _ t0) (hSe 0 (by decide))⟩
    · exact ⟨_, vk_R.of (hts _ t1) (hSe 1 (by decide))⟩
    · exact ⟨_, vk_R.of (hts _ t2) (hSe 2 (by decide))⟩
    · exact ⟨_, vk_R.of (hts _ t3) (hSe 3 (by decide))⟩
    · exact ⟨_, vk_R.of (hts _ t4) (hSe 4 (by decide))⟩
    · exact ⟨_, vk_R.of (hts _ t5) (hSe 5 (by decide))⟩
  · refine ⟨fun k q hq => ?_, fun k q hq => ?_⟩
    · have hk : k < 8 := (List.getElem?_eq_some_iff.mp hq).1
      rw [w_cls k hk] at hq
      cases hq
      exact hcl k hk
    · rcases (show k = 0 ∨ k = 1 ∨ k = 2 ∨ k = 3 ∨ 4 ≤ k by omega) with rfl | rfl | rfl | rfl | hk
      · cases hq
        exact ⟨fun n z => ⟨(fun k h => by cases h), kI, hI2, mI, hI3⟩, hI1⟩
      · cases hq
        exact ⟨fun n z => ⟨(fun k h => by cases h), kC, hC2, mC', hC3⟩, hC1⟩
      · cases hq
        exact ⟨fun n z => ⟨(fun k h => by cases h), kW, hW3, mW, hW4⟩, kW, mW, hW3, hW4, hW1, hW5⟩
      · cases hq
        exact ⟨fun n z => ⟨(fun k h => by cases h), kS, hS3, mS', hS4⟩, kS, mS', hS3, hS4, hS1, hS5⟩
      · rw [List.getElem?_eq_none (by show 4 ≤ k; exact hk)] at hq
        cases hq
/-- the small machine's start -/
def mH0 (L : Nat) (xs : Nat → Int32) : mH := ((0, 0, fun _ => (0, 0), L, xs), fun _ _ => none, fun _ _ => 0)
/-- what is wanted of the law's run -/
def lawRun : Prop := ∀ (L : Nat) (xs : Nat → Int32), L ≤ 260 → ∃ (f : Nat) (r : Option Value × mH), mR f 107 (mB 107 0) ([.ref 2000000] ++ List.replicate 15 .null) [] (mH0 L xs) = some r ∧ r.1 = some (.int 1) ∧ r.2.1.1 ≤ 600000 ∧ r.2.1.2.1 ≤ 7302249
set_option maxHeartbeats 4000000 in
theorem law_start (hC : gChk) (hz : kAll 107 = true) (hrun : lawRun) {p : Program} {e : Env} {s : State} {m : MethodId} {below : List Frame} {meth : Method} {c : Code} (l : Launch) {b L : Nat} {xs : Nat → Int32} (hL : L ≤ 260) (C0 : lw_At p s m meth c b L xs) : W p l e room_1 s m #[Value.ref b] below meth c s.heap [] 0 0 (lw_Z below #[Value.ref b] s) (entryFrame m ([Value.ref b] : List Value).toArray 16) := by
  obtain ⟨hx, hb, hr, hml, hown, hts, hX, hbl, hlocks, hgv⟩ := id C0
  obtain ⟨G, g1, g2, g3, g4, hE, hK⟩ := start_env hts hX hbl hgv
  have hF := hE.2.2.2.2.1
  obtain ⟨f, r, hrn, hans, hn1, hn2⟩ := hrun L xs hL
  have X : gCx p room_1 s m #[Value.ref b] meth c G 107 0 := ⟨hx, hb, hml, hown, fun w hw => hts w (List.mem_filter.mp hw).1, hK, hE, Nat.le_of_ble_eq_true rfl, Nat.le_of_ble_eq_true rfl, fun q => absurd q (by decide), by rw [g1]; rfl⟩
  have hl := lv_entry ([.ref b]) (n := 16) (Nat.le_of_ble_eq_true rfl)
  rw [lg_entry_eq]
  generalize (lg_sl ([.ref b]) ++ List.replicate (16 - (lg_sl ([.ref b])).length) Slot.unset).toArray = ls at hl ⊢
  have hl2 : lv_has ls 16 (lv_args 0 (([.ref 2000000] : List Value).map (gV G))) := by
    show lv_has ls 16 (lv_args 0 [.ref (gX G)])
    rw [g2]; exact hl
  have hl3 := gLs_entry (n := 15) hF (by intro v hv; rw [List.mem_singleton] at hv; exact Or.inr ⟨_, hv⟩) hl2
  have hblk : kBlk 107 0 (mB 107 0) = true := by
    rcases mB_chk (t := 0) hz with q | q
    · rw [q, mR_nil] at hrn; cases hrn
    · exact q
  have hp0 : gHp G (mH0 L xs) s s.heap [] := by
    refine ⟨fun k q h => by simp [gW, mH0] at h, ⟨fun i j p q h => by simp [gW, mH0] at h, fun k q h => by simp [gW, mH0] at h⟩, va_S.rf, Nat.zero_le _, fun k _ => rfl, (fun k j q h => by cases h), ?_⟩
    show (L, xs) = _
    rw [g3, g4]
  refine snd_body (z := 107) (s0 := 0) hC hz X (fun a ha _ => gMet_all hC _ a ha (Nat.le_refl _)) f (mB 107 0) _ [] (mH0 L xs) r hrn (fun v hv => by cases hv) 0 ls s.heap [] 0 0 hblk hl3 hp0 rfl rfl (by show _ ≤ 0 + 600000; omega) (by show _ ≤ 0 + 7302249; omega) ?_
  intro H1 locs1 cells1 slots1 pc1 ls1 hp1 hc1 hs1 hcase
  rcases hcase with ⟨q1, -⟩ | ⟨x, v, q1, q2, -⟩ | ⟨x, q1, -⟩
  · rw [hans] at q1; cases q1
  rotate_left
  · rw [hans] at q1; cases q1
  · rw [hans]
    refine W.widen (k := 600000) (n := 7302249) (by omega) (by omega) ?_
    refine va_forget (fun q hq => ?_) ?_
    · have h1 : gB G ≤ q.base := hp1.2.2.1.2.2 q hq
      rw [g1] at h1; exact h1
    · exact lw_ret hx hb hr hlocks q2
