/-! A BODY, AND THE CONTRACTS of all methods -/
theorem mB_chk {z t : Nat} (hz : kAll z = true) : mB z t = [] ∨ kBlk z t (mB z t) = true := by
  unfold mB
  cases e : (mBL.getD z []).lookup t with
  | none => exact Or.inl rfl
  | some b =>
    refine Or.inr ?_
    have key : ∀ (l : List (Nat × List mIns)), l.all (fun q => kBlk z q.1 q.2) = true → l.lookup t = some b → kBlk z t b = true := by
      intro l
      induction l with
      | nil => intro _ h; simp at h
      | cons q l ih =>
        intro ha hl
        obtain ⟨q1, q2⟩ := q
        rw [List.all_cons, Bool.and_eq_true] at ha
        rw [List.lookup_cons] at hl
        by_cases h : t = q1
        · subst h
          simp at hl
          subst hl
          exact ha.1
        · have h' : (t == q1) = false := by simpa using h
          rw [h'] at hl
          exact ih ha.2 hl
    exact key _ hz e
def kNop (i : mIns) : Bool := match i with
  | (.nop, _) => true
  | _ => false
theorem kBlk_cons {z pc : Nat} {i : mIns} {is : List mIns} (h : kBlk z pc (i :: is) = true) (hn : kNop i = false) : decode (mC z) pc = .ok (i.1, kLen i) ∧ kIns z pc i = true ∧ (kEnd i = true ∨ kBlk z (pc + kLen i) is = true) := by
  obtain ⟨ins, a, b, v⟩ := i
  have key : kBlk z pc ((ins, a, b, v) :: is) = (decide (decode (mC z) pc = .ok (ins, kLen (ins, a, b, v))) && kIns z pc (ins, a, b, v) && (kEnd (ins, a, b, v) || kBlk z (pc + kLen (ins, a, b, v)) is)) := by
    cases ins
    case nop => simp [kNop] at hn
    all_goals rfl
  rw [key] at h
  simp only [Bool.and_eq_true, Bool.or_eq_true, decide_eq_true_eq] at h
  exact ⟨h.1.1, h.1.2, h.2⟩
theorem kEnd_nx {rc : Nat → Nat} {i : mIns} {L st L' st' : List Value} {h h' : mH} (hs : mStep rc i L st h = .inl (L', st', h')) : kEnd i = false ∧ kNop i = false := by
  obtain ⟨ins, a, b, v⟩ := i
  cases ins
  case goto => simp only [mStep] at hs; cases hs
  case nop => simp only [mStep] at hs; cases hs
  case tableswitch => simp only [mStep] at hs; split at hs <;> cases hs
  case lreturn => simp only [mStep] at hs; split at hs <;> cases hs
  case ireturn =>
    simp only [mStep] at hs
    split at hs
    · split at hs <;> cases hs
    · cases hs
  case return_ => simp only [mStep] at hs; split at hs <;> cases hs
  all_goals exact ⟨rfl, rfl⟩
section BD
variable {p : Program} {l : Launch} {e : Env} {R : Room} {s : State} {m : MethodId} {args : Array Value} {below : List Frame} {meth : Method} {c : Code} {Q : State → Prop}
set_option maxHeartbeats 4000000 in
theorem snd_jp {z : Nat} {G : mG} (hx : p.tables.exec = Jvm.exec) (hb : c.code = mC z) {i : mIns} {is : List mIns} {L st L' st' : List Value} {h : mH} {t : Nat} (hs : mStep mRc i L st h = .inr (.inl (t, L', st'))) {pc : Nat} (hk : kBlk z pc (i :: is) = true)
    {ls : Array Slot} {H : Heap} {locs : List Loc} {cells slots : Nat} (kk : W p l e R s m args below meth c H locs cells slots Q (F0 m t ls (st'.map (gV G)))) : W p l e R s m args below meth c H locs cells slots Q (F0 m pc ls (st.map (gV G))) := by
  by_cases hn : kNop i = true
  · obtain ⟨ins, a, b, v⟩ := i
    cases ins
    case nop =>
      simp only [mStep] at hs
      cases hs
      have e1 : t = pc := by simpa [kBlk] using hk
      rw [← e1]
      exact kk
    all_goals (simp [kNop] at hn)
  · obtain ⟨hd, hki, -⟩ := kBlk_cons hk (by simpa using hn)
    obtain ⟨ins, a, b, v⟩ := i
    cases ins
    case goto off => simp only [mStep] at hs; cases hs; simp only [kIns, decide_eq_true_eq] at hki; exact lv_goto hx hb hd hki kk
    case nop => simp [kNop] at hn
    case ifCond cnd off =>
      simp only [mStep] at hs
      split at hs
      · rename_i x st
        split at hs <;> cases hs
        rename_i hc
        simp only [kIns, decide_eq_true_eq] at hki
        cases cnd <;> simp only [mCmp, decide_eq_true_eq, Bool.not_eq_true', beq_eq_false_iff_ne, beq_iff_eq, ne_eq, Decidable.not_not, Bool.not_eq_true] at hc
        · exact lv_if_eq hx hb hd hki (fun _ => kk) (fun q => absurd hc q)
        · exact lv_if_ne hx hb hd hki (fun _ => kk) (fun q => absurd q hc)
        · exact lv_if_lt hx hb hd hki (fun _ => kk) (fun q => absurd hc q)
        · exact lv_if_ge hx hb hd hki (fun _ => kk) (fun q => absurd hc q)
        · exact lv_if_gt hx hb hd hki (fun _ => kk) (fun q => absurd hc q)
        · exact lv_if_le hx hb hd hki (fun _ => kk) (fun q => absurd hc q)
      · cases hs
    case if_icmp cnd off =>
      simp only [mStep] at hs
      split at hs
      · rename_i x y st
        split at hs <;> cases hs
        rename_i hc
        simp only [kIns, decide_eq_true_eq] at hki
        cases cnd <;> simp only [mCmp, decide_eq_true_eq, Bool.not_eq_true', beq_eq_false_iff_ne, beq_iff_eq, ne_eq, Decidable.not_not, Bool.not_eq_true] at hc
        · exact lv_icmp_eq hx hb hd hki (fun _ => kk) (fun q => absurd hc q)
        · exact lv_icmp_ne hx hb hd hki (fun _ => kk) (fun q => absurd q hc)
        · exact lv_icmp_lt hx hb hd hki (fun _ => kk) (fun q => absurd hc q)
        · exact lv_icmp_ge hx hb hd hki (fun _ => kk) (fun q => absurd hc q)
        · exact lv_icmp_gt hx hb hd hki (fun _ => kk) (fun q => absurd hc q)
        · exact lv_icmp_le hx hb hd hki (fun _ => kk) (fun q => absurd hc q)
      · cases hs
    case tableswitch dflt lo hi offs =>
      simp only [mStep] at hs
      split at hs
      · rename_i x st
        cases hs
        simp only [kIns, Bool.and_eq_true, decide_eq_true_eq] at hki
        obtain ⟨⟨⟨⟨k1, k2⟩, k3⟩, k4⟩, k5⟩ := hki
        subst k1
        unfold mTgt at kk
        by_cases c1 : x.toInt < lo
        · rw [if_pos c1] at kk
          exact lv_tableOut hx hb hd (Or.inl c1) (tgt := (↑a + dflt).toNat) (by omega) kk
        · rw [if_neg c1] at kk
          cases e : offs[(x.toInt - lo).toNat]? with
          | none =>
            rw [e] at kk
            have h1 := Array.getElem?_eq_none_iff.mp e
            exact lv_tableOut hx hb hd (Or.inr (by omega)) (tgt := (↑a + dflt).toNat) (by omega) kk
          | some off =>
            rw [e] at kk
            have h1 := (Array.getElem?_eq_some_iff.mp e).1
            have h2 : off ∈ offs := Array.mem_of_getElem? e
            have h3 := Array.all_eq_true_iff_forall_mem.mp k5 off h2
            simp only [decide_eq_true_eq] at h3
            exact lv_tableIn hx hb hd c1 (by omega) e (tgt := (↑a + off).toNat) (by omega) kk
      · cases hs
    all_goals (simp only [mStep] at hs; (repeat' split at hs) <;> cases hs)
theorem mNar_ok {v x : Int32} (h : mNar v x = true) : narrow (if v = 0 then .int else if v = 1 then .boolean else if v = 2 then .byte else .char) (.int x) = .int x := by
  unfold mNar at h
  by_cases c0 : v = 0
  · rw [if_pos c0]; rfl
  · rw [if_neg c0] at h ⊢
    by_cases c1 : v = 1
    · rw [if_pos c1] at h ⊢
      simp only [Bool.or_eq_true, beq_iff_eq] at h
      rcases h with rfl | rfl <;> decide
    · rw [if_neg c1] at h ⊢
      by_cases c2 : v = 2
      · rw [if_pos c2] at h ⊢
        simp only [beq_iff_eq] at h
        show Value.int x.toInt8.toInt32 = _
        rw [h]
      · rw [if_neg c2] at h ⊢
        simp only [beq_iff_eq] at h
        show Value.int (x.toUInt32 % 65536).toInt32 = _
        rw [h]
/-- what the checks of part 60 say -/
def gChk : Prop := ∀ z, z < 107 → lw_tbl[mPcL.getD z 9999]? = some (.code (mY z) (mC z) (mN z) (mT z)) ∧ kAll z = true
set_option maxHeartbeats 4000000 in
theorem snd_cl {z n0 s0 : Nat} {G : mG} (hC : gChk) (X : gCx p R s m args meth c G z n0) (IH : ∀ a, a < 107 → mRk a < mRk z → gMet l G a) {i : mIns} {L st as st' : List Value} {h : mH} {a : Nat} (hs : mStep mRc i L st h = .inr (.inr (.inr (some (a, as, st'))))) {pc : Nat} (hd : decode (mC z) pc = .ok (i.1, kLen i)) (hk : kIns z pc i = true)
    {f : Nat} {q : Option Value × mH} (hq : mR f a (mB a 0) (as ++ List.replicate (mN a - as.length) .null) [] h = some q)
    {ls : Array Slot} {H : Heap} {locs : List Loc} {cells slots : Nat} (hl : lv_has ls (mN z) (gLs G L)) (hp : gHp G h s H locs) (hc : h.1.1 = n0 + cells) (hsl : h.1.2.1 = s0 + slots) (hcR : q.2.1.1 ≤ n0 + R.cells) (hsR : q.2.1.2.1 ≤ s0 + R.slots) (hst : ∀ v ∈ st, mIV v)
    (kk : ∀ (H' : Heap) (locs' : List Loc) (cells' slots' : Nat), gHp G q.2 s H' locs' → q.2.1.1 = n0 + cells' → q.2.1.2.1 = s0 + slots' → W p l e R s m args below meth c H' locs' cells' slots' Q (F0 m (pc + kLen i) ls ((q.1.toList ++ st').map (gV G)))) :
    W p l e R s m args below meth c H locs cells slots Q (F0 m pc ls (st.map (gV G))) := by
  obtain ⟨hx, hb, hml, hown, hts, hK, hE, hRf, hRl, hin, h0⟩ := X
  have hF := hE.2.2.2.2.1
  obtain ⟨hP, hD, hS, ok⟩ := id hp
  obtain ⟨e1, e2, e3, e4, e5, eall, hkind⟩ := mStep_cl hs
  have hasI : ∀ v ∈ as, mIR v := by rw [e2]; exact tk_m1 eall
  have hst' : ∀ v ∈ st', mIV v := by rw [e3]; exact tk_mem hst
  have hlen : as.length = i.2.2.1 := by rw [e2, List.length_reverse, List.length_take]; omega
  have hsplit : st.map (gV G) = (as.map (gV G)).reverse ++ st'.map (gV G) := by
    rw [e2, e3, ← List.map_reverse, List.reverse_reverse, ← List.map_append, List.take_append_drop]
  obtain ⟨okq, inc1, inc2, hr1⟩ := mR_inv _ _ _ _ _ _ _ hq ok (fun v hv => by cases hv)
  refine W_size (fun hz => ?_)
  have hsz := gHp_size hp h0 hc hz
  have hPic : ∀ U : State, U.heap = H → s.WarmedH U.vm → gPic G h U := fun U hU hW => ⟨by rw [hU]; exact hsz, by rw [hU]; exact hP, hD, va_K.moved hW.alike hK, gEnv_go hE hS hU hW⟩
  have hrest := st_sum (G := G) e5
  have hroom : cells + (q.2.1.1 - h.1.1) ≤ R.cells ∧ slots + (q.2.1.2.1 - h.1.2.1) ≤ R.slots := ⟨by omega, by omega⟩
  have hCF : CallFix p m c (mC z) (mN z) s args aw (mCN (mRc z)) := ⟨hx, hb, hml, hown, hts⟩
  have goA : ∀ {rest : List Value}, rest = st'.map (gV G) → ∀ {aa : Array Value}, kLen i = 3 → va_Run p l e R s m args below meth c H locs cells slots (q.2.1.1 - h.1.1) (q.2.1.2.1 - h.1.2.1) (F0 m pc ls (st.map (gV G))) rest (gQ G q aa) (gAt G) → W p l e R s m args below meth c H locs cells slots Q (F0 m pc ls (st.map (gV G))) := by
    intro rest hrst aa hk3 hrun
    refine m_after hrun hS okq (fun H1 locs1 hp1 => ?_)
    have h2 := kk H1 locs1 (cells + (q.2.1.1 - h.1.1)) (slots + (q.2.1.2.1 - h.1.2.1)) hp1 (by omega) (by omega)
    rw [hk3, List.map_append] at h2
    rw [hrst]
    have e6 : (q.1.map (gV G)).toList = q.1.toList.map (gV G) := by cases q.1 <;> rfl
    rw [e6]
    exact h2
  have base : kCal z a = true → i.2.2.1 = mAn a → ∀ {idx : Nat}, (Cond.methodLink (mCN (mRc z)) idx (mY a)).before args s = true →
      CallB R s args (mCN (mRc z)) idx (mY a) (mC a) (mN a) (mT a) (.code (mY a) (mC a) (mN a) (mT a) :: aw) { frames := mRk a, cells := q.2.1.1 - h.1.1, slots := q.2.1.2.1 - h.1.2.1, locals := mLo a } (q.2.1.1 - h.1.1) (q.2.1.2.1 - h.1.2.1) (if mKd a = 1 then mAn a else mAn a - 1) := by
    intro hcal hb2 idx hlink
    simp only [kCal, Bool.and_eq_true, decide_eq_true_eq] at hcal
    obtain ⟨⟨c1, c2⟩, c3⟩ := hcal
    obtain ⟨d1, d2, d3, d4, d5, d6, d7, d8⟩ := w_nm a c1
    have hcd : Cond.code (mY a) (mC a) (mN a) (mT a) ∈ aw := aw_at (hC a c1).1 rfl
    refine ⟨rfl, rfl, by show mRk a + 1 ≤ _; omega, by show _ + mLo a ≤ _; omega, fun w hw a' U hW => ?_, List.mem_cons_self, hts _ hcd, hts _ (aw_at (w_ini a c1) rfl), ⟨d3, d4⟩, fun sig hsig => ?_, hlink⟩
    · rcases List.mem_cons.mp hw with rfl | hw
      · exact word_at hW (aw_gd hcd) (hts _ hcd)
      · exact word_at hW (aw_gd hw) (hts _ hw)
    · rw [hsig] at d5
      exact (Option.some.inj d5).symm
  rcases hkind with ⟨k, o, as', hi, hv, has, ho⟩ | ⟨k, o, as', hi, hv, has, hrc⟩ | ⟨k, hi, hv⟩
  · -- a constructor
    obtain ⟨ins, a', b, v⟩ := i
    dsimp only at hi hv hlen e1 e2 e3 e4
    subst hi; subst e1
    simp only [kIns] at hk
    rw [if_neg hv] at hk
    simp only [Bool.and_eq_true, decide_eq_true_eq] at hk
    obtain ⟨⟨⟨k1, k2⟩, k3⟩, k4⟩ := hk
    obtain ⟨⟨q0, q1, q2, q3⟩, hq1, hq2⟩ := any_mem k1
    simp only [decide_eq_true_eq, Prod.mk.injEq] at hq2
    obtain ⟨rfl, rfl, rfl⟩ := hq2
    have hcal := k2
    simp only [kCal, Bool.and_eq_true, decide_eq_true_eq] at k2
    obtain ⟨⟨c1, c2⟩, c3⟩ := k2
    obtain ⟨d1, d2, d3, d4, d5, d6, d7, d8, d9⟩ := w_nm q3 c1
    have hnm : mNm q3 = mY q3 := by unfold mNm; rw [if_neg (by omega), if_neg (by omega), if_neg (by omega)]
    have hlk := hts _ (aw_at (w_ml _ hq1) rfl)
    dsimp only at hlk
    rw [hnm] at hlk
    have hin2 := w_inst q3 c1
    rw [if_neg (by omega)] at hin2
    have hMet := IH q3 c1 (by omega) f as h q hq (by rw [hlen, k3]) ok hasI
    have hB := base hcal k3 hlk
    rw [if_neg (by omega)] at hB
    rw [(d7 k4).2] at hB hMet
    have hasV : as.map (gV G) = .ref (gB G + o) :: as'.map (gV G) := by rw [has, List.map_cons, gV_lo ho]
    rw [hasV] at hMet
    have hcwI : CallB R s args (mCN (mRc z)) q2 (mY q3) (mC q3) (mN q3) none (.code (mY q3) (mC q3) (mN q3) none :: aw) { frames := mRk q3, cells := q.2.1.1 - h.1.1, slots := q.2.1.2.1 - h.1.2.1, locals := mLo q3 } (q.2.1.1 - h.1.1) (q.2.1.2.1 - h.1.2.1) (mAn q3 - 1) ∧ (mY q3).name = "<init>" ∧ (Cond.instanceMethod (mY q3)).before args s = true := ⟨hB, (d7 k4).1, hts _ (aw_at hin2 rfl)⟩
    refine goA rfl rfl (va_runI hCF hMet hcwI ⟨gPic_blind, fun U hU hW => ⟨rfl, hPic U hU hW⟩⟩ rfl ?_ hl.1 ?_ (lv_room hrest) hd hroom)
    · rw [List.length_map]; rw [has, List.length_cons] at hlen; omega
    · show st.map (gV G) = _
      rw [hsplit, hasV, List.reverse_cons, List.append_assoc]; rfl
  · -- a virtual call
    obtain ⟨ins, a', b, v⟩ := i
    dsimp only at hi hv hlen e1 e2 e3 e4
    subst hi; subst e1
    simp only [kIns] at hk
    rw [if_pos hv] at hk
    simp only [Bool.and_eq_true, decide_eq_true_eq] at hk
    obtain ⟨⟨⟨k1, k2⟩, k3⟩, k4⟩ := hk
    obtain ⟨⟨q0, q1, q2, q3⟩, hq1, hq2⟩ := any_mem k1
    simp only [decide_eq_true_eq, Prod.mk.injEq] at hq2
    obtain ⟨rfl, rfl, rfl⟩ := hq2
    have hcal := k2
    simp only [kCal, Bool.and_eq_true, decide_eq_true_eq] at k2
    obtain ⟨⟨c1, c2⟩, c3⟩ := k2
    obtain ⟨d1, d2, d3, d4, d5, d6, d7, d8, d9⟩ := w_nm q3 c1
    have hnm : mNm q3 = mY q3 := by unfold mNm; rw [if_neg (by omega), if_neg (by omega), if_neg (by omega)]
    have hlk := hts _ (aw_at (w_ml _ hq1) rfl)
    dsimp only at hlk
    rw [hnm] at hlk
    have hin2 := w_inst q3 c1
    rw [if_neg (by omega)] at hin2
    have hMet := IH q3 c1 (by omega) f as h q hq (by rw [hlen, k3]) ok hasI
    have hB := base hcal k3 hlk
    rw [if_neg (by omega)] at hB
    have hrcv : ∃ b0 : Nat, gV G (.ref o) = .ref b0 ∧ ∃ cellB : Cell, H[b0]? = some cellB ∧ cellB.vm.isStatics = false ∧ s.vm.findClass (mCN (mRc q3)) = some cellB.cls := by
      rcases hrc with ⟨r1, r2⟩ | ⟨r1, r2⟩
      · obtain ⟨g1, g2⟩ := gV_str (G := G) r2
        refine ⟨_, g1, ?_⟩
        rw [r1]
        exact vk_recv hE.1 g2 hS
      · obtain ⟨g1, g2⟩ := st_lt ok r1
        have he := gW_at (G := G) g1
        rw [gE_ob r1] at he
        exact ⟨_, gV_lo g2, va_recv hK hP (w_cls _ r2) he⟩
    obtain ⟨b0, hb0, hcell⟩ := hrcv
    have hasV : as.map (gV G) = .ref b0 :: as'.map (gV G) := by rw [has, List.map_cons, hb0]
    rw [hasV] at hMet
    have hcwV : CallW R s args (mCN (mRc z)) (mCN (mRc q3)) q2 (mY q3) (mC q3) (mN q3) (mT q3) (.code (mY q3) (mC q3) (mN q3) (mT q3) :: aw) { frames := mRk q3, cells := q.2.1.1 - h.1.1, slots := q.2.1.2.1 - h.1.2.1, locals := mLo q3 } (q.2.1.1 - h.1.1) (q.2.1.2.1 - h.1.2.1) (mAn q3 - 1) := ⟨hB, hts _ (aw_at hin2 rfl), hts _ (aw_at (w_sel q3 c1 k4) rfl)⟩
    refine goA rfl rfl (va_runV hCF hMet hcwV ⟨gPic_blind, hcell, fun U hU hW => ⟨rfl, hPic U hU hW⟩⟩ rfl ?_ hl.1 ?_ (lv_room hrest) hd hroom)
    · rw [List.length_map]; rw [has, List.length_cons] at hlen; omega
    · show st.map (gV G) = _
      rw [hsplit, hasV, List.reverse_cons, List.append_assoc]; rfl
  · -- a static call
    obtain ⟨ins, a1, b, v⟩ := i
    dsimp only at hi hv hlen e1 e2 e3 e4
    subst hi; subst e1
    simp only [kIns] at hk
    rw [if_pos hv] at hk
    simp only [Bool.and_eq_true, Bool.or_eq_true, decide_eq_true_eq] at hk
    obtain ⟨⟨⟨k1, k2⟩, k3⟩, k4⟩ := hk
    have hcal := k2
    simp only [kCal, Bool.and_eq_true, decide_eq_true_eq] at k2
    obtain ⟨⟨c1, c2⟩, c3⟩ := k2
    obtain ⟨d1, d2, d3, d4, d5, d6, d7, d8, d9⟩ := w_nm a c1
    have hnm : mNm a = mY a := by unfold mNm; rw [if_neg (by omega), if_neg (by omega), if_neg (by omega)]
    have hin2 := w_inst a c1
    rw [if_pos k4] at hin2
    have hMet := IH a c1 (by omega) f as h q hq (by rw [hlen, k3]) ok hasI
    have hstk : st.map (gV G) = (as.map (gV G)).reverse ++ st'.map (gV G) := hsplit
    rcases k1 with k1 | k1
    · obtain ⟨⟨q0, q1, q2, q3⟩, hq1, hq2⟩ := any_mem k1
      simp only [decide_eq_true_eq, Prod.mk.injEq] at hq2
      obtain ⟨rfl, rfl, rfl⟩ := hq2
      have hlk := hts _ (aw_at (w_ml _ hq1) rfl)
      dsimp only at hlk
      rw [hnm] at hlk
      have hB := base hcal k3 hlk
      rw [if_pos k4] at hB
      exact goA rfl rfl (va_runS hCF hMet ⟨hB, hts _ (aw_at hin2 rfl)⟩ ⟨gPic_blind, fun U hU hW => ⟨rfl, hPic U hU hW⟩⟩ rfl (by rw [List.length_map, hlen, k3]) hl.1 hstk (lv_room hrest) hd hroom)
    · obtain ⟨⟨q0, q1, q2, q3⟩, hq1, hq2⟩ := any_mem k1
      simp only [decide_eq_true_eq, Prod.mk.injEq] at hq2
      obtain ⟨rfl, rfl, rfl⟩ := hq2
      have hlk := va_Nw.use (A := args) rfl (hE.2.2.2.2.2.2.2.2.2.1 _ hq1)
      dsimp only at hlk
      rw [hnm] at hlk
      have hcd : Cond.code (mY q3) (mC q3) (mN q3) (mT q3) ∈ aw := aw_at (hC q3 c1).1 rfl
      rw [if_pos k4] at d5
      have hB : va_CN R s args (mCN (mRc z)) q2 (mY q3) "StretchSpool" (mC q3) (mN q3) (mT q3) (.code (mY q3) (mC q3) (mN q3) (mT q3) :: aw) { frames := mRk q3, cells := q.2.1.1 - h.1.1, slots := q.2.1.2.1 - h.1.2.1, locals := mLo q3 } (q.2.1.1 - h.1.1) (q.2.1.2.1 - h.1.2.1) (mAn q3) := by
        refine ⟨⟨rfl, rfl, by show mRk q3 + 1 ≤ _; omega, by show _ + mLo q3 ≤ _; omega, fun w hw a' U hW => ?_, List.mem_cons_self⟩, hts _ hcd, hts _ (aw_at (w_ini q3 c1) rfl), ⟨d3, d4⟩, fun sig hsig => ?_, hlk⟩
        · rcases List.mem_cons.mp hw with rfl | hw
          · exact word_at hW (aw_gd hcd) (hts _ hcd)
          · exact word_at hW (aw_gd hw) (hts _ hw)
        · rw [hsig] at d5
          exact (Option.some.inj d5).symm
      exact goA rfl rfl (va_runSN hCF hMet ⟨hB, hts _ (aw_at hin2 rfl), trivial⟩ ⟨gPic_blind, fun U hU hW => ⟨rfl, hPic U hU hW⟩⟩ rfl (by rw [List.length_map, hlen, k3]) hl.1 hstk (lv_room hrest) hd hroom)
end BD
