/-! ONE INSTRUCTION of the small machine is one of the machine's -/
theorem any_mem {α : Type} [DecidableEq α] {l : List α} {P : α → Bool} (h : l.any P = true) : ∃ q ∈ l, P q = true := List.any_eq_true.mp h
section ST
variable {p : Program} {l : Launch} {e : Env} {R : Room} {s : State} {m : MethodId} {args : Array Value} {below : List Frame} {meth : Method} {c : Code} {Q : State → Prop}
/-- what stands still within a method -/
def gCx (p : Program) (R : Room) (s : State) (m : MethodId) (args : Array Value) (meth : Method) (c : Code) (G : mG) (z n0 : Nat) : Prop :=
  p.tables.exec = Jvm.exec ∧ c.code = mC z ∧ c.maxLocals = mN z ∧ s.vm.findClass (mCN (mRc z)) = some m.cls ∧ (∀ w ∈ aw, w.before args s = true) ∧ va_K (gD G) vwCl (gTys G) s ∧ gEnv G s ∧ mRk z ≤ R.frames ∧ mLo z ≤ R.locals ∧ (mKd z = 2 → meth.name = "<init>") ∧ s.heap.size = gB G + n0
theorem st_sum {G : mG} {st : List Value} (h : st.length ≤ 4) : ((st.map (gV G)).map fun v => v.category).sum ≤ 8 := by
  have key : ∀ (l : List Value), (l.map fun v => v.category).sum ≤ 2 * l.length := by
    intro l
    induction l with
    | nil => simp
    | cons a l ih =>
      have := lv_cat a
      simp only [List.map_cons, List.sum_cons, List.length_cons]
      omega
  have := key (st.map (gV G))
  rw [List.length_map] at this
  omega
set_option maxHeartbeats 40000000 in
set_option maxRecDepth 100000 in
theorem snd_nx {G : mG} {z n0 s0 : Nat} (X : gCx p R s m args meth c G z n0) {i : mIns} {L st L' st' : List Value} {h h' : mH} (hs : mStep mRc i L st h = .inl (L', st', h')) {pc : Nat} (hd : decode (mC z) pc = .ok (i.1, kLen i)) (hk : kIns z pc i = true)
    {ls : Array Slot} {H : Heap} {locs : List Loc} {cells slots : Nat} (hl : lv_has ls (mN z) (gLs G L)) (hp : gHp G h s H locs) (hc : h.1.1 = n0 + cells) (hsl : h.1.2.1 = s0 + slots) (hcR : h'.1.1 ≤ n0 + R.cells) (hsR : h'.1.2.1 ≤ s0 + R.slots) (hst : ∀ v ∈ st, mIR v)
    (kk : ∀ (ls' : Array Slot) (H' : Heap) (locs' : List Loc) (cells' slots' : Nat), lv_has ls' (mN z) (gLs G L') → gHp G h' s H' locs' → h'.1.1 = n0 + cells' → h'.1.2.1 = s0 + slots' → W p l e R s m args below meth c H' locs' cells' slots' Q (F0 m (pc + kLen i) ls' (st'.map (gV G)))) :
    W p l e R s m args below meth c H locs cells slots Q (F0 m pc ls (st.map (gV G))) := by
  obtain ⟨hx, hb, hml, hown, hts, hK, hE, hRf, hRl, hin, h0⟩ := X
  have hF := hE.2.2.2.2.1
  obtain ⟨hP, hD, hS, ok⟩ := id hp
  have hA : ∀ q : Nat, s.heap.size ≤ q → gA G q := fun q hq => by show gB G ≤ q; omega
  have hok' := (mStep_inv hs ok hst).1.1
  obtain ⟨ins, a, b, v⟩ := i
  cases ins
  case iconst n => simp only [mStep] at hs; cases hs; simp only [kIns, decide_eq_true_eq] at hk; exact lv_iconst hx hb hd hk (kk _ _ _ _ _ hl hp hc hsl)
  case bipush n => simp only [mStep] at hs; cases hs; simp only [kIns, decide_eq_true_eq] at hk; exact lv_bipush hx hb hd hk (kk _ _ _ _ _ hl hp hc hsl)
  case sipush n => simp only [mStep] at hs; cases hs; simp only [kIns, decide_eq_true_eq] at hk; exact lv_sipush hx hb hd hk (kk _ _ _ _ _ hl hp hc hsl)
  case iload_n => simp only [mStep] at hs; split at hs <;> cases hs; rename_i hv; simp only [kIns, decide_eq_true_eq] at hk; exact lv_iload_n hx hb hd hk (gLs_at hl hv iv_i) (kk _ _ _ _ _ hl hp hc hsl)
  case iload => simp only [mStep] at hs; split at hs <;> cases hs; rename_i hv; simp only [kIns, decide_eq_true_eq] at hk; subst hk; exact lv_iload hx hb hd (gLs_at hl hv iv_i) (kk _ _ _ _ _ hl hp hc hsl)
  case aload_n =>
    simp only [mStep] at hs; split at hs <;> cases hs
    rename_i x hv; simp only [kIns, decide_eq_true_eq] at hk
    have h1 := gLs_at hl hv iv_r
    have h2 := kk _ _ _ _ _ hl hp hc hsl
    rw [List.map_cons] at h2
    rcases gV_ref hF x with q | ⟨t, q⟩
    · rw [q] at h1 h2; exact lv_aload_nN hx hb hd hk h1 h2
    · rw [q] at h1 h2; exact lv_aload_n hx hb hd hk h1 h2
  case aload =>
    simp only [mStep] at hs; split at hs <;> cases hs
    rename_i x hv; simp only [kIns, decide_eq_true_eq] at hk
    subst hk
    have h1 := gLs_at hl hv iv_r
    have h2 := kk _ _ _ _ _ hl hp hc hsl
    rw [List.map_cons] at h2
    rcases gV_ref hF x with q | ⟨t, q⟩
    · rw [q] at h1 h2; exact lv_aloadN hx hb hd h1 h2
    · rw [q] at h1 h2; exact lv_aload hx hb hd h1 h2
  case istore_n => simp only [mStep] at hs; split at hs <;> cases hs; simp only [kIns, decide_eq_true_eq, Bool.and_eq_true] at hk; exact lv_istore_n hx hb hd hk.1 hl hk.2 rfl (fun ls' hl' => kk _ _ _ _ _ (lv_mem hl' (gLs_set hF)) hp hc hsl)
  case istore => simp only [mStep] at hs; split at hs <;> cases hs; simp only [kIns, decide_eq_true_eq, Bool.and_eq_true] at hk; obtain ⟨rfl, hk⟩ := hk; exact lv_istore hx hb hd hl hk rfl (fun ls' hl' => kk _ _ _ _ _ (lv_mem hl' (gLs_set hF)) hp hc hsl)
  case astore_n =>
    simp only [mStep] at hs; split at hs <;> cases hs
    rename_i x; simp only [kIns, decide_eq_true_eq, Bool.and_eq_true] at hk
    have h1 := gLs_set (G := G) (L := L) (a := a) (v := .ref x) hF
    rw [List.map_cons]
    rcases gV_ref hF x with q | ⟨t, q⟩
    · rw [q] at h1 ⊢; exact lv_astore_nN hx hb hd hk.1 hl hk.2 rfl (fun ls' hl' => kk _ _ _ _ _ (lv_mem hl' h1) hp hc hsl)
    · rw [q] at h1 ⊢; exact lv_astore_n hx hb hd hk.1 hl hk.2 rfl (fun ls' hl' => kk _ _ _ _ _ (lv_mem hl' h1) hp hc hsl)
  case astore ix =>
    simp only [mStep] at hs; split at hs <;> cases hs
    rename_i x; simp only [kIns, decide_eq_true_eq, Bool.and_eq_true] at hk
    obtain ⟨ha, hk⟩ := hk
    subst ha
    have h1 := gLs_set (G := G) (L := L) (a := ix) (v := .ref x) hF
    rw [List.map_cons]
    rcases gV_ref hF x with q | ⟨t, q⟩
    · rw [q] at h1 ⊢; exact lv_astoreN hx hb hd hl hk rfl (fun ls' hl' => kk _ _ _ _ _ (lv_mem hl' h1) hp hc hsl)
    · rw [q] at h1 ⊢; exact lv_astore hx hb hd hl hk rfl (fun ls' hl' => kk _ _ _ _ _ (lv_mem hl' h1) hp hc hsl)
  case iinc =>
    simp only [mStep] at hs; split at hs <;> cases hs
    rename_i x hv; simp only [kIns, decide_eq_true_eq, Bool.and_eq_true] at hk
    obtain ⟨⟨rfl, hk1⟩, hk2⟩ := hk
    obtain ⟨j, hj⟩ := List.getElem?_of_mem (gLs_mem (G := G).mpr ⟨_, hv, iv_i, rfl⟩)
    exact lv_iinc (v := x + v) hx hb hd hl hj (by rw [hk1]) hk2 rfl (fun ls' hl' => kk _ _ _ _ _ (lv_mem hl' (gLs_set hF)) hp hc hsl)
  case iadd => simp only [mStep] at hs; split at hs <;> cases hs; exact lv_iadd hx hb hd (kk _ _ _ _ _ hl hp hc hsl)
  case isub => simp only [mStep] at hs; split at hs <;> cases hs; exact lv_isub hx hb hd (kk _ _ _ _ _ hl hp hc hsl)
  case imul => simp only [mStep] at hs; split at hs <;> cases hs; exact lv_imul hx hb hd (kk _ _ _ _ _ hl hp hc hsl)
  case iand => simp only [mStep] at hs; split at hs <;> cases hs; exact lv_iand hx hb hd (kk _ _ _ _ _ hl hp hc hsl)
  case ishr => simp only [mStep] at hs; split at hs <;> cases hs; exact lv_ishr hx hb hd (kk _ _ _ _ _ hl hp hc hsl)
  case idiv =>
    simp only [mStep] at hs
    split at hs
    · split at hs <;> cases hs
      rename_i hn
      exact lv_idiv hx hb hd hn (kk _ _ _ _ _ hl hp hc hsl)
    · cases hs
  case i2c => simp only [mStep] at hs; split at hs <;> cases hs; exact lv_i2c hx hb hd rfl (kk _ _ _ _ _ hl hp hc hsl)
  case dup =>
    simp only [mStep] at hs
    split at hs
    · cases hs; exact lv_dup hx hb hd rfl (kk _ _ _ _ _ hl hp hc hsl)
    · cases hs; exact lv_dup hx hb hd (gV_cat hF iv_r) (kk _ _ _ _ _ hl hp hc hsl)
    · cases hs
  case dup2 => simp only [mStep] at hs; split at hs <;> cases hs; exact lv_dup2_11 hx hb hd rfl (gV_cat hF iv_r) (kk _ _ _ _ _ hl hp hc hsl)
  case pop => simp only [mStep] at hs; split at hs <;> cases hs; exact lv_pop hx hb hd rfl (kk _ _ _ _ _ hl hp hc hsl)
  case ifCond cnd off =>
    simp only [mStep] at hs
    split at hs
    · rename_i x st
      split at hs <;> cases hs
      rename_i hn
      simp only [kIns, decide_eq_true_eq] at hk
      cases cnd <;> simp only [mCmp, decide_eq_true_eq, Bool.not_eq_true', beq_eq_false_iff_ne, beq_iff_eq, ne_eq, Decidable.not_not, Bool.not_eq_true] at hn
      · exact lv_if_eq hx hb hd hk (fun q => absurd q (by first | exact hn | simpa using hn)) (fun _ => kk _ _ _ _ _ hl hp hc hsl)
      · exact lv_if_ne hx hb hd hk (fun q => absurd (by first | exact hn | simpa using hn) q) (fun _ => kk _ _ _ _ _ hl hp hc hsl)
      · exact lv_if_lt hx hb hd hk (fun q => absurd q hn) (fun _ => kk _ _ _ _ _ hl hp hc hsl)
      · exact lv_if_ge hx hb hd hk (fun q => absurd q hn) (fun _ => kk _ _ _ _ _ hl hp hc hsl)
      · exact lv_if_gt hx hb hd hk (fun q => absurd q hn) (fun _ => kk _ _ _ _ _ hl hp hc hsl)
      · exact lv_if_le hx hb hd hk (fun q => absurd q hn) (fun _ => kk _ _ _ _ _ hl hp hc hsl)
    · cases hs
  case if_icmp cnd off =>
    simp only [mStep] at hs
    split at hs
    · rename_i x y st
      split at hs <;> cases hs
      rename_i hn
      simp only [kIns, decide_eq_true_eq] at hk
      cases cnd <;> simp only [mCmp, decide_eq_true_eq, Bool.not_eq_true', beq_eq_false_iff_ne, beq_iff_eq, ne_eq, Decidable.not_not, Bool.not_eq_true] at hn
      · exact lv_icmp_eq hx hb hd hk (fun q => absurd q (by first | exact hn | simpa using hn)) (fun _ => kk _ _ _ _ _ hl hp hc hsl)
      · exact lv_icmp_ne hx hb hd hk (fun q => absurd (by first | exact hn | simpa using hn) q) (fun _ => kk _ _ _ _ _ hl hp hc hsl)
      · exact lv_icmp_lt hx hb hd hk (fun q => absurd q hn) (fun _ => kk _ _ _ _ _ hl hp hc hsl)
      · exact lv_icmp_ge hx hb hd hk (fun q => absurd q hn) (fun _ => kk _ _ _ _ _ hl hp hc hsl)
      · exact lv_icmp_gt hx hb hd hk (fun q => absurd q hn) (fun _ => kk _ _ _ _ _ hl hp hc hsl)
      · exact lv_icmp_le hx hb hd hk (fun q => absurd q hn) (fun _ => kk _ _ _ _ _ hl hp hc hsl)
    · cases hs
  case getfield idx =>
    sorry
  case putfield idx =>
    sorry
  case getstatic idx =>
    sorry
  case iaload =>
    sorry
  case caload =>
    sorry
  case baload =>
    sorry
  case iastore =>
    sorry
  case castore =>
    sorry
  case aaload =>
    sorry
  case aastore =>
    sorry
  case arraylength =>
    sorry
  case newarray t =>
    sorry
  case anewarray idx =>
    sorry
  case new idx =>
    sorry
  case invokespecial idx =>
    sorry
  case invokevirtual =>
    simp only [mStep] at hs
    split at hs
    · split at hs
      · split at hs <;> cases hs
      · cases hs
    · cases hs
  case invokestatic idx =>
    sorry
  case ldc idx =>
    sorry
  case ireturn =>
    simp only [mStep] at hs
    split at hs
    · split at hs <;> cases hs
    · cases hs
  case return_ => simp only [mStep] at hs; split at hs <;> cases hs
  case tableswitch => simp only [mStep] at hs; split at hs <;> cases hs
  all_goals (simp only [mStep] at hs; cases hs)
end ST
