/-! ONE INSTRUCTION of the small machine is one of the machine's -/
theorem any_mem {α : Type} [DecidableEq α] {l : List α} {P : α → Bool} (h : l.any P = true) : ∃ q ∈ l, P q = true := List.any_eq_true.mp h
section ST
variable {p : Program} {l : Launch} {e : Env} {R : Room} {s : State} {m : MethodId} {args : Array Value} {below : List Frame} {meth : Method} {c : Code} {Q : State → Prop}
/-- what stands still within a method -/
def gCx (p : Program) (R : Room) (s : State) (m : MethodId) (args : Array Value) (meth : Method) (c : Code) (G : mG) (z n0 : Nat) : Prop :=
  p.tables.exec = Jvm.exec ∧ c.code = mC z ∧ c.maxLocals = mN z ∧ s.vm.findClass (mCN (mRc z)) = some m.cls ∧ (∀ w ∈ aw, w.before args s = true) ∧ va_K (gD G) vwCl (gTys G) s ∧ gEnv G s ∧ mRk z ≤ R.frames ∧ mLo z ≤ R.locals ∧ (mKd z = 2 → meth.name = "<init>") ∧ s.heap.size = gB G + n0
theorem st_sum {G : mG} {st : List Value} (h : st.length ≤ 4) : ((st.map (gV G)).map fun v => v.category).sum ≤ 8 := by
  have key : ∀ (l : List Value), (l.map fun v => v.category).sum ≤ 2 * l.length := by
    intro l
    induction l with
    | nil => simp
    | cons a l ih =>
      have := lv_cat a
      simp only [List.map_cons, List.sum_cons, List.length_cons]
      omega
  have := key (st.map (gV G))
  rw [List.length_map] at this
  omega
section HLP
variable {G : mG} {z n0 : Nat} {h : mH} {H : Heap} {locs : List Loc} {cells slots : Nat} {ls : Array Slot} {pc : Nat} {rest : List Value}
theorem ar_1 (o : Nat) : o + 100000 - 1100000 = o - 1000000 := by omega
theorem st_lnk {own idx a b : Nat} {args : Array Value} (hE : gEnv G s) (hts : ∀ w ∈ aw, w.before args s = true) (hk : (mFL.any (fun q => decide (q.2 = (own, idx, a, b))) || mFN.any (fun q => decide (q.2 = (own, idx, a, b)))) = true) : (Cond.fieldLink (mCN own) idx (mTT a b).1 (mTT a b).2.1 (mTT a b).2.2.1).before args s = true ∨ (Cond.fieldLinkNest (mCN own) idx (mTT a b).1 (mTT a b).2.1 (mTT a b).2.2.1 "StretchSpool").before args s = true := by
  rw [Bool.or_eq_true] at hk
  rcases hk with hk | hk
  · obtain ⟨⟨q0, q1, q2, q3, q4⟩, hq, hq2⟩ := any_mem hk
    simp only [decide_eq_true_eq, Prod.mk.injEq] at hq2
    obtain ⟨rfl, rfl, rfl, rfl⟩ := hq2
    exact Or.inl (hts _ (aw_at (w_fl _ hq) rfl))
  · obtain ⟨⟨q0, q1, q2, q3, q4⟩, hq, hq2⟩ := any_mem hk
    simp only [decide_eq_true_eq, Prod.mk.injEq] at hq2
    obtain ⟨rfl, rfl, rfl, rfl⟩ := hq2
    exact Or.inr (va_Nw.use rfl (hE.2.2.2.2.2.2.2.2.1 _ hq))
theorem st_lt (ok : mOK G h) {o a : Nat} {k : Nat} (hsh : h.1.2.2.1 o = (k + 1, a)) : o < h.1.1 ∧ o < 1000000 := by
  have h1 := mOK_lt ok (k := o) (by rw [hsh]; intro q; cases q)
  have h2 := ok.1
  exact ⟨h1, by omega⟩
theorem st_lt2 (ok : mOK G h) {o : Nat} {k : Nat} (hsh : (h.1.2.2.1 o).1 = k + 1) : o < h.1.1 ∧ o < 1000000 := by
  have h1 := mOK_lt ok (k := o) (by intro q; rw [q] at hsh; cases hsh)
  have h2 := ok.1
  exact ⟨h1, by omega⟩
theorem mk_new {G : mG} {h : mH} {H1 : Heap} {q n0 cells : Nat} {x : va_E} (h0 : s.heap.size = gB G + n0) (hc : h.1.1 = n0 + cells) (g1 : va_P (gD G) vwCl (gW G h ++ [(q, x)]) H1) (g2 : va_D (gAt G) (gW G h ++ [(q, x)])) (hz : H1.size ≤ s.heap.size + (cells + 1)) : q = gB G + h.1.1 := by
  have e1 : (gW G h ++ [(q, x)])[h.1.1]? = some (q, x) := by rw [List.getElem?_append_right (by rw [gW_len]; exact Nat.le_refl _), gW_len, Nat.sub_self]; rfl
  have l1 := (g1 _ _ e1).lt
  have l2 : gB G ≤ q := g2.2 _ _ e1
  dsimp only at l1
  rcases Nat.lt_or_ge (q - gB G) h.1.1 with w | w
  · have e2 : (gW G h ++ [(q, x)])[q - gB G]? = some (gB G + (q - gB G), gE G h (q - gB G)) := by rw [List.getElem?_append_left (by rw [gW_len]; exact w), gW_at w]
    have := g2.1 _ _ _ _ e2 e1 (by dsimp only; omega)
    omega
  · omega
theorem mk_arr {G : mG} {c1 c2 : ClassId} {k : Nat} {ty : FieldType} (hK : va_K (gD G) vwCl (gTys G ++ [(c1, ty)]) s) (hk : (gTys G)[k]? = some (c2, ty)) : c1 = c2 := by
  have h1 := (hK.2 4 (c1, ty) rfl).2
  have h2 := (hK.2 k (c2, ty) (by rw [List.getElem?_append_left (List.getElem?_eq_some_iff.mp hk).1]; exact hk)).2
  cases ty
  case object C =>
    obtain ⟨_, _, _, _, _, e1⟩ := h1
    obtain ⟨_, _, _, _, _, e2⟩ := h2
    exact Option.some.inj (e1.symm.trans e2)
  all_goals exact Option.some.inj (h1.symm.trans h2)
theorem mk_cl {n : Int32} (h0 : 0 ≤ n) (h1 : n ≤ 100000) : n.toNatClampNeg ≤ 100000 := by
  have h2 := Int32.le_iff_toInt_le.mp h1
  have h3 : (100000 : Int32).toInt = 100000 := by decide
  rw [h3] at h2
  show n.toInt.toNat ≤ _
  omega
theorem st_get (X : gCx p R s m args meth c G z n0) (hp : gHp G h s H locs) {o a b idx : Nat} (hsh : h.1.2.2.1 o = (1, a)) (ha : a < 8) (hb' : b < mNf a) (hlk : (mFL.any (fun q => decide (q.2 = (mRc z, idx, a, b))) || mFN.any (fun q => decide (q.2 = (mRc z, idx, a, b)))) = true) (hd : decode (mC z) pc = .ok (.getfield idx, 3))
    (kk : W p l e R s m args below meth c H locs cells slots Q (F0 m (pc + 3) ls ((if mFk a b = 2 then va_rf ((h.2.1 o b).map (fun q => gB G + q)) else .int (h.2.2 o b)) :: rest))) : W p l e R s m args below meth c H locs cells slots Q (F0 m pc ls (gV G (.ref o) :: rest)) := by
  obtain ⟨hx, hb, hml, hown, hts, hK, hE, hRf, hRl, hin, h0⟩ := X
  obtain ⟨hP, hD, hS, ok⟩ := id hp
  obtain ⟨ho, ho2⟩ := st_lt ok hsh
  have he := gW_at (G := G) ho
  rw [gE_ob hsh] at he
  rw [gV_lo ho2]
  rcases st_lnk hE hts hlk with q | q
  · exact va_get hx hb hts (aw_lay ha) hown hK hP o he (w_cls a ha) b hb' q (fun x h => h) (gFs_at hb') hd kk
  · exact va_getN hx hb hts (aw_lay ha) hown hK hP o he (w_cls a ha) b hb' q (fun x h => h) (gFs_at hb') hd kk
theorem st_putI (X : gCx p R s m args meth c G z n0) (hp : gHp G h s H locs) {o a b idx : Nat} {x : Int32} (hsh : h.1.2.2.1 o = (1, a)) (ha : a < 8) (hb' : b < mNf a) (hlk : (mFL.any (fun q => decide (q.2 = (mRc z, idx, a, b))) || mFN.any (fun q => decide (q.2 = (mRc z, idx, a, b)))) = true) (hd : decode (mC z) pc = .ok (.putfield idx, 3))
    (hf : mFk a b = 0 ∨ (mFk a b = 1 ∧ (x = 0 ∨ x = 1)))
    (kk : ∀ (H' : Heap) (locs' : List Loc), va_P (gD G) vwCl (gW G (h.1, h.2.1, mSet h.2.2 o b x)) H' → va_D (gAt G) (gW G (h.1, h.2.1, mSet h.2.2 o b x)) → va_S (gAt G) s.heap H' locs' → W p l e R s m args below meth c H' locs' cells slots Q (F0 m (pc + 3) ls rest)) : W p l e R s m args below meth c H locs cells slots Q (F0 m pc ls (.int x :: gV G (.ref o) :: rest)) := by
  obtain ⟨hx, hb, hml, hown, hts, hK, hE, hRf, hRl, hin, h0⟩ := X
  obtain ⟨hP, hD, hS, ok⟩ := id hp
  obtain ⟨ho, ho2⟩ := st_lt ok hsh
  have he := gW_at (G := G) ho
  rw [gE_ob hsh] at he
  rw [gV_lo ho2]
  obtain ⟨f1, f2, f3, f4, f5, f6, f7⟩ := w_fty a ha b hb'
  have hnf : (mTT a b).2.2.2 = false := f5 (by rcases hf with q | q <;> omega)
  have hn2 : ¬ mFk a b = 2 := by rcases hf with q | q <;> omega
  have hty : ∃ ty : FieldType, parseFieldDescriptor (mTT a b).2.2.1 = some ty ∧ narrow ty (.int x) = .int x ∧ fits ty (.int x) = true := by
    rcases hf with q | ⟨q, q2⟩
    · exact ⟨.int, by rw [← f2 q]; exact f1, rfl, rfl⟩
    · refine ⟨.boolean, by rw [← f3 q]; exact f1, ?_⟩
      rcases q2 with rfl | rfl <;> decide
  obtain ⟨ty, t1, t2, t3⟩ := hty
  have e1 := gW_putI (G := G) (x := x) ho hsh hb' hn2
  rcases st_lnk hE hts hlk with q | q
  · refine va_put hx hb hts (aw_lay ha) (mTy a) (fun k hk => (w_fty a ha k hk).1) (w_fnm a ha) hown hK hP hD hS o he (w_cls a ha) b hb' q (fun x h => h) hnf t1 t2 t3 (by rw [gFs_len]; exact hb') hd (fun H1 locs1 g1 g2 g3 => ?_)
    rw [e1] at g1 g2
    exact kk H1 locs1 g1 g2 g3
  · refine va_putN hx hb hts (aw_lay ha) (mTy a) (fun k hk => (w_fty a ha k hk).1) (w_fnm a ha) hown hK hP hD hS o he (w_cls a ha) b hb' q (fun x h => h) hnf t1 t2 t3 (by rw [gFs_len]; exact hb') hd (fun H1 locs1 g1 g2 g3 => ?_)
    rw [e1] at g1 g2
    exact kk H1 locs1 g1 g2 g3
theorem st_putF (X : gCx p R s m args meth c G z n0) (hp : gHp G h s H locs) {o a b idx q : Nat} (hsh : h.1.2.2.1 o = (1, a)) (ha : a < 8) (hb' : b < mNf a) (hlk : mFL.any (fun q => decide (q.2 = (mRc z, idx, a, b))) = true) (hd : decode (mC z) pc = .ok (.putfield idx, 3))
    (hf : mFk a b = 2) (hz : mKd z = 2) (hza : mRc z = a) (hq : q < 500000)
    (kk : ∀ (H' : Heap) (locs' : List Loc), va_P (gD G) vwCl (gW G (h.1, mSetR h.2.1 o b (some q), h.2.2)) H' → va_D (gAt G) (gW G (h.1, mSetR h.2.1 o b (some q), h.2.2)) → va_S (gAt G) s.heap H' locs' → W p l e R s m args below meth c H' locs' cells slots Q (F0 m (pc + 3) ls rest)) : W p l e R s m args below meth c H locs cells slots Q (F0 m pc ls (gV G (.ref q) :: gV G (.ref o) :: rest)) := by
  obtain ⟨hx, hb, hml, hown, hts, hK, hE, hRf, hRl, hin, h0⟩ := X
  obtain ⟨hP, hD, hS, ok⟩ := id hp
  obtain ⟨ho, ho2⟩ := st_lt ok hsh
  have he := gW_at (G := G) ho
  rw [gE_ob hsh] at he
  rw [gV_lo ho2, gV_lo (show q < 1000000 by omega)]
  obtain ⟨f1, f2, f3, f4, f5, f6, f7⟩ := w_fty a ha b hb'
  have hty : narrow (mTy a b) (.ref (gB G + q)) = .ref (gB G + q) ∧ fits (mTy a b) (.ref (gB G + q)) = true := by
    have h1 := w_frf a ha b hb' hf
    revert h1
    cases mTy a b <;> simp [fits, narrow]
  have e1 := gW_putR (G := G) (q := q) ho hsh hb' hf
  obtain ⟨⟨q0, q1, q2, q3, q4⟩, hq1, hq2⟩ := any_mem hlk
  simp only [decide_eq_true_eq, Prod.mk.injEq] at hq2
  obtain ⟨rfl, rfl, rfl, rfl⟩ := hq2
  refine va_putF hx hb hts (aw_lay ha) (mTy q3) (fun k hk => (w_fty q3 ha k hk).1) (w_fnm q3 ha) hown hK hP hD hS o he (w_cls q3 ha) q4 hb' (hts _ (aw_at (w_fl _ hq1) rfl)) (fun x h => h) (f4 hf) (hin hz) (by rw [f7, hza]) f1 hty.1 hty.2 (by rw [gFs_len]; exact hb') hd (fun H1 locs1 g1 g2 g3 => ?_)
  rw [e1] at g1 g2
  exact kk H1 locs1 g1 g2 g3
end HLP
set_option maxHeartbeats 40000000 in
set_option maxRecDepth 100000 in
theorem snd_nx {G : mG} {z n0 s0 : Nat} (X : gCx p R s m args meth c G z n0) {i : mIns} {L st L' st' : List Value} {h h' : mH} (hs : mStep mRc i L st h = .inl (L', st', h')) {pc : Nat} (hd : decode (mC z) pc = .ok (i.1, kLen i)) (hk : kIns z pc i = true)
    {ls : Array Slot} {H : Heap} {locs : List Loc} {cells slots : Nat} (hl : lv_has ls (mN z) (gLs G L)) (hp : gHp G h s H locs) (hc : h.1.1 = n0 + cells) (hsl : h.1.2.1 = s0 + slots) (hcR : h'.1.1 ≤ n0 + R.cells) (hsR : h'.1.2.1 ≤ s0 + R.slots) (hst : ∀ v ∈ st, mIV v)
    (kk : ∀ (ls' : Array Slot) (H' : Heap) (locs' : List Loc) (cells' slots' : Nat), lv_has ls' (mN z) (gLs G L') → gHp G h' s H' locs' → h'.1.1 = n0 + cells' → h'.1.2.1 = s0 + slots' → W p l e R s m args below meth c H' locs' cells' slots' Q (F0 m (pc + kLen i) ls' (st'.map (gV G)))) :
    W p l e R s m args below meth c H locs cells slots Q (F0 m pc ls (st.map (gV G))) := by
  obtain ⟨hx, hb, hml, hown, hts, hK, hE, hRf, hRl, hin, h0⟩ := X
  have hF := hE.2.2.2.2.1
  obtain ⟨hP, hD, hS, ok⟩ := id hp
  have hA : ∀ q : Nat, s.heap.size ≤ q → gAt G q := fun q hq => by show gB G ≤ q; omega
  have hok' := (mStep_inv hs ok hst).1.1
  obtain ⟨ins, a, b, v⟩ := i
  cases ins
  case iconst n => simp only [mStep] at hs; cases hs; simp only [kIns, decide_eq_true_eq] at hk; exact lv_iconst hx hb hd hk (kk _ _ _ _ _ hl hp hc hsl)
  case bipush n => simp only [mStep] at hs; cases hs; simp only [kIns, decide_eq_true_eq] at hk; exact lv_bipush hx hb hd hk (kk _ _ _ _ _ hl hp hc hsl)
  case sipush n => simp only [mStep] at hs; cases hs; simp only [kIns, decide_eq_true_eq] at hk; exact lv_sipush hx hb hd hk (kk _ _ _ _ _ hl hp hc hsl)
  case iload_n => simp only [mStep] at hs; split at hs <;> cases hs; rename_i hv; simp only [kIns, decide_eq_true_eq] at hk; exact lv_iload_n hx hb hd hk (gLs_at hl hv iv_i) (kk _ _ _ _ _ hl hp hc hsl)
  case iload => simp only [mStep] at hs; split at hs <;> cases hs; rename_i hv; simp only [kIns, decide_eq_true_eq] at hk; subst hk; exact lv_iload hx hb hd (gLs_at hl hv iv_i) (kk _ _ _ _ _ hl hp hc hsl)
  case aload_n =>
    simp only [mStep] at hs; split at hs <;> cases hs
    rename_i x hv; simp only [kIns, decide_eq_true_eq] at hk
    have h1 := gLs_at hl hv iv_r
    have h2 := kk _ _ _ _ _ hl hp hc hsl
    rw [List.map_cons] at h2
    rcases gV_ref hF x with q | ⟨t, q⟩
    · rw [q] at h1 h2; exact lv_aload_nN hx hb hd hk h1 h2
    · rw [q] at h1 h2; exact lv_aload_n hx hb hd hk h1 h2
  case aload =>
    simp only [mStep] at hs; split at hs <;> cases hs
    rename_i x hv; simp only [kIns, decide_eq_true_eq] at hk
    subst hk
    have h1 := gLs_at hl hv iv_r
    have h2 := kk _ _ _ _ _ hl hp hc hsl
    rw [List.map_cons] at h2
    rcases gV_ref hF x with q | ⟨t, q⟩
    · rw [q] at h1 h2; exact lv_aloadN hx hb hd h1 h2
    · rw [q] at h1 h2; exact lv_aload hx hb hd h1 h2
  case istore_n => simp only [mStep] at hs; split at hs <;> cases hs; simp only [kIns, decide_eq_true_eq, Bool.and_eq_true] at hk; exact lv_istore_n hx hb hd hk.1 hl hk.2 rfl (fun ls' hl' => kk _ _ _ _ _ (lv_mem hl' (gLs_set hF iv_i)) hp hc hsl)
  case istore => simp only [mStep] at hs; split at hs <;> cases hs; simp only [kIns, decide_eq_true_eq, Bool.and_eq_true] at hk; obtain ⟨rfl, hk⟩ := hk; exact lv_istore hx hb hd hl hk rfl (fun ls' hl' => kk _ _ _ _ _ (lv_mem hl' (gLs_set hF iv_i)) hp hc hsl)
  case astore_n =>
    simp only [mStep] at hs; split at hs <;> cases hs
    rename_i x; simp only [kIns, decide_eq_true_eq, Bool.and_eq_true] at hk
    have h1 := gLs_set (G := G) (L := L) (a := a) (v := .ref x) hF iv_r
    rw [List.map_cons]
    rcases gV_ref hF x with q | ⟨t, q⟩
    · rw [q] at h1 ⊢; exact lv_astore_nN hx hb hd hk.1 hl hk.2 rfl (fun ls' hl' => kk _ _ _ _ _ (lv_mem hl' h1) hp hc hsl)
    · rw [q] at h1 ⊢; exact lv_astore_n hx hb hd hk.1 hl hk.2 rfl (fun ls' hl' => kk _ _ _ _ _ (lv_mem hl' h1) hp hc hsl)
  case astore ix =>
    simp only [mStep] at hs; split at hs <;> cases hs
    rename_i x; simp only [kIns, decide_eq_true_eq, Bool.and_eq_true] at hk
    obtain ⟨ha, hk⟩ := hk
    subst ha
    have h1 := gLs_set (G := G) (L := L) (a := ix) (v := .ref x) hF iv_r
    rw [List.map_cons]
    rcases gV_ref hF x with q | ⟨t, q⟩
    · rw [q] at h1 ⊢; exact lv_astoreN hx hb hd hl hk rfl (fun ls' hl' => kk _ _ _ _ _ (lv_mem hl' h1) hp hc hsl)
    · rw [q] at h1 ⊢; exact lv_astore hx hb hd hl hk rfl (fun ls' hl' => kk _ _ _ _ _ (lv_mem hl' h1) hp hc hsl)
  case iinc =>
    simp only [mStep] at hs; split at hs <;> cases hs
    rename_i x hv; simp only [kIns, decide_eq_true_eq, Bool.and_eq_true] at hk
    obtain ⟨⟨rfl, hk1⟩, hk2⟩ := hk
    obtain ⟨j, hj⟩ := List.getElem?_of_mem (gLs_mem (G := G).mpr ⟨_, hv, Or.inl iv_i, rfl⟩)
    exact lv_iinc (v := x + v) hx hb hd hl hj (by rw [hk1]) hk2 rfl (fun ls' hl' => kk _ _ _ _ _ (lv_mem hl' (gLs_set hF iv_i)) hp hc hsl)
  case iadd => simp only [mStep] at hs; split at hs <;> cases hs; exact lv_iadd hx hb hd (kk _ _ _ _ _ hl hp hc hsl)
  case isub => simp only [mStep] at hs; split at hs <;> cases hs; exact lv_isub hx hb hd (kk _ _ _ _ _ hl hp hc hsl)
  case imul => simp only [mStep] at hs; split at hs <;> cases hs; exact lv_imul hx hb hd (kk _ _ _ _ _ hl hp hc hsl)
  case iand => simp only [mStep] at hs; split at hs <;> cases hs; exact lv_iand hx hb hd (kk _ _ _ _ _ hl hp hc hsl)
  case ishr => simp only [mStep] at hs; split at hs <;> cases hs; exact lv_ishr hx hb hd (kk _ _ _ _ _ hl hp hc hsl)
  case idiv =>
    simp only [mStep] at hs
    split at hs
    · split at hs <;> cases hs
      rename_i hn
      exact lv_idiv hx hb hd hn (kk _ _ _ _ _ hl hp hc hsl)
    · cases hs
  case irem =>
    simp only [mStep] at hs
    split at hs
    · split at hs <;> cases hs
      rename_i hn
      exact lv_irem hx hb hd hn (kk _ _ _ _ _ hl hp hc hsl)
    · cases hs
  case i2l => simp only [mStep] at hs; split at hs <;> cases hs; exact lv_i2l hx hb hd rfl (kk _ _ _ _ _ hl hp hc hsl)
  case ladd => simp only [mStep] at hs; split at hs <;> cases hs; exact lv_ladd hx hb hd (kk _ _ _ _ _ hl hp hc hsl)
  case lmul => simp only [mStep] at hs; split at hs <;> cases hs; exact lv_lmul hx hb hd (kk _ _ _ _ _ hl hp hc hsl)
  case lcmp => simp only [mStep] at hs; split at hs <;> cases hs; exact W.lcmp hx hb hd (kk _ _ _ _ _ hl hp hc hsl)
  case lload_n => simp only [mStep] at hs; split at hs <;> cases hs; rename_i hv hn; simp only [kIns, decide_eq_true_eq] at hk; exact lv_lload_n hx hb hd hk (gLs_atL hl hv hn) (kk _ _ _ _ _ hl hp hc hsl)
  case lload => simp only [mStep] at hs; split at hs <;> cases hs; rename_i hv hn; simp only [kIns, decide_eq_true_eq] at hk; subst hk; exact lv_lload hx hb hd (gLs_atL hl hv hn) (kk _ _ _ _ _ hl hp hc hsl)
  case lstore_n => simp only [mStep] at hs; split at hs <;> cases hs; simp only [kIns, decide_eq_true_eq, Bool.and_eq_true] at hk; exact lv_lstore_n hx hb hd hk.1 hl hk.2 rfl (fun ls' hl' => kk _ _ _ _ _ (lv_mem hl' (gLs_set2 hF)) hp hc hsl)
  case lstore => simp only [mStep] at hs; split at hs <;> cases hs; simp only [kIns, decide_eq_true_eq, Bool.and_eq_true] at hk; obtain ⟨rfl, hk⟩ := hk; exact lv_lstore hx hb hd hl hk rfl (fun ls' hl' => kk _ _ _ _ _ (lv_mem hl' (gLs_set2 hF)) hp hc hsl)
  case ldc2_w idx =>
    simp only [mStep] at hs; cases hs
    simp only [kIns] at hk
    obtain ⟨⟨q0, q1, q2, q3⟩, hq, hq2⟩ := any_mem hk
    simp only [decide_eq_true_eq, Prod.mk.injEq] at hq2
    obtain ⟨rfl, rfl, rfl⟩ := hq2
    exact lv_ldc2 hx hb hown (hts _ (aw_at (w_kj _ hq) rfl)) hd (kk _ _ _ _ _ hl hp hc hsl)
  case lreturn => simp only [mStep] at hs; split at hs <;> cases hs
  case i2c => simp only [mStep] at hs; split at hs <;> cases hs; exact lv_i2c hx hb hd rfl (kk _ _ _ _ _ hl hp hc hsl)
  case dup =>
    simp only [mStep] at hs
    split at hs
    · cases hs; exact lv_dup hx hb hd rfl (kk _ _ _ _ _ hl hp hc hsl)
    · cases hs; exact lv_dup hx hb hd (gV_cat hF iv_r) (kk _ _ _ _ _ hl hp hc hsl)
    · cases hs
  case dup2 => simp only [mStep] at hs; split at hs <;> cases hs; exact lv_dup2_11 hx hb hd rfl (gV_cat hF iv_r) (kk _ _ _ _ _ hl hp hc hsl)
  case pop => simp only [mStep] at hs; split at hs <;> cases hs; exact lv_pop hx hb hd rfl (kk _ _ _ _ _ hl hp hc hsl)
  case ifCond cnd off =>
    simp only [mStep] at hs
    split at hs
    · rename_i x st
      split at hs <;> cases hs
      rename_i hn
      simp only [kIns, decide_eq_true_eq] at hk
      cases cnd <;> simp only [mCmp, decide_eq_true_eq, Bool.not_eq_true', beq_eq_false_iff_ne, beq_iff_eq, ne_eq, Decidable.not_not, Bool.not_eq_true] at hn
      · exact lv_if_eq hx hb hd hk (fun q => absurd q (by first | exact hn | simpa using hn)) (fun _ => kk _ _ _ _ _ hl hp hc hsl)
      · exact lv_if_ne hx hb hd hk (fun q => absurd (by first | exact hn | simpa using hn) q) (fun _ => kk _ _ _ _ _ hl hp hc hsl)
      · exact lv_if_lt hx hb hd hk (fun q => absurd q hn) (fun _ => kk _ _ _ _ _ hl hp hc hsl)
      · exact lv_if_ge hx hb hd hk (fun q => absurd q hn) (fun _ => kk _ _ _ _ _ hl hp hc hsl)
      · exact lv_if_gt hx hb hd hk (fun q => absurd q hn) (fun _ => kk _ _ _ _ _ hl hp hc hsl)
      · exact lv_if_le hx hb hd hk (fun q => absurd q hn) (fun _ => kk _ _ _ _ _ hl hp hc hsl)
    · cases hs
  case if_icmp cnd off =>
    simp only [mStep] at hs
    split at hs
    · rename_i x y st
      split at hs <;> cases hs
      rename_i hn
      simp only [kIns, decide_eq_true_eq] at hk
      cases cnd <;> simp only [mCmp, decide_eq_true_eq, Bool.not_eq_true', beq_eq_false_iff_ne, beq_iff_eq, ne_eq, Decidable.not_not, Bool.not_eq_true] at hn
      · exact lv_icmp_eq hx hb hd hk (fun q => absurd q (by first | exact hn | simpa using hn)) (fun _ => kk _ _ _ _ _ hl hp hc hsl)
      · exact lv_icmp_ne hx hb hd hk (fun q => absurd (by first | exact hn | simpa using hn) q) (fun _ => kk _ _ _ _ _ hl hp hc hsl)
      · exact lv_icmp_lt hx hb hd hk (fun q => absurd q hn) (fun _ => kk _ _ _ _ _ hl hp hc hsl)
      · exact lv_icmp_ge hx hb hd hk (fun q => absurd q hn) (fun _ => kk _ _ _ _ _ hl hp hc hsl)
      · exact lv_icmp_gt hx hb hd hk (fun q => absurd q hn) (fun _ => kk _ _ _ _ _ hl hp hc hsl)
      · exact lv_icmp_le hx hb hd hk (fun q => absurd q hn) (fun _ => kk _ _ _ _ _ hl hp hc hsl)
    · cases hs
  case getfield idx =>
    simp only [mStep] at hs
    split at hs
    · rename_i o st
      rw [List.map_cons]
      simp only [kIns] at hk
      split at hs
      · rename_i h4
        split at hs <;> cases hs
        rename_i hm
        rw [if_pos h4] at hk
        obtain ⟨⟨q0, q1, q2, q3⟩, hq, hq2⟩ := any_mem hk
        simp only [decide_eq_true_eq, Prod.mk.injEq] at hq2
        obtain ⟨rfl, rfl, rfl⟩ := hq2
        obtain ⟨e1, e2⟩ := gV_str (G := G) hm
        have e3 : gV G (.ref (o + 100000)) = .ref (gSs G (o - 1000000)) := by
          have e4 := (gV_stb (G := G) (k := o + 100000) (by simp only [mStr, mStB, Bool.and_eq_true, decide_eq_true_eq] at hm ⊢; omega)).1
          rw [e4, ar_1 o]
        have h2 := kk _ _ _ _ _ hl hp hc hsl
        rw [List.map_cons, e3] at h2
        rw [e1]
        exact vk_getf hx hb (hE.1.1 _ e2).2.2.1 hS hown (hts _ (aw_at (w_sl _ hq) rfl)) (fun x h => h) hd h2
      · rename_i h4
        split at hs
        · rename_i h5
          split at hs <;> cases hs
          rename_i hm
          rw [if_neg h4, if_pos h5] at hk
          obtain ⟨⟨q0, q1, q2, q3⟩, hq, hq2⟩ := any_mem hk
          simp only [decide_eq_true_eq, Prod.mk.injEq] at hq2
          obtain ⟨rfl, rfl, rfl⟩ := hq2
          obtain ⟨e1, e2⟩ := gV_str (G := G) hm
          rw [e1]
          exact vk_getf hx hb (hE.1.1 _ e2).2.1 hS hown (hts _ (aw_at (w_sl _ hq) rfl)) (fun x h => h) hd (kk _ _ _ _ _ hl hp hc hsl)
        · rename_i h5
          rw [if_neg h4, if_neg h5] at hk
          simp only [Bool.and_eq_true, decide_eq_true_eq] at hk
          obtain ⟨⟨⟨k1, k2⟩, k3⟩, k4⟩ := hk
          split at hs
          · rename_i hsh
            refine st_get (z := z) (n0 := n0) ⟨hx, hb, hml, hown, hts, hK, hE, hRf, hRl, hin, h0⟩ hp hsh k2 k3 k1 hd ?_
            split at hs
            · rename_i hv2
              rw [if_pos (k4.mp hv2)]
              split at hs
              · rename_i r hr
                cases hs
                rw [hr]
                have h2 := kk _ _ _ _ _ hl hp hc hsl
                rw [List.map_cons, gV_lo (show r < 1000000 by have := ok.2.2.1 _ _ _ hr; omega)] at h2
                exact h2
              · cases hs
            · rename_i hv2
              rw [if_neg (fun q => hv2 (k4.mpr q))]
              cases hs
              exact kk _ _ _ _ _ hl hp hc hsl
          · cases hs
    · cases hs
  case putfield idx =>
    simp only [mStep] at hs
    simp only [kIns, Bool.and_eq_true, decide_eq_true_eq] at hk
    obtain ⟨⟨⟨k1, k2⟩, k3⟩, k4⟩ := hk
    split at hs
    · split at hs
      · rename_i x o st hcnd
        cases hs
        rw [List.map_cons, List.map_cons]
        refine st_putI (z := z) (n0 := n0) ⟨hx, hb, hml, hown, hts, hK, hE, hRf, hRl, hin, h0⟩ hp hcnd.1 k2 k3 k1 hd ?_ (fun H' locs' g1 g2 g3 => kk _ _ _ _ _ hl ⟨g1, g2, g3, hok'⟩ hc hsl)
        rcases hcnd.2 with q | ⟨q, q2⟩
        · rw [if_pos q] at k4; simp only [decide_eq_true_eq] at k4; exact Or.inl k4
        · rw [if_neg (by rw [q]; decide), if_pos q] at k4; simp only [decide_eq_true_eq] at k4; exact Or.inr ⟨k4, q2⟩
      · cases hs
    · split at hs
      · rename_i q o st hcnd
        cases hs
        rw [List.map_cons, List.map_cons]
        obtain ⟨c1, c2, c3⟩ := hcnd
        rw [if_neg (by rw [c2]; decide), if_neg (by rw [c2]; decide)] at k4
        simp only [Bool.and_eq_true, decide_eq_true_eq] at k4
        obtain ⟨⟨⟨⟨j1, j2⟩, j3⟩, j4⟩, j5⟩ := k4
        exact st_putF (z := z) (n0 := n0) ⟨hx, hb, hml, hown, hts, hK, hE, hRf, hRl, hin, h0⟩ hp c1 k2 k3 j5 hd j2 j3 j4 c3 (fun H' locs' g1 g2 g3 => kk _ _ _ _ _ hl ⟨g1, g2, g3, hok'⟩ hc hsl)
      · cases hs
    · cases hs
  case getstatic idx =>
    simp only [mStep] at hs
    simp only [kIns] at hk
    split at hs
    · rename_i hv
      cases hs
      rw [if_pos hv] at hk
      obtain ⟨⟨q0, q1, q2, q3⟩, hq, hq2⟩ := any_mem hk
      simp only [decide_eq_true_eq, Prod.mk.injEq] at hq2
      obtain ⟨rfl, rfl, rfl⟩ := hq2
      exact va_gets hx hb hE.2.2.1 hS hown (hts _ (aw_at (w_st _ hq) rfl)) (fun x h => h) hd (kk _ _ _ _ _ hl hp hc hsl)
    · rename_i hv
      split at hs <;> cases hs
      rw [if_neg hv] at hk
      obtain ⟨⟨q0, q1, q2, q3⟩, hq, hq2⟩ := any_mem hk
      simp only [decide_eq_true_eq, Prod.mk.injEq] at hq2
      obtain ⟨rfl, rfl, rfl⟩ := hq2
      exact va_gets hx hb hE.2.2.2.1 hS hown (hts _ (aw_at (w_st _ hq) rfl)) (fun x h => h) hd (kk _ _ _ _ _ hl hp hc hsl)
  case iaload =>
    simp only [mStep] at hs
    split at hs
    · rename_i i o st
      rw [List.map_cons, List.map_cons]
      split at hs
      · split at hs <;> cases hs
        rename_i hcnd
        obtain ⟨rfl, hi⟩ := hcnd
        have hxs := ok.2.2.2
        have h2 := kk _ _ _ _ _ hl hp hc hsl
        rw [hxs] at hi h2
        rw [gV_scr]
        exact va_sld hx hb hE.2.2.2.2.2.1 (by have := hE.2.2.2.2.2.2.1; have := hE.2.2.2.2.2.2.2.1; omega) (fun q => by have := hE.2.2.2.2.2.2.1; exact absurd q (by show ¬ gB G ≤ _; omega)) hS (mIn_vp hi) hd h2
      · split at hs <;> cases hs
        rename_i hcnd
        obtain ⟨ho, ho2⟩ := st_lt2 ok hcnd.1
        have he := gW_at (G := G) ho
        rw [gE_ia hcnd.1] at he
        rw [gV_lo ho2]
        exact va_iald hx hb hK hP o 0 he rfl (mIn_vp hcnd.2) hd (kk _ _ _ _ _ hl hp hc hsl)
    · cases hs
  case caload =>
    simp only [mStep] at hs
    split at hs
    · rename_i i o st
      rw [List.map_cons, List.map_cons]
      split at hs <;> cases hs
      rename_i hcnd
      obtain ⟨ho, ho2⟩ := st_lt2 ok hcnd.1
      have he := gW_at (G := G) ho
      rw [gE_ca hcnd.1] at he
      rw [gV_lo ho2]
      exact va_cald hx hb hK hP o 1 he rfl (mIn_vp hcnd.2) hd (kk _ _ _ _ _ hl hp hc hsl)
    · cases hs
  case baload =>
    simp only [mStep] at hs
    split at hs
    · rename_i i o st
      rw [List.map_cons, List.map_cons]
      split at hs <;> cases hs
      rename_i hcnd
      obtain ⟨e1, e2⟩ := gV_stb (G := G) hcnd.1
      rw [e1]
      exact va_tb hx hb (hE.1.1 _ e2).2.2.2 hS (mIn_vp hcnd.2) rfl hd (kk _ _ _ _ _ hl hp hc hsl)
    · cases hs
  case iastore =>
    simp only [mStep] at hs
    split at hs
    · rename_i x i o st
      rw [List.map_cons, List.map_cons, List.map_cons]
      split at hs <;> cases hs
      rename_i hcnd
      obtain ⟨ho, ho2⟩ := st_lt2 ok hcnd.1
      have he := gW_at (G := G) ho
      rw [gE_ia hcnd.1] at he
      rw [gV_lo ho2]
      refine va_iast hx hb hK hP hD hS o 0 he rfl (mIn_vp hcnd.2) hd (fun H1 locs1 g1 g2 g3 => ?_)
      rw [gW_iast ho hcnd.1] at g1 g2
      exact kk _ _ _ _ _ hl ⟨g1, g2, g3, hok'⟩ hc hsl
    · cases hs
  case castore =>
    simp only [mStep] at hs
    split at hs
    · rename_i x i o st
      rw [List.map_cons, List.map_cons, List.map_cons]
      split at hs <;> cases hs
      rename_i hcnd
      obtain ⟨ho, ho2⟩ := st_lt2 ok hcnd.1
      have he := gW_at (G := G) ho
      rw [gE_ca hcnd.1] at he
      rw [gV_lo ho2]
      refine va_cast hx hb hK hP hD hS o 1 he rfl (mIn_vp hcnd.2) hd (fun H1 locs1 g1 g2 g3 => ?_)
      rw [gW_cast ho hcnd.1] at g1 g2
      exact kk _ _ _ _ _ hl ⟨g1, g2, g3, hok'⟩ hc hsl
    · cases hs
  case aaload =>
    simp only [mStep] at hs
    split at hs
    · rename_i i o st
      rw [List.map_cons, List.map_cons]
      split at hs
      · rename_i hcnd
        obtain ⟨ht, hsh, hi⟩ := hcnd
        split at hs
        · rename_i r hr
          cases hs
          obtain ⟨ho, ho2⟩ := st_lt2 (k := a - 1) (o := o) ok (by omega)
          have he := gW_at (G := G) ho
          rw [gE_ra ht hsh] at he
          rw [gV_lo ho2]
          have h2 := kk _ _ _ _ _ hl hp hc hsl
          rw [List.map_cons, gV_lo (show r < 1000000 by have := ok.2.2.1 _ _ _ hr; omega)] at h2
          rcases ht with rfl | rfl
          · refine va_aldq hx hb hK hP o 2 he rfl (mIn_vp hi) hd ?_
            rw [hr]; exact h2
          · refine va_aldq hx hb hK hP o 3 he rfl (mIn_vp hi) hd ?_
            rw [hr]; exact h2
        · cases hs
      · cases hs
    · cases hs
  case aastore =>
    simp only [mStep] at hs
    split at hs
    · rename_i q i o st
      rw [List.map_cons, List.map_cons, List.map_cons]
      split at hs
      · rename_i hcnd
        cases hs
        obtain ⟨ht, hsh, hi, hq⟩ := hcnd
        have ht' : a = 4 ∨ a = 5 := by omega
        obtain ⟨ho, ho2⟩ := st_lt2 (k := a - 1) (o := o) ok (by omega)
        obtain ⟨hq1, hq2⟩ := st_lt ok hq
        have he := gW_at (G := G) ho
        rw [gE_ra ht' hsh] at he
        have heq := gW_at (G := G) hq1
        rw [gE_ob hq] at heq
        rw [gV_lo ho2, gV_lo hq2]
        rcases ht with ⟨rfl, rfl⟩ | ⟨rfl, rfl⟩
        · refine va_astq hx hb hK hP hD hS o 2 q 6 (r := (mCN 6, mTT 6, mNf 6)) he rfl heq (w_cls 6 (by omega)) (mIn_vp hi) hd (fun H1 locs1 g1 g2 g3 => ?_)
          rw [gW_aast ho ht' hsh] at g1 g2
          exact kk _ _ _ _ _ hl ⟨g1, g2, g3, hok'⟩ hc hsl
        · refine va_astq hx hb hK hP hD hS o 3 q 4 (r := (mCN 4, mTT 4, mNf 4)) he rfl heq (w_cls 4 (by omega)) (mIn_vp hi) hd (fun H1 locs1 g1 g2 g3 => ?_)
          rw [gW_aast ho ht' hsh] at g1 g2
          exact kk _ _ _ _ _ hl ⟨g1, g2, g3, hok'⟩ hc hsl
      · cases hs
    · cases hs
  case arraylength =>
    simp only [mStep] at hs
    split at hs
    · rename_i o st
      rw [List.map_cons]
      split at hs
      · split at hs <;> cases hs
        rename_i ho
        subst ho
        have hxs := ok.2.2.2
        have h2 := kk _ _ _ _ _ hl hp hc hsl
        rw [hxs] at h2
        rw [gV_scr]
        exact va_slen hx hb hE.2.2.2.2.2.1 (by have := hE.2.2.2.2.2.2.1; have := hE.2.2.2.2.2.2.2.1; omega) (fun q => by have := hE.2.2.2.2.2.2.1; exact absurd q (by show ¬ gB G ≤ _; omega)) hS hd h2
      · split at hs
        · split at hs <;> cases hs
          rename_i hm
          obtain ⟨e1, e2⟩ := gV_stb (G := G) hm
          rw [e1]
          exact va_tlen hx hb (hE.1.1 _ e2).2.2.2 hS rfl hd (kk _ _ _ _ _ hl hp hc hsl)
        · split at hs <;> cases hs
          rename_i hsh
          obtain ⟨ho, ho2⟩ := st_lt2 ok hsh
          have he := gW_at (G := G) ho
          rw [gE_ia hsh] at he
          rw [gV_lo ho2]
          exact va_alen hx hb hK hP o 0 he rfl rfl hd (kk _ _ _ _ _ hl hp hc hsl)
    · cases hs
  case newarray t =>
    simp only [mStep] at hs
    simp only [kIns, decide_eq_true_eq] at hk
    split at hs
    · rename_i n st
      split at hs
      · rename_i hcnd
        cases hs
        obtain ⟨-, c1, c2, c3⟩ := hcnd
        have hN := mk_cl c1 c2
        have hcR : h.1.1 + 1 ≤ n0 + R.cells := hcR
        have hsR : h.1.2.1 + n.toNatClampNeg ≤ s0 + R.slots := hsR
        rw [List.map_cons]
        rcases hk with ⟨rfl, rfl⟩ | ⟨rfl, rfl⟩
        · refine va_newa (atype := .int) (ty := .int) (N' := n.toNatClampNeg) (a0 := (n.toNatClampNeg, .inl (fun _ => 0))) hx hb (hts _ (aw_of w_misc.2.2.2.2.2.2.2.2.1 rfl)) rfl hK hP hD hS hA (fun cA => rfl) (Int32.not_lt.mpr c1) rfl (by show _ * 4 ≤ _; omega) (by omega) (by omega) hd (fun q cA H1 g0 g1 g2 g3 => ?_)
          refine W_size (fun hz => ?_)
          have e1 := mk_new h0 hc g1 g2 hz
          have e2 := mk_arr (k := 0) g0 rfl
          subst e1; subst e2
          have e3 : gE G ((h.1.1 + 1, h.1.2.1 + n.toNatClampNeg, mShp h.1.2.2.1 h.1.1 (2, n.toNatClampNeg), h.1.2.2.2), h.2.1, fun b j => if b = h.1.1 then 0 else h.2.2 b j) h.1.1 = .inl (gC G 2, n.toNatClampNeg, .inl (fun _ => 0)) := by
            rw [gE_ia (by simp [mShp])]; simp [mShp]
          have e4 := gW_push (G := G) (h := h) (h' := ((h.1.1 + 1, h.1.2.1 + n.toNatClampNeg, mShp h.1.2.2.1 h.1.1 (2, n.toNatClampNeg), h.1.2.2.2), h.2.1, fun b j => if b = h.1.1 then 0 else h.2.2 b j)) rfl (fun j hj => gE_congr (by simp [mShp]; omega) rfl (by funext i; simp; omega))
          rw [e3] at e4
          rw [e4] at g1 g2
          have h2 := kk ls H1 locs (cells + 1) (slots + n.toNatClampNeg) hl ⟨g1, g2, g3, hok'⟩ (by show h.1.1 + 1 = _; omega) (by show h.1.2.1 + _ = _; omega)
          rw [List.map_cons, gV_lo (show h.1.1 < 1000000 by omega)] at h2
          exact h2
        · refine va_newa (atype := .char) (ty := .char) (N' := n.toNatClampNeg) (a0 := (n.toNatClampNeg, .inl (fun _ => 0))) hx hb (hts _ (aw_of w_misc.2.2.2.2.2.2.2.2.2.1 rfl)) rfl hK hP hD hS hA (fun cA => rfl) (Int32.not_lt.mpr c1) rfl (by show _ * 2 ≤ _; omega) (by omega) (by omega) hd (fun q cA H1 g0 g1 g2 g3 => ?_)
          refine W_size (fun hz => ?_)
          have e1 := mk_new h0 hc g1 g2 hz
          have e2 := mk_arr (k := 1) g0 rfl
          subst e1; subst e2
          have e3 : gE G ((h.1.1 + 1, h.1.2.1 + n.toNatClampNeg, mShp h.1.2.2.1 h.1.1 (3, n.toNatClampNeg), h.1.2.2.2), h.2.1, fun b j => if b = h.1.1 then 0 else h.2.2 b j) h.1.1 = .inl (gC G 3, n.toNatClampNeg, .inl (fun _ => 0)) := by
            rw [gE_ca (by simp [mShp])]; simp [mShp]
          have e4 := gW_push (G := G) (h := h) (h' := ((h.1.1 + 1, h.1.2.1 + n.toNatClampNeg, mShp h.1.2.2.1 h.1.1 (3, n.toNatClampNeg), h.1.2.2.2), h.2.1, fun b j => if b = h.1.1 then 0 else h.2.2 b j)) rfl (fun j hj => gE_congr (by simp [mShp]; omega) rfl (by funext i; simp; omega))
          rw [e3] at e4
          rw [e4] at g1 g2
          have h2 := kk ls H1 locs (cells + 1) (slots + n.toNatClampNeg) hl ⟨g1, g2, g3, hok'⟩ (by show h.1.1 + 1 = _; omega) (by show h.1.2.1 + _ = _; omega)
          rw [List.map_cons, gV_lo (show h.1.1 < 1000000 by omega)] at h2
          exact h2
      · cases hs
    · cases hs
  case anewarray idx =>
    simp only [mStep] at hs
    simp only [kIns] at hk
    split at hs
    · rename_i n st
      split at hs
      · rename_i hcnd
        cases hs
        obtain ⟨ht, c1, c2, c3⟩ := hcnd
        have hN := mk_cl c1 c2
        have hcR : h.1.1 + 1 ≤ n0 + R.cells := hcR
        have hsR : h.1.2.1 + n.toNatClampNeg ≤ s0 + R.slots := hsR
        rw [List.map_cons]
        obtain ⟨⟨q0, q1, q2, q3⟩, hq, hq2⟩ := any_mem hk
        simp only [decide_eq_true_eq, Prod.mk.injEq] at hq2
        obtain ⟨rfl, rfl, rfl⟩ := hq2
        rcases ht with ⟨rfl, rfl⟩ | ⟨rfl, rfl⟩
        · refine va_newq hx hb hown (hts _ (aw_at (w_cl _ hq) rfl)) hE.2.2.2.2.2.2.2.2.2.2.1 hK hP hD hS hA (N' := n.toNatClampNeg) (Int32.not_lt.mpr c1) rfl (by omega) (by omega) (by omega) hd (fun q cA H1 g0 g1 g2 g3 => ?_)
          refine W_size (fun hz => ?_)
          have e1 := mk_new h0 hc g1 g2 hz
          have e2 := mk_arr (k := 2) g0 rfl
          subst e1; subst e2
          have e3 : gE G ((h.1.1 + 1, h.1.2.1 + n.toNatClampNeg, mShp h.1.2.2.1 h.1.1 (4, n.toNatClampNeg), h.1.2.2.2), fun b j => if b = h.1.1 then none else h.2.1 b j, h.2.2) h.1.1 = .inl (gC G 4, n.toNatClampNeg, .inr (.inr (.inr (.inr (fun _ => none))))) := by
            rw [gE_ra (t := 4) (by omega) (by simp [mShp])]; simp [mShp]
          have e4 := gW_push (G := G) (h := h) (h' := ((h.1.1 + 1, h.1.2.1 + n.toNatClampNeg, mShp h.1.2.2.1 h.1.1 (4, n.toNatClampNeg), h.1.2.2.2), fun b j => if b = h.1.1 then none else h.2.1 b j, h.2.2)) rfl (fun j hj => gE_congr (by simp [mShp]; omega) (by funext i; simp; omega) rfl)
          rw [e3] at e4
          rw [e4] at g1 g2
          have h2 := kk ls H1 locs (cells + 1) (slots + n.toNatClampNeg) hl ⟨g1, g2, g3, hok'⟩ (by show h.1.1 + 1 = _; omega) (by show h.1.2.1 + _ = _; omega)
          rw [List.map_cons, gV_lo (show h.1.1 < 1000000 by omega)] at h2
          exact h2
        · refine va_newq hx hb hown (hts _ (aw_at (w_cl _ hq) rfl)) hE.2.2.2.2.2.2.2.2.2.2.2 hK hP hD hS hA (N' := n.toNatClampNeg) (Int32.not_lt.mpr c1) rfl (by omega) (by omega) (by omega) hd (fun q cA H1 g0 g1 g2 g3 => ?_)
          refine W_size (fun hz => ?_)
          have e1 := mk_new h0 hc g1 g2 hz
          have e2 := mk_arr (k := 3) g0 rfl
          subst e1; subst e2
          have e3 : gE G ((h.1.1 + 1, h.1.2.1 + n.toNatClampNeg, mShp h.1.2.2.1 h.1.1 (5, n.toNatClampNeg), h.1.2.2.2), fun b j => if b = h.1.1 then none else h.2.1 b j, h.2.2) h.1.1 = .inl (gC G 5, n.toNatClampNeg, .inr (.inr (.inr (.inr (fun _ => none))))) := by
            rw [gE_ra (t := 5) (by omega) (by simp [mShp])]; simp [mShp]
          have e4 := gW_push (G := G) (h := h) (h' := ((h.1.1 + 1, h.1.2.1 + n.toNatClampNeg, mShp h.1.2.2.1 h.1.1 (5, n.toNatClampNeg), h.1.2.2.2), fun b j => if b = h.1.1 then none else h.2.1 b j, h.2.2)) rfl (fun j hj => gE_congr (by simp [mShp]; omega) (by funext i; simp; omega) rfl)
          rw [e3] at e4
          rw [e4] at g1 g2
          have h2 := kk ls H1 locs (cells + 1) (slots + n.toNatClampNeg) hl ⟨g1, g2, g3, hok'⟩ (by show h.1.1 + 1 = _; omega) (by show h.1.2.1 + _ = _; omega)
          rw [List.map_cons, gV_lo (show h.1.1 < 1000000 by omega)] at h2
          exact h2
      · cases hs
    · cases hs
  case new idx =>
    simp only [mStep] at hs
    simp only [kIns, Bool.and_eq_true, decide_eq_true_eq] at hk
    obtain ⟨⟨k1, k2⟩, k3⟩ := hk
    split at hs
    · rename_i hcnd
      cases hs
      have c3 := hcnd.2
      have hcR : h.1.1 + 1 ≤ n0 + R.cells := hcR
      have hsR : h.1.2.1 + b ≤ s0 + R.slots := hsR
      obtain ⟨⟨q0, q1, q2, q3⟩, hq, hq2⟩ := any_mem k1
      simp only [decide_eq_true_eq, Prod.mk.injEq] at hq2
      obtain ⟨rfl, rfl, rfl⟩ := hq2
      subst k3
      refine va_new hx hb hts (aw_lay k2) (mTy q3) (fun k hk => (w_fty q3 k2 k hk).1) hown (hts _ (aw_at (w_cl _ hq) rfl)) (hts _ (aw_of (w_ins q3 k2).1 rfl)) (hts _ (aw_of (w_ins q3 k2).2 rfl)) hK hP hD hS hA (w_cls q3 k2) (fs := gFs G q3 (fun _ => none) (fun _ => 0)) (fun j hj => ?_) (by omega) (by omega) hd (fun q H1 g1 g2 g3 => ?_)
      · obtain ⟨f1, f2, f3, f4, f5, f6, f7⟩ := w_fty q3 k2 j hj
        rw [vp_V, List.getD_eq_getElem?_getD, gFs_at hj]
        by_cases e : mFk q3 j = 2
        · rw [if_pos e]
          have h1 := w_frf q3 k2 j hj e
          revert h1
          cases mTy q3 j <;> simp [defaultValue, va_rf]
        · rw [if_neg e]
          rcases (show mFk q3 j = 0 ∨ mFk q3 j = 1 by omega) with w | w
          · rw [f2 w]; rfl
          · rw [f3 w]; rfl
      · refine W_size (fun hz => ?_)
        have e1 := mk_new h0 hc g1 g2 hz
        subst e1
        have e3 : gE G ((h.1.1 + 1, h.1.2.1 + mNf q3, mShp h.1.2.2.1 h.1.1 (1, q3), h.1.2.2.2), fun b j => if b = h.1.1 then none else h.2.1 b j, fun b j => if b = h.1.1 then 0 else h.2.2 b j) h.1.1 = .inr (q3, gFs G q3 (fun _ => none) (fun _ => 0)) := by
          rw [gE_ob (c := q3) (by simp [mShp])]; simp
        have e4 := gW_push (G := G) (h := h) (h' := ((h.1.1 + 1, h.1.2.1 + mNf q3, mShp h.1.2.2.1 h.1.1 (1, q3), h.1.2.2.2), fun b j => if b = h.1.1 then none else h.2.1 b j, fun b j => if b = h.1.1 then 0 else h.2.2 b j)) rfl (fun j hj => gE_congr (by simp [mShp]; omega) (by funext i; simp; omega) (by funext i; simp; omega))
        rw [e3] at e4
        rw [e4] at g1 g2
        have h2 := kk ls H1 locs (cells + 1) (slots + mNf q3) hl ⟨g1, g2, g3, hok'⟩ (by show h.1.1 + 1 = _; omega) (by show h.1.2.1 + _ = _; omega)
        rw [List.map_cons, gV_lo (show h.1.1 < 1000000 by omega)] at h2
        exact h2
    · cases hs
  case invokespecial idx =>
    simp only [mStep] at hs
    split at hs
    · rename_i hv
      simp only [kIns] at hk
      rw [if_pos hv] at hk
      simp only [Bool.and_eq_true, decide_eq_true_eq] at hk
      obtain ⟨⟨k1, k2⟩, k3⟩ := hk
      split at hs
      · rename_i o st
        split at hs <;> cases hs
        rename_i hlen
        obtain ⟨hlen, ho⟩ := hlen
        obtain ⟨⟨q0, q1, q2, q3⟩, hq, hq2⟩ := any_mem k1
        simp only [decide_eq_true_eq, Prod.mk.injEq] at hq2
        obtain ⟨rfl, rfl, rfl⟩ := hq2
        have hcd : Cond.code Lib.objectInit ⟨#[0xb1]⟩ 1 none ∈ aw := aw_of (List.mem_of_elem_eq_true w_misc.1) rfl
        have hsum := st_sum (G := G) hlen
        rw [List.map_cons]
        rw [gV_lo ho]
        refine W.objInit hx hb hown (hts _ (aw_at (w_ml _ hq) rfl)) (hts _ (aw_of w_misc.2.1 rfl)) (hts _ hcd) rfl (by rw [hml]; exact hl.1) rfl hd (by omega) (by show 2 * 0 + _ + 12 ≤ _; omega) ?_
        exact kk _ _ _ _ _ hl hp hc hsl
      · cases hs
    · split at hs
      · split at hs
        · split at hs <;> cases hs
        · cases hs
      · cases hs
  case invokevirtual =>
    simp only [mStep] at hs
    split at hs
    · split at hs
      · split at hs <;> cases hs
      · cases hs
    · cases hs
  case invokestatic idx =>
    simp only [mStep] at hs
    split at hs
    · split at hs <;> cases hs
    · rename_i hv0
      split at hs
      · rename_i hv
        simp only [kIns] at hk
        rw [if_neg hv0, if_pos hv] at hk
        simp only [Bool.and_eq_true, decide_eq_true_eq] at hk
        obtain ⟨⟨k1, k2⟩, k3⟩ := hk
        split at hs
        · rename_i y x st
          split at hs <;> cases hs
          rename_i hlen
          obtain ⟨⟨q0, q1, q2, q3⟩, hq, hq2⟩ := any_mem k1
          simp only [decide_eq_true_eq, Prod.mk.injEq] at hq2
          obtain ⟨rfl, rfl, rfl⟩ := hq2
          have hcd : Cond.code Lib.Math.min.name Lib.Math.min.code 2 (some .int) ∈ aw := aw_of (List.mem_of_elem_eq_true w_misc.2.2.2.2.1) rfl
          have hsum := st_sum (G := G) hlen
          exact va_mmin hx hb (by rw [hml]; exact hl.1.symm) hown (hts _ (aw_at (w_ml _ hq) rfl)) (hts _ (aw_of w_misc.2.2.1 rfl)) (hts _ (aw_of w_misc.2.2.2.1 rfl)) (hts _ hcd) (by omega) (by omega) (by omega) (by omega) hd (kk _ _ _ _ _ hl hp hc hsl)
        · cases hs
      · rename_i hv1
        split at hs
        · rename_i hv
          simp only [kIns] at hk
          rw [if_neg hv0, if_neg hv1, if_pos hv] at hk
          simp only [Bool.and_eq_true, decide_eq_true_eq] at hk
          obtain ⟨⟨k1, k2⟩, k3⟩ := hk
          split at hs
          · rename_i n dp q sp o st
            split at hs <;> cases hs
            rename_i hcnd
            obtain ⟨c1, c2, c3, c4, c5, c6, c7, hlen⟩ := hcnd
            obtain ⟨⟨q0, q1, q2, q3⟩, hq, hq2⟩ := any_mem k1
            simp only [decide_eq_true_eq, Prod.mk.injEq] at hq2
            obtain ⟨rfl, rfl, rfl⟩ := hq2
            have hsum := st_sum (G := G) hlen
            obtain ⟨ho, ho2⟩ := st_lt2 ok c4
            obtain ⟨hr, hr2⟩ := st_lt2 ok c5
            have he := gW_at (G := G) ho
            rw [gE_ia c4] at he
            have her := gW_at (G := G) hr
            rw [gE_ia c5] at her
            simp only [List.map_cons]
            rw [gV_lo ho2, gV_lo hr2]
            refine va_copyi hx hb (by rw [hml]; exact hl.1.symm) hown (hts _ (aw_at (w_ml _ hq) rfl)) (hts _ (aw_of w_misc.2.2.2.2.2.1 rfl)) (hts _ (aw_of w_misc.2.2.2.2.2.2.1 rfl)) (hts _ (aw_of w_misc.2.2.2.2.2.2.2.1 rfl)) hK hP hD hS o q 0 0 he her rfl rfl rfl (Int32.not_lt.mpr c1) (Int32.not_lt.mpr c2) (Int32.not_lt.mpr c3) c6 c7 (fun _ _ => rfl) (by omega) (by rw [show nativeFrameWords "java/lang/System" "arraycopy" 5 = 7 from by decide +kernel]; omega) hd (fun H1 locs1 g1 g2 g3 => ?_)
            rw [gW_copy hr c5] at g1 g2
            exact kk _ _ _ _ _ hl ⟨g1, g2, g3, hok'⟩ hc hsl
          · cases hs
        · cases hs
  case ldc idx =>
    simp only [mStep] at hs
    simp only [kIns] at hk
    split at hs
    · rename_i hb1
      cases hs
      rw [if_pos hb1] at hk
      obtain ⟨⟨q0, q1, q2, q3⟩, hq, hq2⟩ := any_mem hk
      simp only [decide_eq_true_eq, Prod.mk.injEq] at hq2
      obtain ⟨rfl, rfl, rfl⟩ := hq2
      exact lv_ldc hx hb hown (hts _ (aw_at (w_ki _ hq) rfl)) hd (kk _ _ _ _ _ hl hp hc hsl)
    · rename_i hb1
      cases hs
      rw [if_neg hb1] at hk
      simp only [Bool.and_eq_true, decide_eq_true_eq] at hk
      obtain ⟨⟨k1, k2⟩, k3⟩ := hk
      obtain ⟨⟨q0, q1⟩, hq, hq2⟩ := any_mem k1
      simp only [decide_eq_true_eq, Prod.mk.injEq] at hq2
      obtain ⟨rfl, rfl⟩ := hq2
      obtain ⟨tx, hr⟩ := hE.2.1 _ hq
      have e1 := (gV_str (G := G) (k := 1000000 + q1) (by simp only [mStr, Bool.and_eq_true, decide_eq_true_eq]; omega)).1
      have h2 := kk _ _ _ _ _ hl hp hc hsl
      rw [List.map_cons, e1, show 1000000 + q1 - 1000000 = q1 by omega] at h2
      rw [k3] at hown
      exact va_ldcS hx hb hown hr hd h2
  case ireturn =>
    simp only [mStep] at hs
    split at hs
    · split at hs <;> cases hs
    · cases hs
  case return_ => simp only [mStep] at hs; split at hs <;> cases hs
  case tableswitch => simp only [mStep] at hs; split at hs <;> cases hs
  all_goals (simp only [mStep] at hs; cases hs)
end ST
