/-! cut -/
theorem fB_hit {P : Nat → Bool} {n k : Nat} (h : fB P n k = n) (hk : k < n) (hp : P k = true) : fB P n n = k := by
  have hs : fB P n (k + 1) = k := by simp [fB, h, hp]
  have hst : ∀ j, k + 1 ≤ j → j ≤ n → fB P n j = k := by
    intro j
    induction j with
    | zero => intro h; omega
    | succ j ih =>
      intro hj1 hj2
      rcases Nat.lt_or_ge j (k + 1) with z | z
      · rw [show j = k by omega]; exact hs
      · rw [fB, ih z (by omega), if_neg (by omega)]
  exact hst n (by omega) (Nat.le_refl _)
theorem fB_cg {P P' : Nat → Bool} {n : Nat} : ∀ k, k ≤ n → (∀ s, s < n → P s = P' s) → fB P n k = fB P' n k := by
  intro k
  induction k with
  | zero => intro _ _; rfl
  | succ k ih => intro hk h; simp only [fB, ih (by omega) h, h k (by omega)]
theorem RC_low {I : Nat → Nat → Int32} {a : Nat} {v : Nat → Int32} (h : RC I a v) : fB (fun s => I (a + 6 + 4 * s) 3 == 0) 6 6 = fB (fun s => v (98 * s) == 0) 6 6 := by
  refine fB_cg 6 (by omega) (fun s hs => ?_)
  obtain ⟨p, cl, c, ⟨f1, -⟩, ⟨g1, -⟩, -⟩ := h.1 s hs
  rw [f1, g1]
theorem m_letI {K : mK} {R : Nat → Nat → Option Nat} {I : Nat → Nat → Int32} {a l c : Nat} {Q : Option Value → mH → Prop} (h : zW K R a) (hc : I a 5 = nI c) (hl : l < c) (hc2 : c ≤ 1000) : EvM 39 [.ref a, .int (nI l)] (K, R, I) Q ↔ Q (some (.int 1)) (K, R, I) := by
  rw [m_hasLetter h, hc, if_neg (n_ne0 (by omega)), if_neg (by rw [n_le (by omega) (by omega)]; omega)]
theorem m_letO {K : mK} {R : Nat → Nat → Option Nat} {I : Nat → Nat → Int32} {a c : Nat} {x : Int32} {Q : Option Value → mH → Prop} (h : zW K R a) (hc : I a 5 = nI c) (q : x < 0 ∨ nI c ≤ x) : EvM 39 [.ref a, .int x] (K, R, I) Q ↔ Q (some (.int 0)) (K, R, I) := by
  rw [m_hasLetter h, hc]
  by_cases c1 : x < 0
  · rw [if_pos c1]
  · have q2 : nI c ≤ x := by
      rcases q with q | q
      · exact absurd q c1
      · exact q
    rw [if_neg c1, if_pos q2]
theorem m_takeTail' {K : mK} {R : Nat → Nat → Option Nat} {I : Nat → Nat → Int32} {a b cl c l : Nat} {Q : Option Value → mH → Prop} (h : zW K R a) (h' : zW K R b) (hab : a + 4 ≤ b ∨ b + 4 ≤ a) (hf : wF I b 1 cl c) (hl : l ≤ c) :
    EvM 47 [.ref a, .ref b, .int (nI l)] (K, R, I) Q ↔ Q none (K, R, mSet (mSet (mSet (mSet (wAp (mSet (mSet (mSet (mSet (mSet (mSet (mSet (mSet I a 3 0) a 4 0) a 5 0) a 6 0) a 3 1) (a + 1) 0 5000) (a + 2) 0 5000) (a + 3) 0 (-1)) a b 0 l (c - l + cl)) a 5 (nI (c - l))) a 4 (nI cl)) b 5 (nI l)) b 4 0) := by
  have := m_takeTail (Q := Q) h h' hab hf hl
  rw [show c + cl - l = c - l + cl by omega, show 0 + (c - l) = c - l by omega] at this
  exact this
/-- the first empty spool, else 6 -/
def gLow (v : Nat → Int32) : Nat := fB (fun s => v (98 * s) == 0) 6 6
/-- the ghost behind a cut ahead of the letter l -/
def wCut (v : Nat → Int32) (s l : Nat) : Nat → Int32 := vTl (vU (vU (vU (vU (vU (vU (vU (vU (vU (vTr (vCc v s l (gLow v) 0 (gc v s - l + gl v s)) s l (gLow v) 0 (gc v s - l)) (98 * gLow v + 4) 5000) (98 * gLow v + 36) 5000) 591 (v 591 + 5000)) (98 * gLow v) 1) (98 * gLow v + 1) (nI (gl v s))) (98 * gLow v + 2) (nI (gc v s - l))) (98 * gLow v + 3) 0) (98 * s + 1) 0) (98 * s + 2) (nI l)) (gln v) 3 (nI s) (nI (gLow v))
set_option maxHeartbeats 8000000 in
theorem q_cut {K : mK} {R : Nat → Nat → Option Nat} {I : Nat → Nat → Int32} {v H : Nat → Int32} {T : Nat → Nat} {n tt : Nat} (hrel : REL K R I v n H tt T) (s l : Nat) (hs : s < 6) (hl0 : l ≤ 1000) : if gc v s ≤ l then QO 62 [.int (nI s), .int (nI l)] K R I (-1) else if gLow v = 6 then QO 62 [.int (nI s), .int (nI l)] K R I (-3) else AO 62 [.int (nI s), .int (nI l)] K R I (nI (gLow v)) (wCut v s l) (nTu n) (vRec H v n) tt T := by
  obtain ⟨f, g, hv, hn2, hn, hH, hP, hT⟩ := id hrel
  have q4 := qTu_lt g hn2
  obtain ⟨gs, -, gh, gw, gr, gr', ⟨a0, a1, a2, a3, a4, a5, a6, a7, a8⟩, ⟨b0, b1, b2⟩, cc0⟩ := id g
  have gs0 : K.2.2.1 1 = (1, 4) := gs.1
  have gs1 : R 1 0 = some 2 := gs.2.1
  have gs2 : K.2.2.1 2 = (4, 6) := gs.2.2.1
  have gs3 : R 1 1 = some 3 := gs.2.2.2.1
  have gs4 : zL K R 3 := gs.2.2.2.2.1
  have gW : ∀ s, s < 6 → zW K R (7 + 4 * s) := fun s hs => (gs.2.2.2.2.2.2 s hs).2
  have gR : ∀ s, s < 6 → R 2 s = some (7 + 4 * s) := fun s hs => (gs.2.2.2.2.2.2 s hs).1
  have gh0 := gh.1
  have gsl : K.2.2.1 3 = (1, 2) := gs4.1
  have gT := zG_tu (n := n) g
  have gst : zS K (RTu R n) 1 := gT.1
  have gt1 : RTu R n 1 0 = some 2 := gst.2.1
  have gt3 : RTu R n 1 1 = some 3 := gst.2.2.2.1
  have gt4 : zL K (RTu R n) 3 := gst.2.2.2.2.1
  have gWt : ∀ s, s < 6 → zW K (RTu R n) (7 + 4 * s) := fun s hs => (gst.2.2.2.2.2.2 s hs).2
  have gRt : ∀ s, s < 6 → RTu R n 2 s = some (7 + 4 * s) := fun s hs => (gst.2.2.2.2.2.2 s hs).1
  obtain ⟨-, a1t, a2t, a3t, a4t, a5t, a6t, a7t, a8t⟩ := gT.2.2.2.2.2.2.1
  obtain ⟨pA, clA, cA, hwA⟩ := hv.1 s hs
  rw [show 1 + 6 + 4 * s = 7 + 4 * s by omega] at hwA
  obtain ⟨wfA, vfA, k0A, k1A, k2A, k3A, k4A, k5A⟩ := id hwA
  obtain ⟨f1A, f2A, f3A, f4A, f5A, f6A⟩ := id wfA
  obtain ⟨v1A, v2A, v3A, -⟩ := id vfA
  have zwA := gW s hs
  have zwtA := gWt s hs
  have rwA := gR s hs
  have rwtA := gRt s hs
  have zw0A : K.2.2.1 (7 + 4 * s) = (1, 6) := zwA.1
  obtain ⟨g1A, g2A, g3A⟩ := g_vF vfA
  by_cases hl : l < cA
  rotate_left
  · rw [g3A, if_pos (by omega)]
    refine ⟨I, ?_, SCR_id⟩
    have q : nI l < 0 ∨ nI cA ≤ nI l := Or.inr (by rw [n_le (by omega) (by omega)]; omega)
    simp (disch := omega) only [e_iconst, e_bipush, e_sipush, e_iload_n, e_iload, e_aload_n, e_aload, e_istore_n, e_istore, e_astore_n, e_astore, e_iinc, e_iadd, e_isub, e_imul, e_iand, e_ishr, e_idiv, e_i2c, e_dup_i, e_dup_r, e_dup2, e_pop, e_goto, e_nop, e_if_eq, e_if_ne, e_if_lt, e_if_ge, e_if_gt, e_if_le, e_icmp_eq, e_icmp_ne, e_icmp_lt, e_icmp_ge, e_icmp_gt, e_icmp_le, e_tsw, e_ret0, e_ret1, e_retn, e_getI, e_getZ, e_getR, e_getV, e_getC, e_putI, e_putZ, e_putF, e_gst0, e_gst1, e_sld, e_iald, e_cald, e_bald, e_iast, e_cast, e_aald, e_aast, e_alen, e_slen, e_blen, e_newa, e_newq, e_new, e_oinit, e_ctor, e_virt, e_stat, e_min, e_copy, e_ldc, List.cons_append, List.nil_append, List.append_nil, List.length_cons, List.length_nil, List.replicate_succ, List.replicate_zero, List.getElem?_cons_zero, List.getElem?_cons_succ, List.set_cons_zero, List.set_cons_succ, List.take_succ_cons, List.take_zero, List.drop_succ_cons, List.drop_zero, List.reverse_cons, List.reverse_nil, Option.toList_some, Option.toList_none, Nat.reduceSub, Nat.reduceAdd, Nat.reduceLeDiff, true_and, and_true, and_self, Option.some.injEq, exists_eq_left', Nat.zero_add, Value.int.injEq, Value.ref.injEq, List.cons.injEq, exists_and_left, and_assoc, exists_eq_left, List.all_cons, List.all_nil, m1_i, m1_r, Bool.and_self, Bool.and_true, E_in 62, N_62, B_62_0, bk_62_0, B_62_23, bk_62_23, C_81, C_39, m_isSp hs, m_letO zwA f3A q, a0, a1, gs0, gs1, gs2, zw0A, rwA, n_in, n_cl, true_or, or_true, o_eq, if_pos, if_neg, not_true_eq_false, not_false_eq_true, or_true, true_or, or_false, false_or, false_and, and_false, Nat.reduceEqDiff, Nat.reduceLT, Nat.reduceMul, Nat.not_lt_zero, Nat.zero_le, Nat.le_refl, ne_eq, reduceIte, reduceCtorEq]
  have hp1 : pA = 1 := by
    rcases (show pA = 0 ∨ pA = 1 by omega) with e | e
    · have := (k0A e).2; omega
    · exact e
  subst hp1
  obtain ⟨e2, e3, e4, e5, e6, e7, e8, e9, e10, ln, l1, l2, l3, l4⟩ := id hv.2
  have gl1 : gln v = ln := by unfold gln; rw [l3]; exact n_cl (by omega)
  have hlow := RC_low hv
  obtain ⟨tl, tp, -⟩ := fB_le (fun s => v (98 * s) == 0) 6 6 (Nat.le_refl _)
  unfold wCut gLow
  rw [g2A, g3A, gl1, if_neg (by omega)]
  generalize htt : fB (fun s => v (98 * s) == 0) 6 6 = t at hlow tl tp ⊢
  by_cases ht6 : t = 6
  · rw [if_pos ht6]
    subst ht6
    refine ⟨I, ?_, SCR_id⟩
    simp (disch := omega) only [e_iconst, e_bipush, e_sipush, e_iload_n, e_iload, e_aload_n, e_aload, e_istore_n, e_istore, e_astore_n, e_astore, e_iinc, e_iadd, e_isub, e_imul, e_iand, e_ishr, e_idiv, e_i2c, e_dup_i, e_dup_r, e_dup2, e_pop, e_goto, e_nop, e_if_eq, e_if_ne, e_if_lt, e_if_ge, e_if_gt, e_if_le, e_icmp_eq, e_icmp_ne, e_icmp_lt, e_icmp_ge, e_icmp_gt, e_icmp_le, e_tsw, e_ret0, e_ret1, e_retn, e_getI, e_getZ, e_getR, e_getV, e_getC, e_putI, e_putZ, e_putF, e_gst0, e_gst1, e_sld, e_iald, e_cald, e_bald, e_iast, e_cast, e_aald, e_aast, e_alen, e_slen, e_blen, e_newa, e_newq, e_new, e_oinit, e_ctor, e_virt, e_stat, e_min, e_copy, e_ldc, List.cons_append, List.nil_append, List.append_nil, List.length_cons, List.length_nil, List.replicate_succ, List.replicate_zero, List.getElem?_cons_zero, List.getElem?_cons_succ, List.set_cons_zero, List.set_cons_succ, List.take_succ_cons, List.take_zero, List.drop_succ_cons, List.drop_zero, List.reverse_cons, List.reverse_nil, Option.toList_some, Option.toList_none, Nat.reduceSub, Nat.reduceAdd, Nat.reduceLeDiff, true_and, and_true, and_self, Option.some.injEq, exists_eq_left', Nat.zero_add, Value.int.injEq, Value.ref.injEq, List.cons.injEq, exists_and_left, and_assoc, exists_eq_left, List.all_cons, List.all_nil, m1_i, m1_r, Bool.and_self, Bool.and_true, E_in 62, N_62, B_62_0, bk_62_0, B_62_25, bk_62_25, C_81, C_39, C_28, m_isSp hs, m_letI zwA f3A hl, m_lowest gs, hlow, m_noSp (x := nI 6) (Or.inr (Int32.le_refl _)), a0, a1, gs0, gs1, gs2, zw0A, rwA, n_in, n_cl, true_or, or_true, o_eq, if_pos, if_neg, not_true_eq_false, not_false_eq_true, or_true, true_or, or_false, false_or, false_and, and_false, Nat.reduceEqDiff, Nat.reduceLT, Nat.reduceMul, Nat.not_lt_zero, Nat.zero_le, Nat.le_refl, ne_eq, reduceIte, reduceCtorEq]
  rw [if_neg ht6]
  have ht : t < 6 := by omega
  have tp2 : v (98 * t) = 0 := by simpa using (tp ht).2
  have hne : s ≠ t := by
    intro e; subst e
    rw [v1A] at tp2
    exact absurd tp2 (by decide)
  obtain ⟨pB, clB, cB, hwB⟩ := hv.1 t ht
  rw [show 1 + 6 + 4 * t = 7 + 4 * t by omega] at hwB
  obtain ⟨wfB, vfB, k0B, k1B, k2B, k3B, k4B, k5B⟩ := id hwB
  obtain ⟨f1B, f2B, f3B, f4B, f5B, f6B⟩ := id wfB
  obtain ⟨v1B, v2B, v3B, -⟩ := id vfB
  have zwB := gW t ht
  have zwtB := gWt t ht
  have rwB := gR t ht
  have rwtB := gRt t ht
  have zw0B : K.2.2.1 (7 + 4 * t) = (1, 6) := zwB.1
  have hab : 7 + 4 * t + 4 ≤ 7 + 4 * s ∨ 7 + 4 * s + 4 ≤ 7 + 4 * t := by omega
  have hfA : wF (hRm I (qTu f n) n) (7 + 4 * s) 1 clA cA := by
    unfold wF
    rw [hRm_l (by omega)]
    exact wfA
  refine ⟨RTu R n, lAd (mSet (mSet (mSet (mSet (mSet (wAp (mSet (mSet (mSet (mSet (mSet (mSet (mSet (mSet (hRm I (qTu f n) n) (7 + 4 * t) 3 0) (7 + 4 * t) 4 0) (7 + 4 * t) 5 0) (7 + 4 * t) 6 0) (7 + 4 * t) 3 1) (7 + 4 * t + 1) 0 5000) (7 + 4 * t + 2) 0 5000) (7 + 4 * t + 3) 0 (-1)) (7 + 4 * t) (7 + 4 * s) 0 l (cA - l + clA)) (7 + 4 * t) 5 (nI (cA - l))) (7 + 4 * t) 4 (nI clA)) (7 + 4 * s) 5 (nI l)) (7 + 4 * s) 4 0) 1 5 (v 591 + 5000)) 3 ln 3 (nI s) (nI t), ?_, ?_⟩
  · simp (disch := omega) only [e_iconst, e_bipush, e_sipush, e_iload_n, e_iload, e_aload_n, e_aload, e_istore_n, e_istore, e_astore_n, e_astore, e_iinc, e_iadd, e_isub, e_imul, e_iand, e_ishr, e_idiv, e_i2c, e_dup_i, e_dup_r, e_dup2, e_pop, e_goto, e_nop, e_if_eq, e_if_ne, e_if_lt, e_if_ge, e_if_gt, e_if_le, e_icmp_eq, e_icmp_ne, e_icmp_lt, e_icmp_ge, e_icmp_gt, e_icmp_le, e_tsw, e_ret0, e_ret1, e_retn, e_getI, e_getZ, e_getR, e_getV, e_getC, e_putI, e_putZ, e_putF, e_gst0, e_gst1, e_sld, e_iald, e_cald, e_bald, e_iast, e_cast, e_aald, e_aast, e_alen, e_slen, e_blen, e_newa, e_newq, e_new, e_oinit, e_ctor, e_virt, e_stat, e_min, e_copy, e_ldc, List.cons_append, List.nil_append, List.append_nil, List.length_cons, List.length_nil, List.replicate_succ, List.replicate_zero, List.getElem?_cons_zero, List.getElem?_cons_succ, List.set_cons_zero, List.set_cons_succ, List.take_succ_cons, List.take_zero, List.drop_succ_cons, List.drop_zero, List.reverse_cons, List.reverse_nil, Option.toList_some, Option.toList_none, Nat.reduceSub, Nat.reduceAdd, Nat.reduceLeDiff, true_and, and_true, and_self, Option.some.injEq, exists_eq_left', Nat.zero_add, Value.int.injEq, Value.ref.injEq, List.cons.injEq, exists_and_left, and_assoc, exists_eq_left, List.all_cons, List.all_nil, m1_i, m1_r, Bool.and_self, Bool.and_true, E_in 62, N_62, B_62_0, bk_62_0, B_62_25, bk_62_25, C_81, C_39, C_28, m_isSp hs, m_isSp ht, m_letI zwA f3A hl, m_lowest gs, hlow, a0, a1, gs0, gs1, gs2, zw0A, rwA, n_in, n_cl, true_or, or_true, o_eq, if_pos, if_neg, not_true_eq_false, not_false_eq_true, or_true, true_or, or_false, false_or, false_and, and_false, Nat.reduceEqDiff, Nat.reduceLT, Nat.reduceMul, Nat.not_lt_zero, Nat.zero_le, Nat.le_refl, ne_eq, reduceIte, reduceCtorEq]
    rw [B_62_43]
    simp (disch := omega) only [e_iconst, e_bipush, e_sipush, e_iload_n, e_iload, e_aload_n, e_aload, e_istore_n, e_istore, e_astore_n, e_astore, e_iinc, e_iadd, e_isub, e_imul, e_iand, e_ishr, e_idiv, e_i2c, e_dup_i, e_dup_r, e_dup2, e_pop, e_goto, e_nop, e_if_eq, e_if_ne, e_if_lt, e_if_ge, e_if_gt, e_if_le, e_icmp_eq, e_icmp_ne, e_icmp_lt, e_icmp_ge, e_icmp_gt, e_icmp_le, e_tsw, e_ret0, e_ret1, e_retn, e_getI, e_getZ, e_getR, e_getV, e_getC, e_putI, e_putZ, e_putF, e_gst0, e_gst1, e_sld, e_iald, e_cald, e_bald, e_iast, e_cast, e_aald, e_aast, e_alen, e_slen, e_blen, e_newa, e_newq, e_new, e_oinit, e_ctor, e_virt, e_stat, e_min, e_copy, e_ldc, List.cons_append, List.nil_append, List.append_nil, List.length_cons, List.length_nil, List.replicate_succ, List.replicate_zero, List.getElem?_cons_zero, List.getElem?_cons_succ, List.set_cons_zero, List.set_cons_succ, List.take_succ_cons, List.take_zero, List.drop_succ_cons, List.drop_zero, List.reverse_cons, List.reverse_nil, Option.toList_some, Option.toList_none, Nat.reduceSub, Nat.reduceAdd, Nat.reduceLeDiff, true_and, and_true, and_self, Option.some.injEq, exists_eq_left', Nat.zero_add, Value.int.injEq, Value.ref.injEq, List.cons.injEq, exists_and_left, and_assoc, exists_eq_left, List.all_cons, List.all_nil, m1_i, m1_r, Bool.and_self, Bool.and_true, bk_62_43, a0, a1, a2, gs0, gh0, C_9, C_47, C_14, a_remember g hv hn hn2, a1t, gt1, gs2, rwtA, rwtB, zw0A, zw0B, n_in, n_cl, true_or, or_true, m_takeTail' zwtB zwtA hab hfA (show l ≤ cA by omega), gt3, gsl, s_ne, s_eq, wAp_o, hRm_o, e5, if_pos, if_neg, not_true_eq_false, not_false_eq_true, or_true, true_or, or_false, false_or, false_and, and_false, Nat.reduceEqDiff, Nat.reduceLT, Nat.reduceMul, Nat.not_lt_zero, Nat.zero_le, Nat.le_refl, ne_eq, reduceIte, reduceCtorEq]
    rw [m_logAdd gt4 (n := ln) ?_ l1]
    · simp (disch := omega) only [e_iconst, e_bipush, e_sipush, e_iload_n, e_iload, e_aload_n, e_aload, e_istore_n, e_istore, e_astore_n, e_astore, e_iinc, e_iadd, e_isub, e_imul, e_iand, e_ishr, e_idiv, e_i2c, e_dup_i, e_dup_r, e_dup2, e_pop, e_goto, e_nop, e_if_eq, e_if_ne, e_if_lt, e_if_ge, e_if_gt, e_if_le, e_icmp_eq, e_icmp_ne, e_icmp_lt, e_icmp_ge, e_icmp_gt, e_icmp_le, e_tsw, e_ret0, e_ret1, e_retn, e_getI, e_getZ, e_getR, e_getV, e_getC, e_putI, e_putZ, e_putF, e_gst0, e_gst1, e_sld, e_iald, e_cald, e_bald, e_iast, e_cast, e_aald, e_aast, e_alen, e_slen, e_blen, e_newa, e_newq, e_new, e_oinit, e_ctor, e_virt, e_stat, e_min, e_copy, e_ldc, List.cons_append, List.nil_append, List.append_nil, List.length_cons, List.length_nil, List.replicate_succ, List.replicate_zero, List.getElem?_cons_zero, List.getElem?_cons_succ, List.set_cons_zero, List.set_cons_succ, List.take_succ_cons, List.take_zero, List.drop_succ_cons, List.drop_zero, List.reverse_cons, List.reverse_nil, Option.toList_some, Option.toList_none, Nat.reduceSub, Nat.reduceAdd, Nat.reduceLeDiff, true_and, and_true, and_self, Option.some.injEq, exists_eq_left', Nat.zero_add, Value.int.injEq, Value.ref.injEq, List.cons.injEq, exists_and_left, and_assoc, exists_eq_left, List.all_cons, List.all_nil, m1_i, m1_r, Bool.and_self, Bool.and_true, if_pos, if_neg, not_true_eq_false, not_false_eq_true, or_true, true_or, or_false, false_or, false_and, and_false, Nat.reduceEqDiff, Nat.reduceLT, Nat.reduceMul, Nat.not_lt_zero, Nat.zero_le, Nat.le_refl, ne_eq, reduceIte, reduceCtorEq]
    · simp (disch := omega) only [s_ne, wAp_o, hRm_o]; exact l2
  · refine REL_act g hv hn2 hH hP hT (fun x x1 x2 => by funext j; simp (disch := omega) only [lAd_o, s_ne, wAp_o]) (by funext j; simp (disch := omega) only [lAd_o, s_ne, wAp_o, hRm_o]) ?_
    have hng : ngp 1 clA cA = cA + 1 + clA := rfl
    rw [hng] at k3A
    refine RC_upd (fun z => z = s ∨ z = t) hv (fun z _ hz => ?_) (fun z hz1 hz2 => ⟨fun d hd => ?_, fun x x1 x2 => ?_⟩) ?_
    · rcases hz with rfl | rfl
      · refine ⟨1, 0, l, ⟨?_, ?_, ?_, by omega, by omega, by omega⟩, ⟨?_, ?_, ?_, by omega, by omega, by omega⟩, fun q => absurd q (by omega), fun _ => ?_, fun _ => ?_, fun k hk => ?_, fun i hi => ?_, fun q => absurd q (by omega)⟩
        · simp (disch := omega) only [lAd_o, s_ne, wAp_o, hRm_o]; exact f1A
        · simp (disch := omega) only [lAd_o, s_ne, s_eq]; rfl
        · simp (disch := omega) only [lAd_o, s_ne, s_eq]
        · simp (disch := omega) only [vTl_o, u_ne, vTr_o, vCc_o]; exact v1A
        · simp (disch := omega) only [vTl_o, u_ne, u_eq]; rfl
        · simp (disch := omega) only [vTl_o, u_ne, u_eq]
        · simp (disch := omega) only [lAd_o, s_ne, wAp_o, hRm_o, vTl_o, u_ne, vTr_o, vCc_o]; exact k1A rfl
        · simp (disch := omega) only [lAd_o, s_ne, wAp_o, hRm_o]; exact k2A rfl
        · have hk2 : k < l + 1 := hk
          simp (disch := omega) only [lAd_o, s_ne, wAp_o, hRm_o, vTl_o, u_ne, vTr_o, vCc_o]
          exact k3A k (by omega)
        · simp (disch := omega) only [lAd_o, s_ne, wAp_o, hRm_o, vTl_o, u_ne, vTr_o, vCc_o]
          exact k4A i (by omega)
      · refine ⟨1, clA, cA - l, ⟨?_, ?_, ?_, by omega, by omega, by omega⟩, ⟨?_, ?_, ?_, by omega, by omega, by omega⟩, fun q => absurd q (by omega), fun _ => ?_, fun _ => ?_, fun k hk => ?_, fun i hi => ?_, fun q => ?_⟩
        · simp (disch := omega) only [lAd_o, s_ne, wAp_o, s_eq]; rfl
        · simp (disch := omega) only [lAd_o, s_ne, s_eq]
        · simp (disch := omega) only [lAd_o, s_ne, s_eq]
        · simp (disch := omega) only [vTl_o, u_ne, u_eq]; rfl
        · simp (disch := omega) only [vTl_o, u_ne, u_eq]
        · simp (disch := omega) only [vTl_o, u_ne, u_eq]
        · simp (disch := omega) only [lAd_o, s_ne, s_eq, wAp_o, vTl_o, u_ne, u_eq]
        · simp (disch := omega) only [lAd_o, s_ne, s_eq, wAp_lo]
        · have hk2 : k < cA - l + 1 + clA := hk
          by_cases c1 : k = 0
          · subst c1
            simp (disch := omega) only [lAd_o, s_ne, s_eq, wAp_lo, vTl_o, u_ne, u_eq]
            exact ⟨trivial, trivial, okG_5⟩
          · obtain ⟨e, rfl⟩ : ∃ e, k = 0 + 1 + e := ⟨k - 1, by omega⟩
            simp (disch := omega) only [lAd_o, s_ne, wAp_i, hRm_o, vTl_o, u_ne, vTr_o, vCc_l, vCc_n]
            exact k3A (l + 1 + e) (by omega)
        · rw [show i + 1 = 0 + 1 + i by omega, show 98 * z + (68 + i) = 98 * z + (68 + (0 + i)) by omega]
          simp (disch := omega) only [lAd_o, s_ne, wAp_i, hRm_o, vTl_o, u_ne, vTr_i, vCc_o]
          have := k4A (l + i) (by omega)
          rw [show l + 1 + i = l + i + 1 by omega]
          exact this
        · rw [show cA - l + 1 = 0 + 1 + (cA - l) by omega]
          simp (disch := omega) only [lAd_o, s_ne, wAp_i, hRm_o]
          rw [show l + 1 + (cA - l) = cA + 1 by omega]
          exact k5A q
    · funext j; simp (disch := omega) only [lAd_o, s_ne, wAp_o, hRm_o]
    · simp (disch := omega) only [vTl_o, u_ne, vTr_o, vCc_o]
    · refine rE_mk ?_ ?_ ?_ ?_ ?_ ?_ ?_ ?_ ?_ (rL_add l1 ?_ ?_ (fun e he => ?_)) <;> simp (disch := omega) only [lAd_o, s_ne, s_eq, wAp_o, hRm_o, vTl_o, u_ne, u_eq, vTr_o, vCc_o, e2, e3, e4, e5, e6, e7, e8]
      · exact e9
      · exact e10
      · exact l2
      · exact l3
      · exact l4 e he
