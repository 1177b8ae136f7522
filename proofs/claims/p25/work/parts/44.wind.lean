/-! THE CLASS's REWINDING of a state's wire -/
def kLet (c f : Nat) : Nat := if f = 0 then 0 else if c < f - 1 then c else f - 1
def cBr (X : Nat → Nat → Int32) (a c f : Nat) : Nat → Nat → Int32 := if f = 0 then mSet (mSet (mSet (mSet X a 3 0) a 4 0) a 5 0) a 6 0 else mSet (mSet X a 5 (nI (kLet c f))) a 4 0
def cW2 (X : Nat → Nat → Int32) (s c n f ln : Nat) : Nat → Nat → Int32 := lAd (mSet (mSet (cBr X (7 + 4 * s) c f) 1 7 (X 1 7 + 1)) 1 8 (X 1 8 + nI (c - kLet c f))) 3 ln 2 (nI s) (nI (n - f))
theorem cBr_o {X : Nat → Nat → Int32} {a c f x j : Nat} (h : x ≠ a ∨ j < 3 ∨ 6 < j) : cBr X a c f x j = X x j := by
  unfold cBr
  split <;> simp (disch := omega) only [s_ne]
theorem cBr_5 {X : Nat → Nat → Int32} {a c f : Nat} : cBr X a c f a 5 = nI (kLet c f) := by
  unfold cBr
  split
  · rename_i h; subst h; simp (disch := omega) only [s_ne, s_eq]; rfl
  · simp (disch := omega) only [s_ne, s_eq]
theorem cBr_4 {X : Nat → Nat → Int32} {a c f : Nat} : cBr X a c f a 4 = 0 := by
  unfold cBr
  split <;> simp (disch := omega) only [s_ne, s_eq]
theorem lAd_n {I : Nat → Nat → Int32} {a n : Nat} {kd sp nu : Int32} (h : n ≤ 10) : lAd I a n kd sp nu a 3 = nI (lnx n) := by
  by_cases e : n = 10
  · subst e; simp (disch := omega) only [lAd, lnx, if_pos, if_neg, and_self, if_true]
  · simp (disch := omega) only [lAd, lnx, if_pos, if_neg, and_self, if_true]
theorem lnx_le {n : Nat} (h : n ≤ 10) : lnx n ≤ 10 := by unfold lnx; split <;> omega
theorem kLet_le (c f : Nat) : kLet c f ≤ c := by unfold kLet; split; omega; split <;> omega
set_option maxHeartbeats 8000000 in
theorem m_break {K : mK} {R : Nat → Nat → Option Nat} {X : Nat → Nat → Int32} {s cl c f ln : Nat} {Q : Option Value → mH → Prop} (h : zS K R 1) (hs : s < 6) (hf : wF X (7 + 4 * s) 1 cl c) (hfn : f < c + 1 + cl) (hl : X 3 3 = nI ln) (hl2 : ln ≤ 10) :
    EvM 30 [.ref 1, .int (nI s), .int (nI f)] (K, R, X) Q ↔ Q none (K, R, cW2 X s c (c + 1 + cl) f ln) := by
  have gs0 : K.2.2.1 1 = (1, 4) := h.1
  have gs1 : R 1 0 = some 2 := h.2.1
  have gs2 : K.2.2.1 2 = (4, 6) := h.2.2.1
  have gs3 : R 1 1 = some 3 := h.2.2.2.1
  have gs4 : zL K R 3 := h.2.2.2.2.1
  have gsl : K.2.2.1 3 = (1, 2) := gs4.1
  have zw : zW K R (7 + 4 * s) := (h.2.2.2.2.2.2 s hs).2
  have rw0 : R 2 s = some (7 + 4 * s) := (h.2.2.2.2.2.2 s hs).1
  have zw0 := zw.1
  obtain ⟨f1, f2, f3, f4, f5, f6⟩ := id hf
  have hg : ngp 1 cl c = c + 1 + cl := rfl
  have hb : EvM 52 [.ref (7 + 4 * s), .int (nI f)] (K, R, X) (fun v k => v = none ∧ k = (K, R, cBr X (7 + 4 * s) c f)) := by
    rw [m_breakAt zw f3 f6 (by omega)]
    refine ⟨rfl, ?_⟩
    unfold cBr kLet
    by_cases e : f = 0
    · rw [if_pos e, if_pos e]
    · rw [if_neg e, if_neg e, if_neg e]
  have kl := kLet_le c f
  refine EvM_iff ?_
  rw [E_in 30, B_30_0]
  simp (disch := omega) only [e_iconst, e_bipush, e_sipush, e_iload_n, e_iload, e_aload_n, e_aload, e_istore_n, e_istore, e_astore_n, e_astore, e_iinc, e_iadd, e_isub, e_imul, e_iand, e_ishr, e_idiv, e_i2c, e_dup_i, e_dup_r, e_dup2, e_pop, e_goto, e_nop, e_if_eq, e_if_ne, e_if_lt, e_if_ge, e_if_gt, e_if_le, e_icmp_eq, e_icmp_ne, e_icmp_lt, e_icmp_ge, e_icmp_gt, e_icmp_le, e_tsw, e_ret0, e_ret1, e_retn, e_getI, e_getZ, e_getR, e_getV, e_getC, e_putI, e_putZ, e_putF, e_gst0, e_gst1, e_sld, e_iald, e_cald, e_bald, e_iast, e_cast, e_aald, e_aast, e_alen, e_slen, e_blen, e_newa, e_newq, e_new, e_oinit, e_ctor, e_virt, e_stat, e_min, e_copy, e_ldc, List.cons_append, List.nil_append, List.append_nil, List.length_cons, List.length_nil, List.replicate_succ, List.replicate_zero, List.getElem?_cons_zero, List.getElem?_cons_succ, List.set_cons_zero, List.set_cons_succ, List.take_succ_cons, List.take_zero, List.drop_succ_cons, List.drop_zero, List.reverse_cons, List.reverse_nil, Option.toList_some, Option.toList_none, Nat.reduceSub, Nat.reduceAdd, Nat.reduceLeDiff, true_and, and_true, and_self, Option.some.injEq, exists_eq_left', Nat.zero_add, Value.int.injEq, Value.ref.injEq, List.cons.injEq, exists_and_left, and_assoc, exists_eq_left, List.all_cons, List.all_nil, m1_i, m1_r, Bool.and_self, Bool.and_true, N_30, bk_30_0, gs0, gs1, gs2, rw0, zw0, n_in, n_cl, true_or, or_true, C_37, C_52, C_14, m_gapsN zw hf, hg, n_sub, f3, EvM_iff hb, s_ne, cBr_o, cBr_5, gs3, gsl, if_pos, if_neg, not_true_eq_false, not_false_eq_true, or_true, true_or, or_false, false_or, false_and, and_false, Nat.reduceEqDiff, Nat.reduceLT, Nat.reduceMul, Nat.not_lt_zero, Nat.zero_le, Nat.le_refl, ne_eq, reduceIte, reduceCtorEq]
  rw [m_logAdd gs4 (n := ln) ?_ hl2]
  · simp (disch := omega) only [e_iconst, e_bipush, e_sipush, e_iload_n, e_iload, e_aload_n, e_aload, e_istore_n, e_istore, e_astore_n, e_astore, e_iinc, e_iadd, e_isub, e_imul, e_iand, e_ishr, e_idiv, e_i2c, e_dup_i, e_dup_r, e_dup2, e_pop, e_goto, e_nop, e_if_eq, e_if_ne, e_if_lt, e_if_ge, e_if_gt, e_if_le, e_icmp_eq, e_icmp_ne, e_icmp_lt, e_icmp_ge, e_icmp_gt, e_icmp_le, e_tsw, e_ret0, e_ret1, e_retn, e_getI, e_getZ, e_getR, e_getV, e_getC, e_putI, e_putZ, e_putF, e_gst0, e_gst1, e_sld, e_iald, e_cald, e_bald, e_iast, e_cast, e_aald, e_aast, e_alen, e_slen, e_blen, e_newa, e_newq, e_new, e_oinit, e_ctor, e_virt, e_stat, e_min, e_copy, e_ldc, List.cons_append, List.nil_append, List.append_nil, List.length_cons, List.length_nil, List.replicate_succ, List.replicate_zero, List.getElem?_cons_zero, List.getElem?_cons_succ, List.set_cons_zero, List.set_cons_succ, List.take_succ_cons, List.take_zero, List.drop_succ_cons, List.drop_zero, List.reverse_cons, List.reverse_nil, Option.toList_some, Option.toList_none, Nat.reduceSub, Nat.reduceAdd, Nat.reduceLeDiff, true_and, and_true, and_self, Option.some.injEq, exists_eq_left', Nat.zero_add, Value.int.injEq, Value.ref.injEq, List.cons.injEq, exists_and_left, and_assoc, exists_eq_left, List.all_cons, List.all_nil, m1_i, m1_r, Bool.and_self, Bool.and_true, if_pos, if_neg, not_true_eq_false, not_false_eq_true, or_true, true_or, or_false, false_or, false_and, and_false, Nat.reduceEqDiff, Nat.reduceLT, Nat.reduceMul, Nat.not_lt_zero, Nat.zero_le, Nat.le_refl, ne_eq, reduceIte, reduceCtorEq]
    rfl
  · simp (disch := omega) only [s_ne, cBr_o]; exact hl
def cW1 (I : Nat → Nat → Int32) (s u n ln : Nat) : Nat → Nat → Int32 := lAd (mSet (mSet (mSet (wSt I (7 + 4 * s) (I 1 2) (nI u) n n) (7 + 4 * s) 6 (I (7 + 4 * s) 6 + 1)) 1 6 (I 1 6 + 1)) 1 4 (I 1 4 + (10 - nI u))) 3 ln 1 (nI s) (nI u)
set_option maxHeartbeats 8000000 in
/-- one turn of the class's loop -/
theorem c_turn {K : mK} {R : Nat → Nat → Option Nat} {I : Nat → Nat → Int32} {s cl c u ln T ti f : Nat} {l5 : Value} {Q : Option Value → mH → Prop} (h : zS K R 1) (hs : s < 6) (hf : wF I (7 + 4 * s) 1 cl c) (hl : I 3 3 = nI ln) (hl2 : ln ≤ 10) (hT : ti ≤ T) (hT2 : T ≤ 30)
    (hff : fB (wBd I (7 + 4 * s) (I 1 2) (I 1 3) (nI u) (c + 1 + cl)) (c + 1 + cl) (c + 1 + cl) = f) :
    Ev 29 (mB 29 3) [.ref 1, .int (nI s), .int (nI u), .int (nI T), .int (nI ti), l5] [] (K, R, I) Q ↔
      if f = c + 1 + cl then Ev 29 (mB 29 3) [.ref 1, .int (nI s), .int (nI u), .int (nI T), .int (nI (ti + 1)), .int (-1)] [] (K, R, cW1 I s u (c + 1 + cl) ln) Q
      else Q (some (.int (nI ti))) (K, R, cW2 (cW1 I s u (c + 1 + cl) ln) s c (c + 1 + cl) f (lnx ln)) := by
  have gs0 : K.2.2.1 1 = (1, 4) := h.1
  have gs1 : R 1 0 = some 2 := h.2.1
  have gs2 : K.2.2.1 2 = (4, 6) := h.2.2.1
  have gs3 : R 1 1 = some 3 := h.2.2.2.1
  have gs4 : zL K R 3 := h.2.2.2.2.1
  have gsl : K.2.2.1 3 = (1, 2) := gs4.1
  have zw : zW K R (7 + 4 * s) := (h.2.2.2.2.2.2 s hs).2
  have rw0 : R 2 s = some (7 + 4 * s) := (h.2.2.2.2.2.2 s hs).1
  have zw0 := zw.1
  obtain ⟨f1, f2, f3, f4, f5, f6⟩ := id hf
  have hg : ngp 1 cl c = c + 1 + cl := rfl
  have hst := @m_stretch K R I (7 + 4 * s) 1 cl c (I 1 2) (I 1 3) (nI u)
  rw [hg, hff] at hst
  conv => lhs; rw [B_29_3]
  simp (disch := omega) only [e_iconst, e_bipush, e_sipush, e_iload_n, e_iload, e_aload_n, e_aload, e_istore_n, e_istore, e_astore_n, e_astore, e_iinc, e_iadd, e_isub, e_imul, e_iand, e_ishr, e_idiv, e_i2c, e_dup_i, e_dup_r, e_dup2, e_pop, e_goto, e_nop, e_if_eq, e_if_ne, e_if_lt, e_if_ge, e_if_gt, e_if_le, e_icmp_eq, e_icmp_ne, e_icmp_lt, e_icmp_ge, e_icmp_gt, e_icmp_le, e_tsw, e_ret0, e_ret1, e_retn, e_getI, e_getZ, e_getR, e_getV, e_getC, e_putI, e_putZ, e_putF, e_gst0, e_gst1, e_sld, e_iald, e_cald, e_bald, e_iast, e_cast, e_aald, e_aast, e_alen, e_slen, e_blen, e_newa, e_newq, e_new, e_oinit, e_ctor, e_virt, e_stat, e_min, e_copy, e_ldc, List.cons_append, List.nil_append, List.append_nil, List.length_cons, List.length_nil, List.replicate_succ, List.replicate_zero, List.getElem?_cons_zero, List.getElem?_cons_succ, List.set_cons_zero, List.set_cons_succ, List.take_succ_cons, List.take_zero, List.drop_succ_cons, List.drop_zero, List.reverse_cons, List.reverse_nil, Option.toList_some, Option.toList_none, Nat.reduceSub, Nat.reduceAdd, Nat.reduceLeDiff, true_and, and_true, and_self, Option.some.injEq, exists_eq_left', Nat.zero_add, Value.int.injEq, Value.ref.injEq, List.cons.injEq, exists_and_left, and_assoc, exists_eq_left, List.all_cons, List.all_nil, m1_i, m1_r, Bool.and_self, Bool.and_true, bk_29_3, n_lt, if_neg, gs0, gs1, gs2, rw0, zw0, n_in, n_cl, true_or, or_true, C_51, C_14, hst zw hf, s_ne, wSt_o, gs3, gsl, if_pos, if_neg, not_true_eq_false, not_false_eq_true, or_true, true_or, or_false, false_or, false_and, and_false, Nat.reduceEqDiff, Nat.reduceLT, Nat.reduceMul, Nat.not_lt_zero, Nat.zero_le, Nat.le_refl, ne_eq, reduceIte, reduceCtorEq]
  rw [m_logAdd gs4 (n := ln) ?_ hl2]
  · by_cases e : f = c + 1 + cl
    · simp (disch := omega) only [e_iconst, e_bipush, e_sipush, e_iload_n, e_iload, e_aload_n, e_aload, e_istore_n, e_istore, e_astore_n, e_astore, e_iinc, e_iadd, e_isub, e_imul, e_iand, e_ishr, e_idiv, e_i2c, e_dup_i, e_dup_r, e_dup2, e_pop, e_goto, e_nop, e_if_eq, e_if_ne, e_if_lt, e_if_ge, e_if_gt, e_if_le, e_icmp_eq, e_icmp_ne, e_icmp_lt, e_icmp_ge, e_icmp_gt, e_icmp_le, e_tsw, e_ret0, e_ret1, e_retn, e_getI, e_getZ, e_getR, e_getV, e_getC, e_putI, e_putZ, e_putF, e_gst0, e_gst1, e_sld, e_iald, e_cald, e_bald, e_iast, e_cast, e_aald, e_aast, e_alen, e_slen, e_blen, e_newa, e_newq, e_new, e_oinit, e_ctor, e_virt, e_stat, e_min, e_copy, e_ldc, List.cons_append, List.nil_append, List.append_nil, List.length_cons, List.length_nil, List.replicate_succ, List.replicate_zero, List.getElem?_cons_zero, List.getElem?_cons_succ, List.set_cons_zero, List.set_cons_succ, List.take_succ_cons, List.take_zero, List.drop_succ_cons, List.drop_zero, List.reverse_cons, List.reverse_nil, Option.toList_some, Option.toList_none, Nat.reduceSub, Nat.reduceAdd, Nat.reduceLeDiff, true_and, and_true, and_self, Option.some.injEq, exists_eq_left', Nat.zero_add, Value.int.injEq, Value.ref.injEq, List.cons.injEq, exists_and_left, and_assoc, exists_eq_left, List.all_cons, List.all_nil, m1_i, m1_r, Bool.and_self, Bool.and_true, e, if_true, B_29_93, bk_29_93, o_add_l, if_pos, if_neg, not_true_eq_false, not_false_eq_true, or_true, true_or, or_false, false_or, false_and, and_false, Nat.reduceEqDiff, Nat.reduceLT, Nat.reduceMul, Nat.not_lt_zero, Nat.zero_le, Nat.le_refl, ne_eq, reduceIte, reduceCtorEq]
      exact Iff.rfl
    · have fl : f < c + 1 + cl := by
        have := (fB_le (wBd I (7 + 4 * s) (I 1 2) (I 1 3) (nI u) (c + 1 + cl)) (c + 1 + cl) (c + 1 + cl) (Nat.le_refl _)).1
        omega
      simp (disch := omega) only [e_iconst, e_bipush, e_sipush, e_iload_n, e_iload, e_aload_n, e_aload, e_istore_n, e_istore, e_astore_n, e_astore, e_iinc, e_iadd, e_isub, e_imul, e_iand, e_ishr, e_idiv, e_i2c, e_dup_i, e_dup_r, e_dup2, e_pop, e_goto, e_nop, e_if_eq, e_if_ne, e_if_lt, e_if_ge, e_if_gt, e_if_le, e_icmp_eq, e_icmp_ne, e_icmp_lt, e_icmp_ge, e_icmp_gt, e_icmp_le, e_tsw, e_ret0, e_ret1, e_retn, e_getI, e_getZ, e_getR, e_getV, e_getC, e_putI, e_putZ, e_putF, e_gst0, e_gst1, e_sld, e_iald, e_cald, e_bald, e_iast, e_cast, e_aald, e_aast, e_alen, e_slen, e_blen, e_newa, e_newq, e_new, e_oinit, e_ctor, e_virt, e_stat, e_min, e_copy, e_ldc, List.cons_append, List.nil_append, List.append_nil, List.length_cons, List.length_nil, List.replicate_succ, List.replicate_zero, List.getElem?_cons_zero, List.getElem?_cons_succ, List.set_cons_zero, List.set_cons_succ, List.take_succ_cons, List.take_zero, List.drop_succ_cons, List.drop_zero, List.reverse_cons, List.reverse_nil, Option.toList_some, Option.toList_none, Nat.reduceSub, Nat.reduceAdd, Nat.reduceLeDiff, true_and, and_true, and_self, Option.some.injEq, exists_eq_left', Nat.zero_add, Value.int.injEq, Value.ref.injEq, List.cons.injEq, exists_and_left, and_assoc, exists_eq_left, List.all_cons, List.all_nil, m1_i, m1_r, Bool.and_self, Bool.and_true, e, if_neg, if_false, n_m1, gs0, C_30, if_pos, if_neg, not_true_eq_false, not_false_eq_true, or_true, true_or, or_false, false_or, false_and, and_false, Nat.reduceEqDiff, Nat.reduceLT, Nat.reduceMul, Nat.not_lt_zero, Nat.zero_le, Nat.le_refl, ne_eq, reduceIte, reduceCtorEq]
      rw [m_break h hs (cl := cl) (c := c) (ln := lnx ln) ?_ fl ?_ ?_]
      · simp (disch := omega) only [e_iconst, e_bipush, e_sipush, e_iload_n, e_iload, e_aload_n, e_aload, e_istore_n, e_istore, e_astore_n, e_astore, e_iinc, e_iadd, e_isub, e_imul, e_iand, e_ishr, e_idiv, e_i2c, e_dup_i, e_dup_r, e_dup2, e_pop, e_goto, e_nop, e_if_eq, e_if_ne, e_if_lt, e_if_ge, e_if_gt, e_if_le, e_icmp_eq, e_icmp_ne, e_icmp_lt, e_icmp_ge, e_icmp_gt, e_icmp_le, e_tsw, e_ret0, e_ret1, e_retn, e_getI, e_getZ, e_getR, e_getV, e_getC, e_putI, e_putZ, e_putF, e_gst0, e_gst1, e_sld, e_iald, e_cald, e_bald, e_iast, e_cast, e_aald, e_aast, e_alen, e_slen, e_blen, e_newa, e_newq, e_new, e_oinit, e_ctor, e_virt, e_stat, e_min, e_copy, e_ldc, List.cons_append, List.nil_append, List.append_nil, List.length_cons, List.length_nil, List.replicate_succ, List.replicate_zero, List.getElem?_cons_zero, List.getElem?_cons_succ, List.set_cons_zero, List.set_cons_succ, List.take_succ_cons, List.take_zero, List.drop_succ_cons, List.drop_zero, List.reverse_cons, List.reverse_nil, Option.toList_some, Option.toList_none, Nat.reduceSub, Nat.reduceAdd, Nat.reduceLeDiff, true_and, and_true, and_self, Option.some.injEq, exists_eq_left', Nat.zero_add, Value.int.injEq, Value.ref.injEq, List.cons.injEq, exists_and_left, and_assoc, exists_eq_left, List.all_cons, List.all_nil, m1_i, m1_r, Bool.and_self, Bool.and_true, if_pos, if_neg, not_true_eq_false, not_false_eq_true, or_true, true_or, or_false, false_or, false_and, and_false, Nat.reduceEqDiff, Nat.reduceLT, Nat.reduceMul, Nat.not_lt_zero, Nat.zero_le, Nat.le_refl, ne_eq, reduceIte, reduceCtorEq]
        exact Iff.rfl
      · refine ⟨?_, ?_, ?_, f4, f5, f6⟩ <;> simp (disch := omega) only [lAd_o, s_ne, wSt_o]
        · exact f1
        · exact f2
        · exact f3
      · exact lAd_n hl2
      · exact lnx_le hl2
  · simp (disch := omega) only [s_ne, wSt_o]; exact hl
