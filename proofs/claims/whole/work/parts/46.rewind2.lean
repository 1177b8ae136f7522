/-! rewind -/
theorem RC_wire {I : Nat → Nat → Int32} {v : Nat → Int32} {s : Nat} (h : RC I 1 v) (hs : s < 6) (hp : I (7 + 4 * s) 3 = nI 1) : ∃ cl c, rW I (7 + 4 * s) v s 1 cl c := by
  obtain ⟨p, cl, c, hw⟩ := h.1 s hs
  rw [show 1 + 6 + 4 * s = 7 + 4 * s by omega] at hw
  have h1 := hw.1.1
  have h2 := hw.1.2.2.2.1
  rw [hp, n_eq (by omega) (by omega)] at h1
  subst h1
  exact ⟨cl, c, hw⟩
set_option maxHeartbeats 8000000 in
theorem wind_all {K : mK} {R : Nat → Nat → Option Nat} (h : zS K R 1) (hz : zM K R) {s u T : Nat} (hs : s < 6) (hu : u ≤ 9) (hT2 : T ≤ 30) : ∀ (d ti : Nat), ti + d = T → 1 ≤ ti → ∀ (I : Nat → Nat → Int32) (v : Nat → Int32) (l5 : Value), RC I 1 v → (∃ cl c, rW I (7 + 4 * s) v s 1 cl c) →
    ∃ t0 I2 v', Ev 29 (mB 29 3) [.ref 1, .int (nI s), .int (nI u), .int (nI T), .int (nI ti), l5] [] (K, R, I) (fun w k => w = some (.int (nI t0)) ∧ k = (K, R, I2)) ∧ RC I2 1 v' ∧ (∀ x, x = 0 ∨ 31 ≤ x → I2 x = I x) ∧
      ∀ J, J 195 = v → EvM 102 [.ref 194, .int (nI s), .int (nI u)] (K, R, J) (fun b k => ∃ bb, b = some (.int bb) ∧ Ev 103 (mB 103 58) [.ref 194, .int (nI s), .int (nI u), .int (nI T), .int (nI ti), .int bb] [] k (fun w k => w = some (.int (nI t0)) ∧ k = (K, R, rSet J 195 v'))) := by
  have m0 := hz.1
  intro d
  induction d with
  | zero =>
    intro ti hti ht1 I v l5 hv ⟨cl, c, hw⟩
    obtain ⟨e2, e3, e4, e5, e6, e7, e8, ⟨ru, ru1, ru2⟩, ⟨lm, lm0, lm1, lm2⟩, ln, l1, l2, l3, l4⟩ := id hv.2
    have hf := hw.1
    obtain ⟨x1, x2⟩ := str_eq (lm := lm) (u := u) hw ru2 lm2
    have x3 : fB (wBd I (7 + 4 * s) (I 1 2) (I 1 3) (nI u) (c + 1 + cl)) (c + 1 + cl) (c + 1 + cl) = fB (vBd v s (nI u) (c + 1 + cl)) (c + 1 + cl) (c + 1 + cl) := by rw [e2, e3, ru2, lm2]; exact x2
    have hr := fun (J : Nat → Nat → Int32) (Q : Option Value → mH → Prop) (hJ : J 195 = v) => @r_rewinds K R J s 1 cl c ru ln (nI u) Q hz hs (by rw [hJ]; exact hw.2.1) (by rw [hJ]; exact ru2) ru1 (by rw [hJ]; exact l3) l1
    have hrl : rLn I v ln := ⟨l1, l2, l3, l4⟩
    have fle := (fB_le (vBd v s (nI u) (c + 1 + cl)) (c + 1 + cl) (c + 1 + cl) (Nat.le_refl _)).1
    have hT : ti = T := by omega
    by_cases e : fB (vBd v s (nI u) (c + 1 + cl)) (c + 1 + cl) (c + 1 + cl) = c + 1 + cl
    · have w1 := W1_rel hv hs hu hw hrl e
      refine ⟨T, cW1 I s u (c + 1 + cl) ln, vR1 v s (nI u) (c + 1 + cl) ln, ?_, w1, fun x hx => ?_, fun J hJ => ?_⟩
      · rw [c_turn h hs hf l2 l1 (by omega) hT2 x3, if_pos e, B_29_3]
        simp (disch := omega) only [e_iconst, e_bipush, e_sipush, e_iload_n, e_iload, e_aload_n, e_aload, e_istore_n, e_istore, e_astore_n, e_astore, e_iinc, e_iadd, e_isub, e_imul, e_iand, e_ishr, e_idiv, e_i2c, e_dup_i, e_dup_r, e_dup2, e_pop, e_goto, e_nop, e_if_eq, e_if_ne, e_if_lt, e_if_ge, e_if_gt, e_if_le, e_icmp_eq, e_icmp_ne, e_icmp_lt, e_icmp_ge, e_icmp_gt, e_icmp_le, e_tsw, e_ret0, e_ret1, e_retn, e_getI, e_getZ, e_getR, e_getV, e_getC, e_putI, e_putZ, e_putF, e_gst0, e_gst1, e_sld, e_iald, e_cald, e_bald, e_iast, e_cast, e_aald, e_aast, e_alen, e_slen, e_blen, e_newa, e_newq, e_new, e_oinit, e_ctor, e_virt, e_stat, e_min, e_copy, e_ldc, List.cons_append, List.nil_append, List.append_nil, List.length_cons, List.length_nil, List.replicate_succ, List.replicate_zero, List.getElem?_cons_zero, List.getElem?_cons_succ, List.set_cons_zero, List.set_cons_succ, List.take_succ_cons, List.take_zero, List.drop_succ_cons, List.drop_zero, List.reverse_cons, List.reverse_nil, Option.toList_some, Option.toList_none, Nat.reduceSub, Nat.reduceAdd, Nat.reduceLeDiff, true_and, and_true, and_self, Option.some.injEq, exists_eq_left', Nat.zero_add, Value.int.injEq, Value.ref.injEq, List.cons.injEq, exists_and_left, and_assoc, exists_eq_left, bk_29_3, n_lt, if_pos, B_29_99, bk_29_99, if_pos, if_neg, not_true_eq_false, not_false_eq_true, or_true, true_or, or_false, false_or, false_and, and_false, Nat.reduceEqDiff, Nat.reduceLT, Nat.reduceMul, Nat.not_lt_zero, Nat.zero_le, Nat.le_refl, ne_eq, reduceIte, reduceCtorEq]
      · funext j; unfold cW1; simp (disch := omega) only [lAd_o, s_ne, wSt_o]
      · rw [hr J _ hJ, hJ, if_pos e, if_pos e]
        refine ⟨0, rfl, ?_⟩
        rw [B_103_58]
        simp (disch := omega) only [e_iconst, e_bipush, e_sipush, e_iload_n, e_iload, e_aload_n, e_aload, e_istore_n, e_istore, e_astore_n, e_astore, e_iinc, e_iadd, e_isub, e_imul, e_iand, e_ishr, e_idiv, e_i2c, e_dup_i, e_dup_r, e_dup2, e_pop, e_goto, e_nop, e_if_eq, e_if_ne, e_if_lt, e_if_ge, e_if_gt, e_if_le, e_icmp_eq, e_icmp_ne, e_icmp_lt, e_icmp_ge, e_icmp_gt, e_icmp_le, e_tsw, e_ret0, e_ret1, e_retn, e_getI, e_getZ, e_getR, e_getV, e_getC, e_putI, e_putZ, e_putF, e_gst0, e_gst1, e_sld, e_iald, e_cald, e_bald, e_iast, e_cast, e_aald, e_aast, e_alen, e_slen, e_blen, e_newa, e_newq, e_new, e_oinit, e_ctor, e_virt, e_stat, e_min, e_copy, e_ldc, List.cons_append, List.nil_append, List.append_nil, List.length_cons, List.length_nil, List.replicate_succ, List.replicate_zero, List.getElem?_cons_zero, List.getElem?_cons_succ, List.set_cons_zero, List.set_cons_succ, List.take_succ_cons, List.take_zero, List.drop_succ_cons, List.drop_zero, List.reverse_cons, List.reverse_nil, Option.toList_some, Option.toList_none, Nat.reduceSub, Nat.reduceAdd, Nat.reduceLeDiff, true_and, and_true, and_self, Option.some.injEq, exists_eq_left', Nat.zero_add, Value.int.injEq, Value.ref.injEq, List.cons.injEq, exists_and_left, and_assoc, exists_eq_left, bk_103_58, n_le, if_pos, B_103_83, bk_103_83, hT, Nat.le_refl, if_pos, if_neg, not_true_eq_false, not_false_eq_true, or_true, true_or, or_false, false_or, false_and, and_false, Nat.reduceEqDiff, Nat.reduceLT, Nat.reduceMul, Nat.not_lt_zero, Nat.zero_le, Nat.le_refl, ne_eq, reduceIte, reduceCtorEq]
    · have w2 := W2_rel hv hs hu hw hrl rfl (by omega)
      refine ⟨ti, _, _, ?_, w2, fun x hx => ?_, fun J hJ => ?_⟩
      · rw [c_turn h hs hf l2 l1 (by omega) hT2 x3, if_neg e]
        exact ⟨rfl, rfl⟩
      · funext j; unfold cW2 cW1; simp (disch := omega) only [lAd_o, s_ne, cBr_o, wSt_o]
      · rw [hr J _ hJ, hJ, if_neg e, if_neg e]
        refine ⟨1, rfl, ?_⟩
        rw [B_103_58]
        simp (disch := omega) only [e_iconst, e_bipush, e_sipush, e_iload_n, e_iload, e_aload_n, e_aload, e_istore_n, e_istore, e_astore_n, e_astore, e_iinc, e_iadd, e_isub, e_imul, e_iand, e_ishr, e_idiv, e_i2c, e_dup_i, e_dup_r, e_dup2, e_pop, e_goto, e_nop, e_if_eq, e_if_ne, e_if_lt, e_if_ge, e_if_gt, e_if_le, e_icmp_eq, e_icmp_ne, e_icmp_lt, e_icmp_ge, e_icmp_gt, e_icmp_le, e_tsw, e_ret0, e_ret1, e_retn, e_getI, e_getZ, e_getR, e_getV, e_getC, e_putI, e_putZ, e_putF, e_gst0, e_gst1, e_sld, e_iald, e_cald, e_bald, e_iast, e_cast, e_aald, e_aast, e_alen, e_slen, e_blen, e_newa, e_newq, e_new, e_oinit, e_ctor, e_virt, e_stat, e_min, e_copy, e_ldc, List.cons_append, List.nil_append, List.append_nil, List.length_cons, List.length_nil, List.replicate_succ, List.replicate_zero, List.getElem?_cons_zero, List.getElem?_cons_succ, List.set_cons_zero, List.set_cons_succ, List.take_succ_cons, List.take_zero, List.drop_succ_cons, List.drop_zero, List.reverse_cons, List.reverse_nil, Option.toList_some, Option.toList_none, Nat.reduceSub, Nat.reduceAdd, Nat.reduceLeDiff, true_and, and_true, and_self, Option.some.injEq, exists_eq_left', Nat.zero_add, Value.int.injEq, Value.ref.injEq, List.cons.injEq, exists_and_left, and_assoc, exists_eq_left, bk_103_58, o_eq, B_103_83, bk_103_83, if_pos, if_neg, not_true_eq_false, not_false_eq_true, or_true, true_or, or_false, false_or, false_and, and_false, Nat.reduceEqDiff, Nat.reduceLT, Nat.reduceMul, Nat.not_lt_zero, Nat.zero_le, Nat.le_refl, ne_eq, reduceIte, reduceCtorEq]
  | succ d ih =>
    intro ti hti ht1 I v l5 hv ⟨cl, c, hw⟩
    obtain ⟨e2, e3, e4, e5, e6, e7, e8, ⟨ru, ru1, ru2⟩, ⟨lm, lm0, lm1, lm2⟩, ln, l1, l2, l3, l4⟩ := id hv.2
    have hf := hw.1
    obtain ⟨x1, x2⟩ := str_eq (lm := lm) (u := u) hw ru2 lm2
    have x3 : fB (wBd I (7 + 4 * s) (I 1 2) (I 1 3) (nI u) (c + 1 + cl)) (c + 1 + cl) (c + 1 + cl) = fB (vBd v s (nI u) (c + 1 + cl)) (c + 1 + cl) (c + 1 + cl) := by rw [e2, e3, ru2, lm2]; exact x2
    have hr := fun (J : Nat → Nat → Int32) (Q : Option Value → mH → Prop) (hJ : J 195 = v) => @r_rewinds K R J s 1 cl c ru ln (nI u) Q hz hs (by rw [hJ]; exact hw.2.1) (by rw [hJ]; exact ru2) ru1 (by rw [hJ]; exact l3) l1
    have hrl : rLn I v ln := ⟨l1, l2, l3, l4⟩
    have fle := (fB_le (vBd v s (nI u) (c + 1 + cl)) (c + 1 + cl) (c + 1 + cl) (Nat.le_refl _)).1
    by_cases e : fB (vBd v s (nI u) (c + 1 + cl)) (c + 1 + cl) (c + 1 + cl) = c + 1 + cl
    · have w1 := W1_rel hv hs hu hw hrl e
      obtain ⟨t0, I2, v', y1, y2, y3, y4⟩ := ih (ti + 1) (by omega) (by omega) (cW1 I s u (c + 1 + cl) ln) (vR1 v s (nI u) (c + 1 + cl) ln) (.int (-1)) w1 (RC_wire w1 hs (by
        unfold cW1; simp (disch := omega) only [lAd_o, s_ne, wSt_o]; exact hf.1))
      refine ⟨t0, I2, v', ?_, y2, fun x hx => ?_, fun J hJ => ?_⟩
      · rw [c_turn h hs hf l2 l1 (by omega) hT2 x3, if_pos e]
        exact y1
      · rw [y3 x hx]; funext j; unfold cW1; simp (disch := omega) only [lAd_o, s_ne, wSt_o]
      · rw [hr J _ hJ, hJ, if_pos e, if_pos e]
        refine ⟨0, rfl, ?_⟩
        have y5 := y4 (rSet J 195 (vR1 v s (nI u) (c + 1 + cl) ln)) rSet_s
        rw [B_103_58]
        simp (disch := omega) only [e_iconst, e_bipush, e_sipush, e_iload_n, e_iload, e_aload_n, e_aload, e_istore_n, e_istore, e_astore_n, e_astore, e_iinc, e_iadd, e_isub, e_imul, e_iand, e_ishr, e_idiv, e_i2c, e_dup_i, e_dup_r, e_dup2, e_pop, e_goto, e_nop, e_if_eq, e_if_ne, e_if_lt, e_if_ge, e_if_gt, e_if_le, e_icmp_eq, e_icmp_ne, e_icmp_lt, e_icmp_ge, e_icmp_gt, e_icmp_le, e_tsw, e_ret0, e_ret1, e_retn, e_getI, e_getZ, e_getR, e_getV, e_getC, e_putI, e_putZ, e_putF, e_gst0, e_gst1, e_sld, e_iald, e_cald, e_bald, e_iast, e_cast, e_aald, e_aast, e_alen, e_slen, e_blen, e_newa, e_newq, e_new, e_oinit, e_ctor, e_virt, e_stat, e_min, e_copy, e_ldc, List.cons_append, List.nil_append, List.append_nil, List.length_cons, List.length_nil, List.replicate_succ, List.replicate_zero, List.getElem?_cons_zero, List.getElem?_cons_succ, List.set_cons_zero, List.set_cons_succ, List.take_succ_cons, List.take_zero, List.drop_succ_cons, List.drop_zero, List.reverse_cons, List.reverse_nil, Option.toList_some, Option.toList_none, Nat.reduceSub, Nat.reduceAdd, Nat.reduceLeDiff, true_and, and_true, and_self, Option.some.injEq, exists_eq_left', Nat.zero_add, Value.int.injEq, Value.ref.injEq, List.cons.injEq, exists_and_left, and_assoc, exists_eq_left, bk_103_58, m0, n_le, if_neg, o_eq, C_102, if_pos, if_neg, not_true_eq_false, not_false_eq_true, or_true, true_or, or_false, false_or, false_and, and_false, Nat.reduceEqDiff, Nat.reduceLT, Nat.reduceMul, Nat.not_lt_zero, Nat.zero_le, Nat.le_refl, ne_eq, reduceIte, reduceCtorEq]
        refine EvM_mono ?_ y5
        rintro b k ⟨bb, rfl, hb⟩
        simp (disch := omega) only [e_iconst, e_bipush, e_sipush, e_iload_n, e_iload, e_aload_n, e_aload, e_istore_n, e_istore, e_astore_n, e_astore, e_iinc, e_iadd, e_isub, e_imul, e_iand, e_ishr, e_idiv, e_i2c, e_dup_i, e_dup_r, e_dup2, e_pop, e_goto, e_nop, e_if_eq, e_if_ne, e_if_lt, e_if_ge, e_if_gt, e_if_le, e_icmp_eq, e_icmp_ne, e_icmp_lt, e_icmp_ge, e_icmp_gt, e_icmp_le, e_tsw, e_ret0, e_ret1, e_retn, e_getI, e_getZ, e_getR, e_getV, e_getC, e_putI, e_putZ, e_putF, e_gst0, e_gst1, e_sld, e_iald, e_cald, e_bald, e_iast, e_cast, e_aald, e_aast, e_alen, e_slen, e_blen, e_newa, e_newq, e_new, e_oinit, e_ctor, e_virt, e_stat, e_min, e_copy, e_ldc, List.cons_append, List.nil_append, List.append_nil, List.length_cons, List.length_nil, List.replicate_succ, List.replicate_zero, List.getElem?_cons_zero, List.getElem?_cons_succ, List.set_cons_zero, List.set_cons_succ, List.take_succ_cons, List.take_zero, List.drop_succ_cons, List.drop_zero, List.reverse_cons, List.reverse_nil, Option.toList_some, Option.toList_none, Nat.reduceSub, Nat.reduceAdd, Nat.reduceLeDiff, true_and, and_true, and_self, Option.some.injEq, exists_eq_left', Nat.zero_add, Value.int.injEq, Value.ref.injEq, List.cons.injEq, exists_and_left, and_assoc, exists_eq_left, o_add_l, if_pos, if_neg, not_true_eq_false, not_false_eq_true, or_true, true_or, or_false, false_or, false_and, and_false, Nat.reduceEqDiff, Nat.reduceLT, Nat.reduceMul, Nat.not_lt_zero, Nat.zero_le, Nat.le_refl, ne_eq, reduceIte, reduceCtorEq]
        rw [rs_rs] at hb
        exact hb
    · have w2 := W2_rel hv hs hu hw hrl rfl (by omega)
      refine ⟨ti, _, _, ?_, w2, fun x hx => ?_, fun J hJ => ?_⟩
      · rw [c_turn h hs hf l2 l1 (by omega) hT2 x3, if_neg e]
        exact ⟨rfl, rfl⟩
      · funext j; unfold cW2 cW1; simp (disch := omega) only [lAd_o, s_ne, cBr_o, wSt_o]
      · rw [hr J _ hJ, hJ, if_neg e, if_neg e]
        refine ⟨1, rfl, ?_⟩
        rw [B_103_58]
        simp (disch := omega) only [e_iconst, e_bipush, e_sipush, e_iload_n, e_iload, e_aload_n, e_aload, e_istore_n, e_istore, e_astore_n, e_astore, e_iinc, e_iadd, e_isub, e_imul, e_iand, e_ishr, e_idiv, e_i2c, e_dup_i, e_dup_r, e_dup2, e_pop, e_goto, e_nop, e_if_eq, e_if_ne, e_if_lt, e_if_ge, e_if_gt, e_if_le, e_icmp_eq, e_icmp_ne, e_icmp_lt, e_icmp_ge, e_icmp_gt, e_icmp_le, e_tsw, e_ret0, e_ret1, e_retn, e_getI, e_getZ, e_getR, e_getV, e_getC, e_putI, e_putZ, e_putF, e_gst0, e_gst1, e_sld, e_iald, e_cald, e_bald, e_iast, e_cast, e_aald, e_aast, e_alen, e_slen, e_blen, e_newa, e_newq, e_new, e_oinit, e_ctor, e_virt, e_stat, e_min, e_copy, e_ldc, List.cons_append, List.nil_append, List.append_nil, List.length_cons, List.length_nil, List.replicate_succ, List.replicate_zero, List.getElem?_cons_zero, List.getElem?_cons_succ, List.set_cons_zero, List.set_cons_succ, List.take_succ_cons, List.take_zero, List.drop_succ_cons, List.drop_zero, List.reverse_cons, List.reverse_nil, Option.toList_some, Option.toList_none, Nat.reduceSub, Nat.reduceAdd, Nat.reduceLeDiff, true_and, and_true, and_self, Option.some.injEq, exists_eq_left', Nat.zero_add, Value.int.injEq, Value.ref.injEq, List.cons.injEq, exists_and_left, and_assoc, exists_eq_left, bk_103_58, o_eq, B_103_83, bk_103_83, if_pos, if_neg, not_true_eq_false, not_false_eq_true, or_true, true_or, or_false, false_or, false_and, and_false, Nat.reduceEqDiff, Nat.reduceLT, Nat.reduceMul, Nat.not_lt_zero, Nat.zero_le, Nat.le_refl, ne_eq, reduceIte, reduceCtorEq]
