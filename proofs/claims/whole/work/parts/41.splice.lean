/-! splice -/
/-- the row after m gaps of the wire src from l + 1 on went behind d letters of dst -/
def vCc (v : Nat → Int32) (src l dst d m : Nat) : Nat → Int32 := fun x =>
  if 98 * dst + (4 + (d + 1)) ≤ x ∧ x < 98 * dst + (4 + (d + 1)) + m then v (98 * src + (4 + (l + 1 + (x - (98 * dst + (4 + (d + 1)))))))
  else if 98 * dst + (36 + (d + 1)) ≤ x ∧ x < 98 * dst + (36 + (d + 1)) + m then v (98 * src + (36 + (l + 1 + (x - (98 * dst + (36 + (d + 1))))))) else v x
theorem vCc_o {v : Nat → Int32} {src l dst d m x : Nat} (h : ¬ (98 * dst + (4 + (d + 1)) ≤ x ∧ x < 98 * dst + (4 + (d + 1)) + m) ∧ ¬ (98 * dst + (36 + (d + 1)) ≤ x ∧ x < 98 * dst + (36 + (d + 1)) + m)) : vCc v src l dst d m x = v x := by
  unfold vCc
  rw [if_neg h.1, if_neg h.2]
theorem vCc_l {v : Nat → Int32} {src l dst d m k : Nat} (hk : k < m) : vCc v src l dst d m (98 * dst + (4 + (d + 1 + k))) = v (98 * src + (4 + (l + 1 + k))) := by
  unfold vCc
  rw [if_pos (by omega)]
  congr 2
  omega
theorem vCc_n {v : Nat → Int32} {src l dst d m k : Nat} (hk : k < m) (hm : d + 1 + m ≤ 32) : vCc v src l dst d m (98 * dst + (36 + (d + 1 + k))) = v (98 * src + (36 + (l + 1 + k))) := by
  unfold vCc
  rw [if_neg (by omega), if_pos (by omega)]
  congr 2
  omega
theorem vCc_s {v : Nat → Int32} {src l dst d k : Nat} (h2 : d + 1 + k < 32) : vU (vU (vCc v src l dst d k) (98 * dst + (4 + (d + 1 + k))) (v (98 * src + (4 + (l + 1 + k))))) (98 * dst + (36 + (d + 1 + k))) (v (98 * src + (36 + (l + 1 + k)))) = vCc v src l dst d (k + 1) := by
  funext x
  by_cases c1 : x = 98 * dst + (36 + (d + 1 + k))
  · subst c1; rw [u_eq, vCc_n (by omega) (by omega)]
  · rw [u_ne c1]
    by_cases c2 : x = 98 * dst + (4 + (d + 1 + k))
    · subst c2; rw [u_eq, vCc_l (by omega)]
    · rw [u_ne c2]
      by_cases c3 : 98 * dst + (4 + (d + 1)) ≤ x ∧ x < 98 * dst + (4 + (d + 1)) + k
      · simp (disch := omega) only [vCc, if_pos, if_neg]
      · by_cases c4 : 98 * dst + (36 + (d + 1)) ≤ x ∧ x < 98 * dst + (36 + (d + 1)) + k
        · simp (disch := omega) only [vCc, if_pos, if_neg]
        · simp (disch := omega) only [vCc, if_pos, if_neg]
/-- the row after m letters of src from l on went behind d letters of dst -/
def vTr (v : Nat → Int32) (src l dst d m : Nat) : Nat → Int32 := fun x =>
  if 98 * dst + (68 + d) ≤ x ∧ x < 98 * dst + (68 + d) + m then v (98 * src + (68 + (l + (x - (98 * dst + (68 + d)))))) else v x
theorem vTr_o {v : Nat → Int32} {src l dst d m x : Nat} (h : ¬ (98 * dst + (68 + d) ≤ x ∧ x < 98 * dst + (68 + d) + m)) : vTr v src l dst d m x = v x := if_neg h
theorem vTr_i {v : Nat → Int32} {src l dst d m k : Nat} (hk : k < m) : vTr v src l dst d m (98 * dst + (68 + (d + k))) = v (98 * src + (68 + (l + k))) := by
  unfold vTr
  rw [if_pos (by omega)]
  congr 2
  omega
theorem vTr_s {v : Nat → Int32} {src l dst d k : Nat} : vU (vTr v src l dst d k) (98 * dst + (68 + (d + k))) (v (98 * src + (68 + (l + k)))) = vTr v src l dst d (k + 1) := by
  funext x
  by_cases c1 : x = 98 * dst + (68 + (d + k))
  · subst c1; rw [u_eq, vTr_i (by omega)]
  · rw [u_ne c1]
    unfold vTr
    by_cases c3 : 98 * dst + (68 + d) ≤ x ∧ x < 98 * dst + (68 + d) + k
    · rw [if_pos c3, if_pos (by omega)]
    · rw [if_neg c3, if_neg (by omega)]
theorem vCc_0 {v : Nat → Int32} {src l dst d : Nat} : vCc v src l dst d 0 = v := by funext x; exact vCc_o ⟨by omega, by omega⟩
theorem vTr_0 {v : Nat → Int32} {src l dst d : Nat} : vTr v src l dst d 0 = v := by funext x; exact vTr_o (by omega)
theorem m_join' {K : mK} {R : Nat → Nat → Option Nat} {I : Nat → Nat → Int32} {a b ca cl c : Nat} {Q : Option Value → mH → Prop} (h : zW K R a) (h' : zW K R b) (hab : a + 4 ≤ b ∨ b + 4 ≤ a) (hca : I a 5 = nI ca) (hf : wF I b 1 cl c) (hr : ca + c ≤ 30) :
    EvM 48 [.ref a, .ref b] (K, R, I) Q ↔ Q none (K, R, mSet (mSet (mSet (mSet (mSet (mSet (wAp I a b ca 0 (c + cl)) a 5 (nI (ca + c))) a 4 (nI cl)) b 3 0) b 4 0) b 5 0) b 6 0) := m_join h h' hab hca hf hr
/-- the reference's part of a splicing, behind the record -/
theorem r_spl {K : mK} {R : Nat → Nat → Option Nat} {J : Nat → Nat → Int32} {s t c cl cb ln : Nat} {l5 : Value} {Q : Option Value → mH → Prop} (h : zM K R) (hs : s < 6) (ht : t < 6) (hne : s ≠ t) (v1 : J 195 (98 * t + 1) = nI cl) (hcl : cl ≤ 1) (hc : cb + c ≤ 30) (hl : J 195 595 = nI ln) (hl2 : ln ≤ 10)
    (hQ : Q (some (.int (nI (cb + c)))) (K, R, rSet J 195 (vTl (vU (vU (vU (vU (vU (vTr (vCc (J 195) t 0 s cb (c + cl)) t 0 s cb c) (98 * s + 1) (nI cl)) (98 * s + 2) (nI (cb + c))) (98 * t) 0) (98 * t + 1) 0) (98 * t + 2) 0) ln 4 (nI s) (nI (cb + c))))) :
    Ev 105 (mB 105 77) [.ref 194, .int (nI s), .int (nI t), .int (nI cb), .int (nI c), .int 0] [] (K, R, J) Q := by
  obtain ⟨h0, h1, h2, -⟩ := id h
  -- behind the gaps: the letters
  have two : Ev 105 (mB 105 116) [.ref 194, .int (nI s), .int (nI t), .int (nI cb), .int (nI c), .int 0] [] (K, R, rSet J 195 (vCc (J 195) t 0 s cb (c + cl))) Q := by
    have key := loop_dn (n := c) (P := fun k => Ev 105 (mB 105 116) [.ref 194, .int (nI s), .int (nI t), .int (nI cb), .int (nI c), .int (nI k)] [] (K, R, rSet J 195 (vTr (vCc (J 195) t 0 s cb (c + cl)) t 0 s cb k)) Q) ?_ ?_
    · rw [vTr_0] at key; exact key
    · intro k hk hnext
      rw [B_105_116]
      simp (disch := omega) only [e_iconst, e_bipush, e_sipush, e_iload_n, e_iload, e_aload_n, e_aload, e_istore_n, e_istore, e_astore_n, e_astore, e_iinc, e_iadd, e_isub, e_imul, e_iand, e_ishr, e_idiv, e_i2c, e_dup_i, e_dup_r, e_dup2, e_pop, e_goto, e_nop, e_if_eq, e_if_ne, e_if_lt, e_if_ge, e_if_gt, e_if_le, e_icmp_eq, e_icmp_ne, e_icmp_lt, e_icmp_ge, e_icmp_gt, e_icmp_le, e_tsw, e_ret0, e_ret1, e_retn, e_getI, e_getZ, e_getR, e_getV, e_getC, e_putI, e_putZ, e_putF, e_gst0, e_gst1, e_sld, e_iald, e_cald, e_bald, e_iast, e_cast, e_aald, e_aast, e_alen, e_slen, e_blen, e_newa, e_newq, e_new, e_oinit, e_ctor, e_virt, e_stat, e_min, e_copy, e_ldc, List.cons_append, List.nil_append, List.append_nil, List.length_cons, List.length_nil, List.replicate_succ, List.replicate_zero, List.getElem?_cons_zero, List.getElem?_cons_succ, List.set_cons_zero, List.set_cons_succ, List.take_succ_cons, List.take_zero, List.drop_succ_cons, List.drop_zero, List.reverse_cons, List.reverse_nil, Option.toList_some, Option.toList_none, Nat.reduceSub, Nat.reduceAdd, Nat.reduceLeDiff, true_and, and_true, and_self, Option.some.injEq, exists_eq_left', Nat.zero_add, Value.int.injEq, Value.ref.injEq, List.cons.injEq, exists_and_left, and_assoc, exists_eq_left, bk_105_116, h0, n_le, if_neg, o_add_r, n_add, C_91, C_92, r_ofN h ht (show 68 + k < 98 by omega), r_putsN h hs (show 68 + cb + k < 98 by omega), m_rs, rs_rs, rSet_s, o_add_l, if_pos, if_neg, not_true_eq_false, not_false_eq_true, or_true, true_or, or_false, false_or, false_and, and_false, Nat.reduceEqDiff, Nat.reduceLT, Nat.reduceMul, Nat.not_lt_zero, Nat.zero_le, Nat.le_refl, ne_eq, reduceIte, reduceCtorEq]
      refine Ev_cg ?_ rfl hnext
      rw [← vTr_s]
      congr 2
      · omega
      · rw [vTr_o (by omega)]; congr 1; omega
    · rw [B_105_116]
      simp (disch := omega) only [e_iconst, e_bipush, e_sipush, e_iload_n, e_iload, e_aload_n, e_aload, e_istore_n, e_istore, e_astore_n, e_astore, e_iinc, e_iadd, e_isub, e_imul, e_iand, e_ishr, e_idiv, e_i2c, e_dup_i, e_dup_r, e_dup2, e_pop, e_goto, e_nop, e_if_eq, e_if_ne, e_if_lt, e_if_ge, e_if_gt, e_if_le, e_icmp_eq, e_icmp_ne, e_icmp_lt, e_icmp_ge, e_icmp_gt, e_icmp_le, e_tsw, e_ret0, e_ret1, e_retn, e_getI, e_getZ, e_getR, e_getV, e_getC, e_putI, e_putZ, e_putF, e_gst0, e_gst1, e_sld, e_iald, e_cald, e_bald, e_iast, e_cast, e_aald, e_aast, e_alen, e_slen, e_blen, e_newa, e_newq, e_new, e_oinit, e_ctor, e_virt, e_stat, e_min, e_copy, e_ldc, List.cons_append, List.nil_append, List.append_nil, List.length_cons, List.length_nil, List.replicate_succ, List.replicate_zero, List.getElem?_cons_zero, List.getElem?_cons_succ, List.set_cons_zero, List.set_cons_succ, List.take_succ_cons, List.take_zero, List.drop_succ_cons, List.drop_zero, List.reverse_cons, List.reverse_nil, Option.toList_some, Option.toList_none, Nat.reduceSub, Nat.reduceAdd, Nat.reduceLeDiff, true_and, and_true, and_self, Option.some.injEq, exists_eq_left', Nat.zero_add, Value.int.injEq, Value.ref.injEq, List.cons.injEq, exists_and_left, and_assoc, exists_eq_left, bk_105_116, n_le, if_pos, Nat.le_refl, if_pos, if_neg, not_true_eq_false, not_false_eq_true, or_true, true_or, or_false, false_or, false_and, and_false, Nat.reduceEqDiff, Nat.reduceLT, Nat.reduceMul, Nat.not_lt_zero, Nat.zero_le, Nat.le_refl, ne_eq, reduceIte, reduceCtorEq]
      rw [B_105_151]
      have u1 : vTr (vCc (J 195) t 0 s cb (c + cl)) t 0 s cb c (98 * t + 1) = nI cl := by
        rw [vTr_o (by omega), vCc_o ⟨by omega, by omega⟩]; exact v1
      simp (disch := omega) only [e_iconst, e_bipush, e_sipush, e_iload_n, e_iload, e_aload_n, e_aload, e_istore_n, e_istore, e_astore_n, e_astore, e_iinc, e_iadd, e_isub, e_imul, e_iand, e_ishr, e_idiv, e_i2c, e_dup_i, e_dup_r, e_dup2, e_pop, e_goto, e_nop, e_if_eq, e_if_ne, e_if_lt, e_if_ge, e_if_gt, e_if_le, e_icmp_eq, e_icmp_ne, e_icmp_lt, e_icmp_ge, e_icmp_gt, e_icmp_le, e_tsw, e_ret0, e_ret1, e_retn, e_getI, e_getZ, e_getR, e_getV, e_getC, e_putI, e_putZ, e_putF, e_gst0, e_gst1, e_sld, e_iald, e_cald, e_bald, e_iast, e_cast, e_aald, e_aast, e_alen, e_slen, e_blen, e_newa, e_newq, e_new, e_oinit, e_ctor, e_virt, e_stat, e_min, e_copy, e_ldc, List.cons_append, List.nil_append, List.append_nil, List.length_cons, List.length_nil, List.replicate_succ, List.replicate_zero, List.getElem?_cons_zero, List.getElem?_cons_succ, List.set_cons_zero, List.set_cons_succ, List.take_succ_cons, List.take_zero, List.drop_succ_cons, List.drop_zero, List.reverse_cons, List.reverse_nil, Option.toList_some, Option.toList_none, Nat.reduceSub, Nat.reduceAdd, Nat.reduceLeDiff, true_and, and_true, and_self, Option.some.injEq, exists_eq_left', Nat.zero_add, Value.int.injEq, Value.ref.injEq, List.cons.injEq, exists_and_left, and_assoc, exists_eq_left, bk_105_151, h0, C_91, C_92, r_ofL h ht, r_putsL h hs, r_putsL h ht, m_rs, rs_rs, rSet_s, u1, n_add, Nat.add_zero, C_96, if_pos, if_neg, not_true_eq_false, not_false_eq_true, or_true, true_or, or_false, false_or, false_and, and_false, Nat.reduceEqDiff, Nat.reduceLT, Nat.reduceMul, Nat.not_lt_zero, Nat.zero_le, Nat.le_refl, ne_eq, reduceIte, reduceCtorEq]
      rw [r_tells h (n := ln) ?_ hl2]
      · simp (disch := omega) only [e_iconst, e_bipush, e_sipush, e_iload_n, e_iload, e_aload_n, e_aload, e_istore_n, e_istore, e_astore_n, e_astore, e_iinc, e_iadd, e_isub, e_imul, e_iand, e_ishr, e_idiv, e_i2c, e_dup_i, e_dup_r, e_dup2, e_pop, e_goto, e_nop, e_if_eq, e_if_ne, e_if_lt, e_if_ge, e_if_gt, e_if_le, e_icmp_eq, e_icmp_ne, e_icmp_lt, e_icmp_ge, e_icmp_gt, e_icmp_le, e_tsw, e_ret0, e_ret1, e_retn, e_getI, e_getZ, e_getR, e_getV, e_getC, e_putI, e_putZ, e_putF, e_gst0, e_gst1, e_sld, e_iald, e_cald, e_bald, e_iast, e_cast, e_aald, e_aast, e_alen, e_slen, e_blen, e_newa, e_newq, e_new, e_oinit, e_ctor, e_virt, e_stat, e_min, e_copy, e_ldc, List.cons_append, List.nil_append, List.append_nil, List.length_cons, List.length_nil, List.replicate_succ, List.replicate_zero, List.getElem?_cons_zero, List.getElem?_cons_succ, List.set_cons_zero, List.set_cons_succ, List.take_succ_cons, List.take_zero, List.drop_succ_cons, List.drop_zero, List.reverse_cons, List.reverse_nil, Option.toList_some, Option.toList_none, Nat.reduceSub, Nat.reduceAdd, Nat.reduceLeDiff, true_and, and_true, and_self, Option.some.injEq, exists_eq_left', Nat.zero_add, Value.int.injEq, Value.ref.injEq, List.cons.injEq, exists_and_left, and_assoc, exists_eq_left, n_add, rs_rs, rSet_s, if_pos, if_neg, not_true_eq_false, not_false_eq_true, or_true, true_or, or_false, false_or, false_and, and_false, Nat.reduceEqDiff, Nat.reduceLT, Nat.reduceMul, Nat.not_lt_zero, Nat.zero_le, Nat.le_refl, ne_eq, reduceIte, reduceCtorEq]
        exact hQ
      · simp (disch := omega) only [rSet_s, u_ne, vTr_o, vCc_o]; exact hl
  have key := loop_dn (n := c + cl) (P := fun k => Ev 105 (mB 105 77) [.ref 194, .int (nI s), .int (nI t), .int (nI cb), .int (nI c), .int (nI k)] [] (K, R, rSet J 195 (vCc (J 195) t 0 s cb k)) Q) ?_ ?_
  · rw [vCc_0, rs_id] at key; exact key
  · intro k hk hnext
    rw [B_105_77]
    have u1 : vCc (J 195) t 0 s cb k (98 * t + 1) = nI cl := by rw [vCc_o ⟨by omega, by omega⟩]; exact v1
    simp (disch := omega) only [e_iconst, e_bipush, e_sipush, e_iload_n, e_iload, e_aload_n, e_aload, e_istore_n, e_istore, e_astore_n, e_astore, e_iinc, e_iadd, e_isub, e_imul, e_iand, e_ishr, e_idiv, e_i2c, e_dup_i, e_dup_r, e_dup2, e_pop, e_goto, e_nop, e_if_eq, e_if_ne, e_if_lt, e_if_ge, e_if_gt, e_if_le, e_icmp_eq, e_icmp_ne, e_icmp_lt, e_icmp_ge, e_icmp_gt, e_icmp_le, e_tsw, e_ret0, e_ret1, e_retn, e_getI, e_getZ, e_getR, e_getV, e_getC, e_putI, e_putZ, e_putF, e_gst0, e_gst1, e_sld, e_iald, e_cald, e_bald, e_iast, e_cast, e_aald, e_aast, e_alen, e_slen, e_blen, e_newa, e_newq, e_new, e_oinit, e_ctor, e_virt, e_stat, e_min, e_copy, e_ldc, List.cons_append, List.nil_append, List.append_nil, List.length_cons, List.length_nil, List.replicate_succ, List.replicate_zero, List.getElem?_cons_zero, List.getElem?_cons_succ, List.set_cons_zero, List.set_cons_succ, List.take_succ_cons, List.take_zero, List.drop_succ_cons, List.drop_zero, List.reverse_cons, List.reverse_nil, Option.toList_some, Option.toList_none, Nat.reduceSub, Nat.reduceAdd, Nat.reduceLeDiff, true_and, and_true, and_self, Option.some.injEq, exists_eq_left', Nat.zero_add, Value.int.injEq, Value.ref.injEq, List.cons.injEq, exists_and_left, and_assoc, exists_eq_left, bk_105_77, h0, C_91, C_100, r_ofL h ht, rSet_s, u1, n_add, n_le, if_neg, o_add_r, o_add_l, r_copies h ht hs (show 1 + k < 32 by omega) (show cb + 1 + k < 32 by omega), rs_rs, if_pos, if_neg, not_true_eq_false, not_false_eq_true, or_true, true_or, or_false, false_or, false_and, and_false, Nat.reduceEqDiff, Nat.reduceLT, Nat.reduceMul, Nat.not_lt_zero, Nat.zero_le, Nat.le_refl, ne_eq, reduceIte, reduceCtorEq]
    refine Ev_cg ?_ rfl hnext
    rw [← vCc_s (by omega)]
    congr 2
    · congr 1
      rw [vCc_o ⟨by omega, by omega⟩]
      try congr 1
      all_goals omega
    · rw [vCc_o ⟨by omega, by omega⟩]
      try congr 1
      all_goals omega
  · rw [B_105_77]
    have u1 : vCc (J 195) t 0 s cb (c + cl) (98 * t + 1) = nI cl := by rw [vCc_o ⟨by omega, by omega⟩]; exact v1
    simp (disch := omega) only [e_iconst, e_bipush, e_sipush, e_iload_n, e_iload, e_aload_n, e_aload, e_istore_n, e_istore, e_astore_n, e_astore, e_iinc, e_iadd, e_isub, e_imul, e_iand, e_ishr, e_idiv, e_i2c, e_dup_i, e_dup_r, e_dup2, e_pop, e_goto, e_nop, e_if_eq, e_if_ne, e_if_lt, e_if_ge, e_if_gt, e_if_le, e_icmp_eq, e_icmp_ne, e_icmp_lt, e_icmp_ge, e_icmp_gt, e_icmp_le, e_tsw, e_ret0, e_ret1, e_retn, e_getI, e_getZ, e_getR, e_getV, e_getC, e_putI, e_putZ, e_putF, e_gst0, e_gst1, e_sld, e_iald, e_cald, e_bald, e_iast, e_cast, e_aald, e_aast, e_alen, e_slen, e_blen, e_newa, e_newq, e_new, e_oinit, e_ctor, e_virt, e_stat, e_min, e_copy, e_ldc, List.cons_append, List.nil_append, List.append_nil, List.length_cons, List.length_nil, List.replicate_succ, List.replicate_zero, List.getElem?_cons_zero, List.getElem?_cons_succ, List.set_cons_zero, List.set_cons_succ, List.take_succ_cons, List.take_zero, List.drop_succ_cons, List.drop_zero, List.reverse_cons, List.reverse_nil, Option.toList_some, Option.toList_none, Nat.reduceSub, Nat.reduceAdd, Nat.reduceLeDiff, true_and, and_true, and_self, Option.some.injEq, exists_eq_left', Nat.zero_add, Value.int.injEq, Value.ref.injEq, List.cons.injEq, exists_and_left, and_assoc, exists_eq_left, bk_105_77, h0, C_91, r_ofL h ht, rSet_s, u1, n_add, n_le, if_pos, Nat.le_refl, B_105_113, bk_105_113, if_pos, if_neg, not_true_eq_false, not_false_eq_true, or_true, true_or, or_false, false_or, false_and, and_false, Nat.reduceEqDiff, Nat.reduceLT, Nat.reduceMul, Nat.not_lt_zero, Nat.zero_le, Nat.le_refl, ne_eq, reduceIte, reduceCtorEq]
    exact two
