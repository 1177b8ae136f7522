/-! punch: gaps that are punched by a row of lengths -/
def nomQ (q : Nat → Int32) (c j : Nat) : Int32 := if j = 0 then 5000 else if j ≤ c then 2000 + 1000 * q (j - 1) else 5000
theorem nomQ_i {q : Nat → Int32} {c i : Nat} (h : i < c) : nomQ q c (i + 1) = 2000 + 1000 * q i := by
  unfold nomQ
  rw [if_neg (by omega), if_pos (by omega), show i + 1 - 1 = i by omega]
theorem nomQ_e {q : Nat → Int32} {c : Nat} : nomQ q c (c + 1) = 5000 := by
  unfold nomQ
  rw [if_neg (by omega), if_neg (by omega)]
theorem nomQ_0 {q : Nat → Int32} {c : Nat} : nomQ q c 0 = 5000 := if_pos rfl
theorem nomQ_ok {q : Nat → Int32} {c j : Nat} (hq : ∀ i, i < c → ∃ t, t < 8 ∧ q i = nI t) : okG (nomQ q c j) (nomQ q c j) := by
  unfold nomQ
  by_cases c0 : j = 0
  · rw [if_pos c0]; exact okG_5
  · rw [if_neg c0]
    by_cases c1 : j ≤ c
    · rw [if_pos c1]
      obtain ⟨t, t1, t2⟩ := hq (j - 1) (by omega)
      rw [t2, show (2000 : Int32) = nI 2000 from rfl, show (1000 : Int32) = nI 1000 from rfl, n_mul, n_add]
      exact okG_n (by omega) (by omega)
    · rw [if_neg c1]; exact okG_5
/-- the row v with the first m gaps of the wire s punched -/
def vPn (v : Nat → Int32) (s : Nat) (nom : Nat → Int32) (m : Nat) : Nat → Int32 := fun x =>
  if 98 * s + 4 ≤ x ∧ x < 98 * s + 4 + m then nom (x - (98 * s + 4)) else if 98 * s + 36 ≤ x ∧ x < 98 * s + 36 + m then nom (x - (98 * s + 36)) else if x = 591 then v 591 + sm nom m else v x
theorem vPn_o {v nom : Nat → Int32} {s m x : Nat} (h : ¬ (98 * s + 4 ≤ x ∧ x < 98 * s + 4 + m) ∧ ¬ (98 * s + 36 ≤ x ∧ x < 98 * s + 36 + m) ∧ x ≠ 591) : vPn v s nom m x = v x := by
  unfold vPn
  rw [if_neg h.1, if_neg h.2.1, if_neg h.2.2]
theorem vPn_l {v nom : Nat → Int32} {s m k : Nat} (hk : k < m) : vPn v s nom m (98 * s + (4 + k)) = nom k := by
  unfold vPn
  rw [if_pos (by omega), show 98 * s + (4 + k) - (98 * s + 4) = k by omega]
theorem vPn_n {v nom : Nat → Int32} {s m k : Nat} (hk : k < m) (hm : m ≤ 32) : vPn v s nom m (98 * s + (36 + k)) = nom k := by
  unfold vPn
  rw [if_neg (by omega), if_pos (by omega), show 98 * s + (36 + k) - (98 * s + 36) = k by omega]
theorem vPn_u {v nom : Nat → Int32} {s m : Nat} (hs : s < 6) (hm : m ≤ 32) : vPn v s nom m 591 = v 591 + sm nom m := by
  unfold vPn
  rw [if_neg (by omega), if_neg (by omega), if_pos rfl]
theorem vPn_0 {v nom : Nat → Int32} {s : Nat} (hs : s < 6) : vPn v s nom 0 = v := by
  funext x
  by_cases e : x = 591
  · subst e
    rw [vPn_u hs (by omega), show sm nom 0 = 0 from rfl, Int32.add_zero]
  · exact vPn_o ⟨by omega, by omega, e⟩
theorem vPn_s {v nom : Nat → Int32} {s m : Nat} (hs : s < 6) (hm : m < 32) : vU (vU (vU (vPn v s nom m) (98 * s + (4 + m)) (nom m)) (98 * s + (36 + m)) (nom m)) 591 (vPn v s nom m 591 + nom m) = vPn v s nom (m + 1) := by
  funext x
  by_cases c0 : x = 591
  · subst c0
    rw [u_eq, vPn_u hs (by omega), vPn_u hs (by omega), Int32.add_assoc]; rfl
  · rw [u_ne c0]
    by_cases c1 : x = 98 * s + (36 + m)
    · subst c1; rw [u_eq, vPn_n (by omega) (by omega)]
    · rw [u_ne c1]
      by_cases c2 : x = 98 * s + (4 + m)
      · subst c2; rw [u_eq, vPn_l (by omega)]
      · rw [u_ne c2]
        unfold vPn
        by_cases c3 : 98 * s + 4 ≤ x ∧ x < 98 * s + 4 + m
        · rw [if_pos c3, if_pos (by omega)]
        · rw [if_neg c3, if_neg (show ¬ (98 * s + 4 ≤ x ∧ x < 98 * s + 4 + (m + 1)) by omega)]
          by_cases c4 : 98 * s + 36 ≤ x ∧ x < 98 * s + 36 + m
          · rw [if_pos c4, if_pos (by omega)]
          · rw [if_neg c4, if_neg (show ¬ (98 * s + 36 ≤ x ∧ x < 98 * s + 36 + (m + 1)) by omega), if_neg c0, if_neg c0]
set_option maxHeartbeats 4000000 in
theorem r_pun {K : mK} {R : Nat → Nat → Option Nat} {J : Nat → Nat → Int32} {s c cl ln : Nat} {q : Nat → Int32} {y mis : Int32} {Q : Option Value → mH → Prop} (h : zM K R) (hs : s < 6) (v1 : J 195 (98 * s + 1) = nI cl) (hcl : cl ≤ 1) (v2 : J 195 (98 * s + 2) = nI c) (hc : c ≤ 30) (hq : ∀ i, i < c → J 199 i = q i) (hl : J 195 595 = nI ln) (hl2 : ln ≤ 10)
    (hQ : Q (some (.int mis)) (K, R, rSet J 195 (vTl (vU (vPn (J 195) s (nomQ q c) (c + 1 + cl)) (98 * s + 3) 0) ln 6 (nI s) y))) :
    Ev 112 (mB 112 82) [.ref 194, .int (nI s), .int y, .int mis, .int 0] [] (K, R, rSet J 195 (vPn (J 195) s (nomQ q c) 1)) Q := by
  obtain ⟨m0, m1, m2, -, -, -, -, -, -, m9, m10, -⟩ := id h
  have fin : Ev 112 (mB 112 149) [.ref 194, .int (nI s), .int y, .int mis, .int (nI c)] [] (K, R, rSet J 195 (vPn (J 195) s (nomQ q c) (c + 1 + cl))) Q := by
    rw [B_112_149]
    simp (disch := omega) only [e_iconst, e_bipush, e_sipush, e_iload_n, e_iload, e_aload_n, e_aload, e_istore_n, e_istore, e_astore_n, e_astore, e_iinc, e_iadd, e_isub, e_imul, e_iand, e_ishr, e_idiv, e_i2c, e_dup_i, e_dup_r, e_dup2, e_pop, e_goto, e_nop, e_if_eq, e_if_ne, e_if_lt, e_if_ge, e_if_gt, e_if_le, e_icmp_eq, e_icmp_ne, e_icmp_lt, e_icmp_ge, e_icmp_gt, e_icmp_le, e_tsw, e_ret0, e_ret1, e_retn, e_getI, e_getZ, e_getR, e_getV, e_getC, e_putI, e_putZ, e_putF, e_gst0, e_gst1, e_sld, e_iald, e_cald, e_bald, e_iast, e_cast, e_aald, e_aast, e_alen, e_slen, e_blen, e_newa, e_newq, e_new, e_oinit, e_ctor, e_virt, e_stat, e_min, e_copy, e_ldc, List.cons_append, List.nil_append, List.append_nil, List.length_cons, List.length_nil, List.replicate_succ, List.replicate_zero, List.getElem?_cons_zero, List.getElem?_cons_succ, List.set_cons_zero, List.set_cons_succ, List.take_succ_cons, List.take_zero, List.drop_succ_cons, List.drop_zero, List.reverse_cons, List.reverse_nil, Option.toList_some, Option.toList_none, Nat.reduceSub, Nat.reduceAdd, Nat.reduceLeDiff, true_and, and_true, and_self, Option.some.injEq, exists_eq_left', Nat.zero_add, Value.int.injEq, Value.ref.injEq, List.cons.injEq, exists_and_left, and_assoc, exists_eq_left, bk_112_149, m0, C_92, C_96, r_putsL h hs, m_rs, rs_rs, rSet_s, if_pos, if_neg, not_true_eq_false, not_false_eq_true, or_true, true_or, or_false, false_or, false_and, and_false, Nat.reduceEqDiff, Nat.reduceLT, Nat.reduceMul, Nat.not_lt_zero, Nat.zero_le, Nat.le_refl, ne_eq, reduceIte, reduceCtorEq]
    rw [r_tells h (n := ln) ?_ hl2]
    · simp (disch := omega) only [e_iconst, e_bipush, e_sipush, e_iload_n, e_iload, e_aload_n, e_aload, e_istore_n, e_istore, e_astore_n, e_astore, e_iinc, e_iadd, e_isub, e_imul, e_iand, e_ishr, e_idiv, e_i2c, e_dup_i, e_dup_r, e_dup2, e_pop, e_goto, e_nop, e_if_eq, e_if_ne, e_if_lt, e_if_ge, e_if_gt, e_if_le, e_icmp_eq, e_icmp_ne, e_icmp_lt, e_icmp_ge, e_icmp_gt, e_icmp_le, e_tsw, e_ret0, e_ret1, e_retn, e_getI, e_getZ, e_getR, e_getV, e_getC, e_putI, e_putZ, e_putF, e_gst0, e_gst1, e_sld, e_iald, e_cald, e_bald, e_iast, e_cast, e_aald, e_aast, e_alen, e_slen, e_blen, e_newa, e_newq, e_new, e_oinit, e_ctor, e_virt, e_stat, e_min, e_copy, e_ldc, List.cons_append, List.nil_append, List.append_nil, List.length_cons, List.length_nil, List.replicate_succ, List.replicate_zero, List.getElem?_cons_zero, List.getElem?_cons_succ, List.set_cons_zero, List.set_cons_succ, List.take_succ_cons, List.take_zero, List.drop_succ_cons, List.drop_zero, List.reverse_cons, List.reverse_nil, Option.toList_some, Option.toList_none, Nat.reduceSub, Nat.reduceAdd, Nat.reduceLeDiff, true_and, and_true, and_self, Option.some.injEq, exists_eq_left', Nat.zero_add, Value.int.injEq, Value.ref.injEq, List.cons.injEq, exists_and_left, and_assoc, exists_eq_left, rs_rs, rSet_s, if_pos, if_neg, not_true_eq_false, not_false_eq_true, or_true, true_or, or_false, false_or, false_and, and_false, Nat.reduceEqDiff, Nat.reduceLT, Nat.reduceMul, Nat.not_lt_zero, Nat.zero_le, Nat.le_refl, ne_eq, reduceIte, reduceCtorEq]
      exact hQ
    · simp (disch := omega) only [rSet_s, u_ne, vPn_o]; exact hl
  have key := loop_dn (n := c) (P := fun k => Ev 112 (mB 112 82) [.ref 194, .int (nI s), .int y, .int mis, .int (nI k)] [] (K, R, rSet J 195 (vPn (J 195) s (nomQ q c) (k + 1))) Q) ?_ ?_
  · exact key
  · intro k hk hnext
    have u2 : vPn (J 195) s (nomQ q c) (k + 1) (98 * s + 2) = nI c := by rw [vPn_o ⟨by omega, by omega, by omega⟩]; exact v2
    have u9 : rSet J 195 (vPn (J 195) s (nomQ q c) (k + 1)) 199 k = q k := by rw [rSet_o (by omega)]; exact hq k hk
    rw [B_112_82]
    simp (disch := omega) only [e_iconst, e_bipush, e_sipush, e_iload_n, e_iload, e_aload_n, e_aload, e_istore_n, e_istore, e_astore_n, e_astore, e_iinc, e_iadd, e_isub, e_imul, e_iand, e_ishr, e_idiv, e_i2c, e_dup_i, e_dup_r, e_dup2, e_pop, e_goto, e_nop, e_if_eq, e_if_ne, e_if_lt, e_if_ge, e_if_gt, e_if_le, e_icmp_eq, e_icmp_ne, e_icmp_lt, e_icmp_ge, e_icmp_gt, e_icmp_le, e_tsw, e_ret0, e_ret1, e_retn, e_getI, e_getZ, e_getR, e_getV, e_getC, e_putI, e_putZ, e_putF, e_gst0, e_gst1, e_sld, e_iald, e_cald, e_bald, e_iast, e_cast, e_aald, e_aast, e_alen, e_slen, e_blen, e_newa, e_newq, e_new, e_oinit, e_ctor, e_virt, e_stat, e_min, e_copy, e_ldc, List.cons_append, List.nil_append, List.append_nil, List.length_cons, List.length_nil, List.replicate_succ, List.replicate_zero, List.getElem?_cons_zero, List.getElem?_cons_succ, List.set_cons_zero, List.set_cons_succ, List.take_succ_cons, List.take_zero, List.drop_succ_cons, List.drop_zero, List.reverse_cons, List.reverse_nil, Option.toList_some, Option.toList_none, Nat.reduceSub, Nat.reduceAdd, Nat.reduceLeDiff, true_and, and_true, and_self, Option.some.injEq, exists_eq_left', Nat.zero_add, Value.int.injEq, Value.ref.injEq, List.cons.injEq, exists_and_left, and_assoc, exists_eq_left, bk_112_82, m0, m9, m10, C_91, C_99, r_ofL h hs, rSet_s, u2, n_le, if_neg, n_in, n_cl, u9, o_add_r, o_add_l, r_punches h hs (show 1 + k < 32 by omega), rs_rs, if_pos, if_neg, not_true_eq_false, not_false_eq_true, or_true, true_or, or_false, false_or, false_and, and_false, Nat.reduceEqDiff, Nat.reduceLT, Nat.reduceMul, Nat.not_lt_zero, Nat.zero_le, Nat.le_refl, ne_eq, reduceIte, reduceCtorEq]
    refine Ev_cg ?_ rfl hnext
    have r1 := vPn_s (v := J 195) (s := s) (nom := nomQ q c) (m := k + 1) hs (by omega)
    rw [nomQ_i hk] at r1
    rw [show 1 + k = k + 1 by omega, r1]
  · have u2 : vPn (J 195) s (nomQ q c) (c + 1) (98 * s + 2) = nI c := by rw [vPn_o ⟨by omega, by omega, by omega⟩]; exact v2
    have u1 : vPn (J 195) s (nomQ q c) (c + 1) (98 * s + 1) = nI cl := by rw [vPn_o ⟨by omega, by omega, by omega⟩]; exact v1
    rw [B_112_82]
    simp (disch := omega) only [e_iconst, e_bipush, e_sipush, e_iload_n, e_iload, e_aload_n, e_aload, e_istore_n, e_istore, e_astore_n, e_astore, e_iinc, e_iadd, e_isub, e_imul, e_iand, e_ishr, e_idiv, e_i2c, e_dup_i, e_dup_r, e_dup2, e_pop, e_goto, e_nop, e_if_eq, e_if_ne, e_if_lt, e_if_ge, e_if_gt, e_if_le, e_icmp_eq, e_icmp_ne, e_icmp_lt, e_icmp_ge, e_icmp_gt, e_icmp_le, e_tsw, e_ret0, e_ret1, e_retn, e_getI, e_getZ, e_getR, e_getV, e_getC, e_putI, e_putZ, e_putF, e_gst0, e_gst1, e_sld, e_iald, e_cald, e_bald, e_iast, e_cast, e_aald, e_aast, e_alen, e_slen, e_blen, e_newa, e_newq, e_new, e_oinit, e_ctor, e_virt, e_stat, e_min, e_copy, e_ldc, List.cons_append, List.nil_append, List.append_nil, List.length_cons, List.length_nil, List.replicate_succ, List.replicate_zero, List.getElem?_cons_zero, List.getElem?_cons_succ, List.set_cons_zero, List.set_cons_succ, List.take_succ_cons, List.take_zero, List.drop_succ_cons, List.drop_zero, List.reverse_cons, List.reverse_nil, Option.toList_some, Option.toList_none, Nat.reduceSub, Nat.reduceAdd, Nat.reduceLeDiff, true_and, and_true, and_self, Option.some.injEq, exists_eq_left', Nat.zero_add, Value.int.injEq, Value.ref.injEq, List.cons.injEq, exists_and_left, and_assoc, exists_eq_left, bk_112_82, m0, C_91, r_ofL h hs, rSet_s, u2, n_le, if_pos, Nat.le_refl, if_pos, if_neg, not_true_eq_false, not_false_eq_true, or_true, true_or, or_false, false_or, false_and, and_false, Nat.reduceEqDiff, Nat.reduceLT, Nat.reduceMul, Nat.not_lt_zero, Nat.zero_le, Nat.le_refl, ne_eq, reduceIte, reduceCtorEq]
    rw [B_112_123]
    rcases (show cl = 0 ∨ cl = 1 by omega) with rfl | rfl
    · simp (disch := omega) only [e_iconst, e_bipush, e_sipush, e_iload_n, e_iload, e_aload_n, e_aload, e_istore_n, e_istore, e_astore_n, e_astore, e_iinc, e_iadd, e_isub, e_imul, e_iand, e_ishr, e_idiv, e_i2c, e_dup_i, e_dup_r, e_dup2, e_pop, e_goto, e_nop, e_if_eq, e_if_ne, e_if_lt, e_if_ge, e_if_gt, e_if_le, e_icmp_eq, e_icmp_ne, e_icmp_lt, e_icmp_ge, e_icmp_gt, e_icmp_le, e_tsw, e_ret0, e_ret1, e_retn, e_getI, e_getZ, e_getR, e_getV, e_getC, e_putI, e_putZ, e_putF, e_gst0, e_gst1, e_sld, e_iald, e_cald, e_bald, e_iast, e_cast, e_aald, e_aast, e_alen, e_slen, e_blen, e_newa, e_newq, e_new, e_oinit, e_ctor, e_virt, e_stat, e_min, e_copy, e_ldc, List.cons_append, List.nil_append, List.append_nil, List.length_cons, List.length_nil, List.replicate_succ, List.replicate_zero, List.getElem?_cons_zero, List.getElem?_cons_succ, List.set_cons_zero, List.set_cons_succ, List.take_succ_cons, List.take_zero, List.drop_succ_cons, List.drop_zero, List.reverse_cons, List.reverse_nil, Option.toList_some, Option.toList_none, Nat.reduceSub, Nat.reduceAdd, Nat.reduceLeDiff, true_and, and_true, and_self, Option.some.injEq, exists_eq_left', Nat.zero_add, Value.int.injEq, Value.ref.injEq, List.cons.injEq, exists_and_left, and_assoc, exists_eq_left, bk_112_123, m0, C_91, r_ofL h hs, rSet_s, u1, o_eq_l, if_pos, if_pos, if_neg, not_true_eq_false, not_false_eq_true, or_true, true_or, or_false, false_or, false_and, and_false, Nat.reduceEqDiff, Nat.reduceLT, Nat.reduceMul, Nat.not_lt_zero, Nat.zero_le, Nat.le_refl, ne_eq, reduceIte, reduceCtorEq]
      exact fin
    · simp (disch := omega) only [e_iconst, e_bipush, e_sipush, e_iload_n, e_iload, e_aload_n, e_aload, e_istore_n, e_istore, e_astore_n, e_astore, e_iinc, e_iadd, e_isub, e_imul, e_iand, e_ishr, e_idiv, e_i2c, e_dup_i, e_dup_r, e_dup2, e_pop, e_goto, e_nop, e_if_eq, e_if_ne, e_if_lt, e_if_ge, e_if_gt, e_if_le, e_icmp_eq, e_icmp_ne, e_icmp_lt, e_icmp_ge, e_icmp_gt, e_icmp_le, e_tsw, e_ret0, e_ret1, e_retn, e_getI, e_getZ, e_getR, e_getV, e_getC, e_putI, e_putZ, e_putF, e_gst0, e_gst1, e_sld, e_iald, e_cald, e_bald, e_iast, e_cast, e_aald, e_aast, e_alen, e_slen, e_blen, e_newa, e_newq, e_new, e_oinit, e_ctor, e_virt, e_stat, e_min, e_copy, e_ldc, List.cons_append, List.nil_append, List.append_nil, List.length_cons, List.length_nil, List.replicate_succ, List.replicate_zero, List.getElem?_cons_zero, List.getElem?_cons_succ, List.set_cons_zero, List.set_cons_succ, List.take_succ_cons, List.take_zero, List.drop_succ_cons, List.drop_zero, List.reverse_cons, List.reverse_nil, Option.toList_some, Option.toList_none, Nat.reduceSub, Nat.reduceAdd, Nat.reduceLeDiff, true_and, and_true, and_self, Option.some.injEq, exists_eq_left', Nat.zero_add, Value.int.injEq, Value.ref.injEq, List.cons.injEq, exists_and_left, and_assoc, exists_eq_left, bk_112_123, m0, C_91, C_99, r_ofL h hs, rSet_s, u1, u2, o_eq_l, if_neg, o_add_r, r_punches h hs (show 1 + c < 32 by omega), rs_rs, if_pos, if_neg, not_true_eq_false, not_false_eq_true, or_true, true_or, or_false, false_or, false_and, and_false, Nat.reduceEqDiff, Nat.reduceLT, Nat.reduceMul, Nat.not_lt_zero, Nat.zero_le, Nat.le_refl, ne_eq, reduceIte, reduceCtorEq]
      refine Ev_cg ?_ rfl fin
      have r1 := vPn_s (v := J 195) (s := s) (nom := nomQ q c) (m := c + 1) hs (by omega)
      rw [nomQ_e] at r1
      rw [show 1 + c = c + 1 by omega, r1]
/-- the class's wire, punched anew by the row r -/
def cPu (J : Nat → Nat → Int32) (a r cl c : Nat) : Nat → Nat → Int32 := mSet (if cl = 1 then mSet (mSet (mSet (mSet (wPu (mSet (mSet (mSet J (a + 1) 0 5000) (a + 2) 0 5000) (a + 3) 0 (-1)) a r c) a 4 1) (a + 1) (c + 1) 5000) (a + 2) (c + 1) 5000) (a + 3) (c + 1) (-1) else wPu (mSet (mSet (mSet J (a + 1) 0 5000) (a + 2) 0 5000) (a + 3) 0 (-1)) a r c) a 6 0
theorem cPu_o {J : Nat → Nat → Int32} {a r cl c x j : Nat} (h : x < a ∨ a + 3 < x ∨ (x = a ∧ j ≠ 4 ∧ j ≠ 6)) : cPu J a r cl c x j = J x j := by
  unfold cPu
  split <;> simp (disch := omega) only [s_ne, wPu_o]
theorem cPu_6 {J : Nat → Nat → Int32} {a r cl c : Nat} : cPu J a r cl c a 6 = 0 := s_eq
theorem cPu_4 {J : Nat → Nat → Int32} {a r cl c : Nat} (hcl : cl ≤ 1) (h : J a 4 = nI cl) : cPu J a r cl c a 4 = nI cl := by
  unfold cPu
  by_cases e : cl = 1
  · subst e
    rw [if_pos rfl]
    simp (disch := omega) only [s_ne, s_eq]; rfl
  · rw [if_neg e]
    simp (disch := omega) only [s_ne, wPu_o]; exact h
theorem wPu_i {J : Nat → Nat → Int32} {a r k x i : Nat} (h : x = a + 1 ∨ x = a + 2) (hi : i < k) : wPu J a r k x (i + 1) = 2000 + 1000 * J r i := by
  unfold wPu
  rw [if_pos ⟨h, by omega, by omega⟩, show i + 1 - 1 = i by omega]
theorem wPu_0 {J : Nat → Nat → Int32} {a r k x j : Nat} (h : j = 0 ∨ k + 1 ≤ j) : wPu J a r k x j = J x j := if_neg (by omega)
theorem cPu_g {J : Nat → Nat → Int32} {q : Nat → Int32} {a r cl c x j : Nat} (hx : x = a + 1 ∨ x = a + 2) (hr : r < a ∨ a + 3 < r) (hq : ∀ i, i < c → J r i = q i) (hj : j < c + 1 + cl) (hcl : cl ≤ 1) : cPu J a r cl c x j = nomQ q c j := by
  unfold cPu
  rw [s_ne (by omega)]
  rcases (show j = 0 ∨ (1 ≤ j ∧ j ≤ c) ∨ j = c + 1 by omega) with e | e | e
  · subst e
    rw [nomQ_0]
    split
    · rcases hx with rfl | rfl <;> simp (disch := omega) only [s_ne, s_eq, wPu_0]
    · rcases hx with rfl | rfl <;> simp (disch := omega) only [s_ne, s_eq, wPu_0]
  · obtain ⟨i, rfl⟩ : ∃ i, j = i + 1 := ⟨j - 1, by omega⟩
    rw [nomQ_i (by omega), ← hq i (by omega)]
    split
    · rcases hx with rfl | rfl <;> simp (disch := omega) only [s_ne, wPu_i, true_or, or_true]
    · rcases hx with rfl | rfl <;> simp (disch := omega) only [s_ne, wPu_i, true_or, or_true]
  · have e1 : cl = 1 := by omega
    subst e
    rw [nomQ_e, if_pos e1]
    rcases hx with rfl | rfl <;> simp (disch := omega) only [s_ne, s_eq]
theorem cPu_t0 {J : Nat → Nat → Int32} {a r cl c : Nat} : cPu J a r cl c (a + 3) 0 = -1 := by
  unfold cPu
  split <;> simp (disch := omega) only [s_ne, s_eq, wPu_o]
theorem cPu_t {J : Nat → Nat → Int32} {a r cl c i : Nat} (h : i < c) : cPu J a r cl c (a + 3) (i + 1) = J (a + 3) (i + 1) := by
  unfold cPu
  split <;> simp (disch := omega) only [s_ne, wPu_o]
theorem cPu_te {J : Nat → Nat → Int32} {a r c : Nat} : cPu J a r 1 c (a + 3) (c + 1) = -1 := by
  unfold cPu
  rw [if_pos rfl]
  simp (disch := omega) only [s_ne, s_eq]
