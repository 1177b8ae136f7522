/-! write: a wire from the text's letters -/
/-- the class's cells when k letters are written -/
def wWr (B : Nat → Nat → Int32) (a : Nat) (tr : Nat → Int32) (k : Nat) : Nat → Nat → Int32 := fun x j =>
  if x = a ∧ j = 5 then nI k else if (x = a + 1 ∨ x = a + 2) ∧ 1 ≤ j ∧ j < k + 1 then 2000 + 1000 * tr (j - 1) else if x = a + 3 ∧ 1 ≤ j ∧ j < k + 1 then tr (j - 1) else B x j
theorem wWr_o {B : Nat → Nat → Int32} {a k x j : Nat} {tr : Nat → Int32} (h : x < a ∨ a + 3 < x ∨ (x = a ∧ j ≠ 5) ∨ j = 0 ∧ x ≠ a ∨ k + 1 ≤ j ∧ x ≠ a) : wWr B a tr k x j = B x j := by
  unfold wWr
  rw [if_neg (by omega), if_neg (by omega), if_neg (by omega)]
theorem wWr_5 {B : Nat → Nat → Int32} {a k : Nat} {tr : Nat → Int32} : wWr B a tr k a 5 = nI k := if_pos ⟨rfl, rfl⟩
theorem wWr_g {B : Nat → Nat → Int32} {a k x i : Nat} {tr : Nat → Int32} (h : x = a + 1 ∨ x = a + 2) (hi : i < k) : wWr B a tr k x (i + 1) = 2000 + 1000 * tr i := by
  unfold wWr
  rw [if_neg (by omega), if_pos ⟨h, by omega, by omega⟩, show i + 1 - 1 = i by omega]
theorem wWr_t {B : Nat → Nat → Int32} {a k i : Nat} {tr : Nat → Int32} (hi : i < k) : wWr B a tr k (a + 3) (i + 1) = tr i := by
  unfold wWr
  rw [if_neg (by omega), if_neg (by omega), if_pos ⟨rfl, by omega, by omega⟩, show i + 1 - 1 = i by omega]
theorem wWr_s {B : Nat → Nat → Int32} {a k : Nat} {tr : Nat → Int32} : mSet (mSet (mSet (mSet (wWr B a tr k) a 5 (nI (k + 1))) (a + 1) (k + 1) (2000 + 1000 * tr k)) (a + 2) (k + 1) (2000 + 1000 * tr k)) (a + 3) (k + 1) (tr k) = wWr B a tr (k + 1) := by
  funext x j
  by_cases c1 : x = a + 3 ∧ j = k + 1
  · obtain ⟨rfl, rfl⟩ := c1
    rw [s_eq, wWr_t (by omega)]
  · rw [s_ne c1]
    by_cases c2 : x = a + 2 ∧ j = k + 1
    · obtain ⟨rfl, rfl⟩ := c2
      rw [s_eq, wWr_g (Or.inr rfl) (by omega)]
    · rw [s_ne c2]
      by_cases c3 : x = a + 1 ∧ j = k + 1
      · obtain ⟨rfl, rfl⟩ := c3
        rw [s_eq, wWr_g (Or.inl rfl) (by omega)]
      · rw [s_ne c3]
        by_cases c4 : x = a ∧ j = 5
        · obtain ⟨rfl, rfl⟩ := c4
          rw [s_eq, wWr_5]
        · rw [s_ne c4]
          unfold wWr
          rw [if_neg c4, if_neg c4]
          by_cases c5 : (x = a + 1 ∨ x = a + 2) ∧ 1 ≤ j ∧ j < k + 1
          · rw [if_pos c5, if_pos (by omega)]
          · rw [if_neg c5, if_neg (show ¬ ((x = a + 1 ∨ x = a + 2) ∧ 1 ≤ j ∧ j < k + 1 + 1) by omega)]
            by_cases c6 : x = a + 3 ∧ 1 ≤ j ∧ j < k + 1
            · rw [if_pos c6, if_pos (by omega)]
            · rw [if_neg c6, if_neg (show ¬ (x = a + 3 ∧ 1 ≤ j ∧ j < k + 1 + 1) by omega)]
theorem wWr_0 {B : Nat → Nat → Int32} {a : Nat} {tr : Nat → Int32} (h : B a 5 = 0) : wWr B a tr 0 = B := by
  funext x j
  by_cases c : x = a ∧ j = 5
  · obtain ⟨rfl, rfl⟩ := c
    rw [wWr_5, h]; rfl
  · unfold wWr
    rw [if_neg c, if_neg (by omega), if_neg (by omega)]
/-- the row with k letters' truths written -/
def vTw (v : Nat → Int32) (s : Nat) (tr : Nat → Int32) (k : Nat) : Nat → Int32 := fun x => if 98 * s + 68 ≤ x ∧ x < 98 * s + 68 + k then tr (x - (98 * s + 68)) else v x
theorem vTw_o {v tr : Nat → Int32} {s k x : Nat} (h : ¬ (98 * s + 68 ≤ x ∧ x < 98 * s + 68 + k)) : vTw v s tr k x = v x := if_neg h
theorem vTw_i {v tr : Nat → Int32} {s k i : Nat} (h : i < k) : vTw v s tr k (98 * s + (68 + i)) = tr i := by
  unfold vTw
  rw [if_pos (by omega), show 98 * s + (68 + i) - (98 * s + 68) = i by omega]
theorem vTw_0 {v tr : Nat → Int32} {s : Nat} : vTw v s tr 0 = v := by funext x; exact vTw_o (by omega)
theorem vTw_u {v tr : Nat → Int32} {s k p : Nat} {x : Int32} (h : ¬ (98 * s + 68 ≤ p ∧ p < 98 * s + 68 + k)) : vU (vTw v s tr k) p x = vTw (vU v p x) s tr k := by
  funext y
  by_cases c : y = p
  · subst c; rw [u_eq, vTw_o h, u_eq]
  · rw [u_ne c]
    unfold vTw
    by_cases c2 : 98 * s + 68 ≤ y ∧ y < 98 * s + 68 + k
    · rw [if_pos c2, if_pos c2]
    · rw [if_neg c2, if_neg c2, u_ne c]
theorem vTw_s {v tr : Nat → Int32} {s k : Nat} : vU (vTw v s tr k) (98 * s + (68 + k)) (tr k) = vTw v s tr (k + 1) := by
  funext y
  by_cases c : y = 98 * s + (68 + k)
  · subst c; rw [u_eq, vTw_i (by omega)]
  · rw [u_ne c]
    unfold vTw
    by_cases c2 : 98 * s + 68 ≤ y ∧ y < 98 * s + 68 + k
    · rw [if_pos c2, if_pos (by omega)]
    · rw [if_neg c2, if_neg (by omega)]
theorem vPn_1 {v nom : Nat → Int32} {s : Nat} (hs : s < 6) : vU (vU (vU v (98 * s + 4) (nom 0)) (98 * s + 36) (nom 0)) 591 (v 591 + nom 0) = vPn v s nom 1 := by
  have r1 := vPn_s (v := v) (s := s) (nom := nom) (m := 0) hs (by omega)
  rw [vPn_0 hs] at r1
  exact r1
set_option maxHeartbeats 4000000 in
theorem r_wri {K : mK} {R : Nat → Nat → Option Nat} {J : Nat → Nat → Int32} {s c q t ln : Nat} {tr : Nat → Int32} {T : Nat → Nat} {Q : Option Value → mH → Prop} (h : zM K R) (hs : s < 6) (hc : c ≤ 30) (hqt : q + c = t) (ht : t ≤ 50) (f1 : J 194 12 = nI s) (f2 : J 194 13 = nI q) (hT : ∀ k, k < t → J 200 k = nI (T k)) (htr : ∀ i, i < c → 97 ≤ T (q + i) ∧ tr i = nI (T (q + i) - 97) ∧ T (q + i) < 65536) (hl : J 195 595 = nI ln) (hl2 : ln ≤ 10)
    (hQ : Q (some (.int (nI c))) (K, R, rSet J 195 (vTl (vU (vU (vU (vU (vTw (vPn (J 195) s (nomQ tr c) (c + 2)) s tr c) (98 * s) 1) (98 * s + 1) 1) (98 * s + 2) (nI c)) (98 * s + 3) 0) ln 0 (nI s) (nI c)))) :
    Ev 121 (mB 121 63) [.ref 194, .int (nI c), .int 0, .null] [] (K, R, rSet J 195 (vPn (J 195) s (nomQ tr c) 1)) Q := by
  obtain ⟨m0, m1, m2, -, -, -, -, -, -, m9, m10, m11, m12, -⟩ := id h
  have g1 : ∀ w, rSet J 195 w 194 12 = nI s := fun w => by rw [rSet_o (by omega)]; exact f1
  have g2 : ∀ w, rSet J 195 w 194 13 = nI q := fun w => by rw [rSet_o (by omega)]; exact f2
  have g3 : ∀ w k, k < t → rSet J 195 w 200 k = nI (T k) := fun w k hk => by rw [rSet_o (by omega)]; exact hT k hk
  have key : ∀ (l3 : Value), Ev 121 (mB 121 63) [.ref 194, .int (nI c), .int (nI 0), l3] [] (K, R, rSet J 195 (vTw (vPn (J 195) s (nomQ tr c) (0 + 1)) s tr 0)) Q := by
    refine loop_dn (n := c) (P := fun k => ∀ (l3 : Value), Ev 121 (mB 121 63) [.ref 194, .int (nI c), .int (nI k), l3] [] (K, R, rSet J 195 (vTw (vPn (J 195) s (nomQ tr c) (k + 1)) s tr k)) Q) ?_ ?_
    · intro k hk hnext l3
      obtain ⟨t1, t2, t3⟩ := htr k hk
      have e3 := g3 (vTw (vPn (J 195) s (nomQ tr c) (k + 1)) s tr k) (q + k) (by omega)
      rw [B_121_63]
      simp (disch := omega) only [e_iconst, e_bipush, e_sipush, e_istore_n, e_istore, e_astore_n, e_astore, e_iadd, e_isub, e_imul, e_iand, e_ishr, e_idiv, e_i2c, e_dup_i, e_dup_r, e_dup2, e_pop, e_goto, e_nop, e_if_eq, e_if_ne, e_if_lt, e_if_ge, e_if_gt, e_if_le, e_icmp_eq, e_icmp_ne, e_icmp_lt, e_icmp_ge, e_icmp_gt, e_icmp_le, e_tsw, e_ret0, e_ret1, e_retn, e_getI, e_getZ, e_getV, e_getC, e_putI, e_putZ, e_putF, e_gst0, e_gst1, e_sld, e_iald, e_cald, e_bald, e_iast, e_cast, e_aald, e_aast, e_alen, e_slen, e_blen, e_newa, e_newq, e_new, e_oinit, e_ctor, e_virt, e_stat, e_min, e_copy, e_ldc, f_al0, f_il0, f_ii0, f_al1, f_il1, f_ii1, f_al2, f_il2, f_ii2, f_al3, f_il3, f_ii3, f_al4, f_il4, f_ii4, f_al5, f_il5, f_ii5, f_al6, f_il6, f_ii6, f_al7, f_il7, f_ii7, f_al8, f_il8, f_ii8, f_al9, f_il9, f_ii9, f_getR, List.cons_append, List.nil_append, List.append_nil, List.length_cons, List.length_nil, List.replicate_succ, List.replicate_zero, List.getElem?_cons_zero, List.getElem?_cons_succ, List.set_cons_zero, List.set_cons_succ, List.take_succ_cons, List.take_zero, List.drop_succ_cons, List.drop_zero, List.reverse_cons, List.reverse_nil, Option.toList_some, Option.toList_none, Nat.reduceSub, Nat.reduceAdd, Nat.reduceLeDiff, true_and, and_true, and_self, Option.some.injEq, exists_eq_left', Nat.zero_add, Value.int.injEq, Value.ref.injEq, List.cons.injEq, exists_and_left, and_assoc, exists_eq_left, bk_121_63, m0, m11, m12, n_le, if_neg, g1, g2, n_add, n_in, n_cl, e3, o_sub_l, ← t2, o_add_r, C_99, C_92, r_punches h hs (show 1 + k < 32 by omega), r_putsN h hs (show 68 + k < 98 by omega), rs_rs, rSet_s, rs_m, o_add_l, not_true_eq_false, not_false_eq_true, or_true, true_or, or_false, false_or, false_and, and_false, Nat.reduceEqDiff, Nat.reduceLT, Nat.reduceMul, Nat.not_lt_zero, Nat.zero_le, Nat.le_refl, ne_eq, ↓reduceIte, reduceCtorEq]
      refine Ev_cg ?_ rfl (hnext (.int (tr k)))
      have r1 := vPn_s (v := J 195) (s := s) (nom := nomQ tr c) (m := k + 1) hs (by omega)
      rw [nomQ_i hk] at r1
      rw [show 1 + k = k + 1 by omega, vTw_o (x := 591) (by omega), vTw_u (by omega), vTw_u (by omega), vTw_u (by omega), r1, vTw_s]
    · intro l3
      have r1 := vPn_s (v := J 195) (s := s) (nom := nomQ tr c) (m := c + 1) hs (by omega)
      rw [nomQ_e] at r1
      have e1 : vU (vU (vU (vTw (vPn (J 195) s (nomQ tr c) (c + 1)) s tr c) (98 * s + (4 + (1 + c))) 5000) (98 * s + (36 + (1 + c))) 5000) 591 (vTw (vPn (J 195) s (nomQ tr c) (c + 1)) s tr c 591 + 5000) = vTw (vPn (J 195) s (nomQ tr c) (c + 2)) s tr c := by
        rw [show 1 + c = c + 1 by omega, vTw_o (x := 591) (by omega), vTw_u (by omega), vTw_u (by omega), vTw_u (by omega), r1]
      rw [B_121_63]
      simp (disch := omega) only [e_iconst, e_bipush, e_sipush, e_istore_n, e_istore, e_astore_n, e_astore, e_iadd, e_isub, e_imul, e_iand, e_ishr, e_idiv, e_i2c, e_dup_i, e_dup_r, e_dup2, e_pop, e_goto, e_nop, e_if_eq, e_if_ne, e_if_lt, e_if_ge, e_if_gt, e_if_le, e_icmp_eq, e_icmp_ne, e_icmp_lt, e_icmp_ge, e_icmp_gt, e_icmp_le, e_tsw, e_ret0, e_ret1, e_retn, e_getI, e_getZ, e_getV, e_getC, e_putI, e_putZ, e_putF, e_gst0, e_gst1, e_sld, e_iald, e_cald, e_bald, e_iast, e_cast, e_aald, e_aast, e_alen, e_slen, e_blen, e_newa, e_newq, e_new, e_oinit, e_ctor, e_virt, e_stat, e_min, e_copy, e_ldc, f_al0, f_il0, f_ii0, f_al1, f_il1, f_ii1, f_al2, f_il2, f_ii2, f_al3, f_il3, f_ii3, f_al4, f_il4, f_ii4, f_al5, f_il5, f_ii5, f_al6, f_il6, f_ii6, f_al7, f_il7, f_ii7, f_al8, f_il8, f_ii8, f_al9, f_il9, f_ii9, f_getR, List.cons_append, List.nil_append, List.append_nil, List.length_cons, List.length_nil, List.replicate_succ, List.replicate_zero, List.getElem?_cons_zero, List.getElem?_cons_succ, List.set_cons_zero, List.set_cons_succ, List.take_succ_cons, List.take_zero, List.drop_succ_cons, List.drop_zero, List.reverse_cons, List.reverse_nil, Option.toList_some, Option.toList_none, Nat.reduceSub, Nat.reduceAdd, Nat.reduceLeDiff, true_and, and_true, and_self, Option.some.injEq, exists_eq_left', Nat.zero_add, Value.int.injEq, Value.ref.injEq, List.cons.injEq, exists_and_left, and_assoc, exists_eq_left, bk_121_63, n_le, if_pos, Nat.le_refl, not_true_eq_false, not_false_eq_true, or_true, true_or, or_false, false_or, false_and, and_false, Nat.reduceEqDiff, Nat.reduceLT, Nat.reduceMul, Nat.not_lt_zero, Nat.zero_le, Nat.le_refl, ne_eq, ↓reduceIte, reduceCtorEq]
      rw [B_121_122]
      simp (disch := omega) only [e_iconst, e_bipush, e_sipush, e_istore_n, e_istore, e_astore_n, e_astore, e_iadd, e_isub, e_imul, e_iand, e_ishr, e_idiv, e_i2c, e_dup_i, e_dup_r, e_dup2, e_pop, e_goto, e_nop, e_if_eq, e_if_ne, e_if_lt, e_if_ge, e_if_gt, e_if_le, e_icmp_eq, e_icmp_ne, e_icmp_lt, e_icmp_ge, e_icmp_gt, e_icmp_le, e_tsw, e_ret0, e_ret1, e_retn, e_getI, e_getZ, e_getV, e_getC, e_putI, e_putZ, e_putF, e_gst0, e_gst1, e_sld, e_iald, e_cald, e_bald, e_iast, e_cast, e_aald, e_aast, e_alen, e_slen, e_blen, e_newa, e_newq, e_new, e_oinit, e_ctor, e_virt, e_stat, e_min, e_copy, e_ldc, f_al0, f_il0, f_ii0, f_al1, f_il1, f_ii1, f_al2, f_il2, f_ii2, f_al3, f_il3, f_ii3, f_al4, f_il4, f_ii4, f_al5, f_il5, f_ii5, f_al6, f_il6, f_ii6, f_al7, f_il7, f_ii7, f_al8, f_il8, f_ii8, f_al9, f_il9, f_ii9, f_getR, List.cons_append, List.nil_append, List.append_nil, List.length_cons, List.length_nil, List.replicate_succ, List.replicate_zero, List.getElem?_cons_zero, List.getElem?_cons_succ, List.set_cons_zero, List.set_cons_succ, List.take_succ_cons, List.take_zero, List.drop_succ_cons, List.drop_zero, List.reverse_cons, List.reverse_nil, Option.toList_some, Option.toList_none, Nat.reduceSub, Nat.reduceAdd, Nat.reduceLeDiff, true_and, and_true, and_self, Option.some.injEq, exists_eq_left', Nat.zero_add, Value.int.injEq, Value.ref.injEq, List.cons.injEq, exists_and_left, and_assoc, exists_eq_left, bk_121_122, m0, g1, o_add_r, C_99, C_92, C_96, r_punches h hs (show 1 + c < 32 by omega), r_putsL h hs, m_rs, rs_rs, rSet_s, rs_m, e1, rSet_o, f1, Nat.add_zero, not_true_eq_false, not_false_eq_true, or_true, true_or, or_false, false_or, false_and, and_false, Nat.reduceEqDiff, Nat.reduceLT, Nat.reduceMul, Nat.not_lt_zero, Nat.zero_le, Nat.le_refl, ne_eq, ↓reduceIte, reduceCtorEq]
      rw [r_tells h (n := ln) ?_ hl2]
      · simp (disch := omega) only [e_iconst, e_bipush, e_sipush, e_istore_n, e_istore, e_astore_n, e_astore, e_iadd, e_isub, e_imul, e_iand, e_ishr, e_idiv, e_i2c, e_dup_i, e_dup_r, e_dup2, e_pop, e_goto, e_nop, e_if_eq, e_if_ne, e_if_lt, e_if_ge, e_if_gt, e_if_le, e_icmp_eq, e_icmp_ne, e_icmp_lt, e_icmp_ge, e_icmp_gt, e_icmp_le, e_tsw, e_ret0, e_ret1, e_retn, e_getI, e_getZ, e_getV, e_getC, e_putI, e_putZ, e_putF, e_gst0, e_gst1, e_sld, e_iald, e_cald, e_bald, e_iast, e_cast, e_aald, e_aast, e_alen, e_slen, e_blen, e_newa, e_newq, e_new, e_oinit, e_ctor, e_virt, e_stat, e_min, e_copy, e_ldc, f_al0, f_il0, f_ii0, f_al1, f_il1, f_ii1, f_al2, f_il2, f_ii2, f_al3, f_il3, f_ii3, f_al4, f_il4, f_ii4, f_al5, f_il5, f_ii5, f_al6, f_il6, f_ii6, f_al7, f_il7, f_ii7, f_al8, f_il8, f_ii8, f_al9, f_il9, f_ii9, f_getR, List.cons_append, List.nil_append, List.append_nil, List.length_cons, List.length_nil, List.replicate_succ, List.replicate_zero, List.getElem?_cons_zero, List.getElem?_cons_succ, List.set_cons_zero, List.set_cons_succ, List.take_succ_cons, List.take_zero, List.drop_succ_cons, List.drop_zero, List.reverse_cons, List.reverse_nil, Option.toList_some, Option.toList_none, Nat.reduceSub, Nat.reduceAdd, Nat.reduceLeDiff, true_and, and_true, and_self, Option.some.injEq, exists_eq_left', Nat.zero_add, Value.int.injEq, Value.ref.injEq, List.cons.injEq, exists_and_left, and_assoc, exists_eq_left, rs_rs, rSet_s, not_true_eq_false, not_false_eq_true, or_true, true_or, or_false, false_or, false_and, and_false, Nat.reduceEqDiff, Nat.reduceLT, Nat.reduceMul, Nat.not_lt_zero, Nat.zero_le, Nat.le_refl, ne_eq, ↓reduceIte, reduceCtorEq]
        exact hQ
      · simp (disch := omega) only [rSet_s, u_ne, vTw_o, vPn_o]; exact hl
  have k0 := key .null
  rw [vTw_0] at k0
  exact k0
