/-! cut -/
theorem fB_hit {P : Nat → Bool} {n k : Nat} (h : fB P n k = n) (hk : k < n) (hp : P k = true) : fB P n n = k := by
  have hs : fB P n (k + 1) = k := by simp [fB, h, hp]
  have hst : ∀ j, k + 1 ≤ j → j ≤ n → fB P n j = k := by
    intro j
    induction j with
    | zero => intro h; omega
    | succ j ih =>
      intro hj1 hj2
      rcases Nat.lt_or_ge j (k + 1) with z | z
      · rw [show j = k by omega]; exact hs
      · rw [fB, ih z (by omega), if_neg (by omega)]
  exact hst n (by omega) (Nat.le_refl _)
theorem fB_cg {P P' : Nat → Bool} {n : Nat} : ∀ k, k ≤ n → (∀ s, s < n → P s = P' s) → fB P n k = fB P' n k := by
  intro k
  induction k with
  | zero => intro _ _; rfl
  | succ k ih => intro hk h; simp only [fB, ih (by omega) h, h k (by omega)]
theorem RC_low {I : Nat → Nat → Int32} {a : Nat} {v : Nat → Int32} (h : RC I a v) : fB (fun s => I (a + 6 + 4 * s) 3 == 0) 6 6 = fB (fun s => v (98 * s) == 0) 6 6 := by
  refine fB_cg 6 (by omega) (fun s hs => ?_)
  obtain ⟨p, cl, c, ⟨f1, -⟩, ⟨g1, -⟩, -⟩ := h.1 s hs
  rw [f1, g1]
/-- within the letters, or not -/
theorem r_inI {l c : Nat} {h : mH} {Q : Option Value → mH → Prop} (hl : l < c) (hc : c ≤ 1000) : EvM 89 [.int (nI l), .int 0, .int (nI c - 1)] h Q ↔ Q (some (.int 1)) h := by
  rw [r_in, if_neg (n_ne0 (by omega)), show nI c - 1 = nI (c - 1) from o_sub_l (b := 1) (by show 1 ≤ c; omega), if_neg (by rw [n_lt (by omega) (by omega)]; omega)]
theorem r_inO {x : Int32} {c : Nat} {h : mH} {Q : Option Value → mH → Prop} (q : x < 0 ∨ nI c ≤ x) (hc : c ≤ 1000) : EvM 89 [.int x, .int 0, .int (nI c - 1)] h Q ↔ Q (some (.int 0)) h := by
  rw [r_in]
  by_cases c1 : x < 0
  · rw [if_pos c1]
  · have q2 : nI c ≤ x := by
      rcases q with q | q
      · exact absurd q c1
      · exact q
    have q3 : nI c - 1 < x := by
      rcases Nat.eq_zero_or_pos c with e | e
      · subst e
        have : (0 : Int32) ≤ x := Int32.not_lt.mp c1
        rw [show nI 0 - 1 = -1 from rfl]
        rw [Int32.lt_iff_toInt_lt, show (-1 : Int32).toInt = -1 from by decide]
        rw [Int32.le_iff_toInt_le, Int32.toInt_zero] at this
        omega
      · rw [show nI c - 1 = nI (c - 1) from o_sub_l (b := 1) (by show 1 ≤ c; omega)]
        rw [Int32.lt_iff_toInt_lt, nI_toInt (by omega)]
        rw [Int32.le_iff_toInt_le, nI_toInt (by omega)] at q2
        omega
    rw [if_neg c1, if_pos q3]
theorem m_letI {K : mK} {R : Nat → Nat → Option Nat} {I : Nat → Nat → Int32} {a l c : Nat} {Q : Option Value → mH → Prop} (h : zW K R a) (hc : I a 5 = nI c) (hl : l < c) (hc2 : c ≤ 1000) : EvM 39 [.ref a, .int (nI l)] (K, R, I) Q ↔ Q (some (.int 1)) (K, R, I) := by
  rw [m_hasLetter h, hc, if_neg (n_ne0 (by omega)), if_neg (by rw [n_le (by omega) (by omega)]; omega)]
theorem m_letO {K : mK} {R : Nat → Nat → Option Nat} {I : Nat → Nat → Int32} {a c : Nat} {x : Int32} {Q : Option Value → mH → Prop} (h : zW K R a) (hc : I a 5 = nI c) (q : x < 0 ∨ nI c ≤ x) : EvM 39 [.ref a, .int x] (K, R, I) Q ↔ Q (some (.int 0)) (K, R, I) := by
  rw [m_hasLetter h, hc]
  by_cases c1 : x < 0
  · rw [if_pos c1]
  · have q2 : nI c ≤ x := by
      rcases q with q | q
      · exact absurd q c1
      · exact q
    rw [if_neg c1, if_pos q2]
theorem r_punches0 {K : mK} {R : Nat → Nat → Option Nat} {I : Nat → Nat → Int32} {s : Nat} {x : Int32} {Q : Option Value → mH → Prop} (h : zM K R) (hs : s < 6) : EvM 99 [.ref 194, .int (nI s), .int 0, .int x] (K, R, I) Q ↔ Q none (K, R, rSet I 195 (vU (vU (vU (I 195) (98 * s + 4) x) (98 * s + 36) x) 591 (I 195 591 + x))) := r_punches (g := 0) h hs (by omega)
theorem m_takeTail' {K : mK} {R : Nat → Nat → Option Nat} {I : Nat → Nat → Int32} {a b cl c l : Nat} {Q : Option Value → mH → Prop} (h : zW K R a) (h' : zW K R b) (hab : a + 4 ≤ b ∨ b + 4 ≤ a) (hf : wF I b 1 cl c) (hl : l ≤ c) :
    EvM 47 [.ref a, .ref b, .int (nI l)] (K, R, I) Q ↔ Q none (K, R, mSet (mSet (mSet (mSet (wAp (mSet (mSet (mSet (mSet (mSet (mSet (mSet (mSet I a 3 0) a 4 0) a 5 0) a 6 0) a 3 1) (a + 1) 0 5000) (a + 2) 0 5000) (a + 3) 0 (-1)) a b 0 l (c - l + cl)) a 5 (nI (c - l))) a 4 (nI cl)) b 5 (nI l)) b 4 0) := by
  have := m_takeTail (Q := Q) h h' hab hf hl
  rw [show c + cl - l = c - l + cl by omega, show 0 + (c - l) = c - l by omega] at this
  exact this
/-- the reference's search for an empty spool -/
theorem r_low {K : mK} {R : Nat → Nat → Option Nat} {J : Nat → Nat → Int32} {s l : Nat} {Q : Option Value → mH → Prop} (h : zM K R)
    (hQ : Ev 104 (mB 104 55) [.ref 194, .int (nI s), .int (nI l), .int (nI (fB (fun s => J 195 (98 * s) == 0) 6 6)), .null, .null] [] (K, R, J) Q) :
    Ev 104 (mB 104 35) [.ref 194, .int (nI s), .int (nI l), .int 0, .null, .null] [] (K, R, J) Q := by
  obtain ⟨h0, h1, h2, -⟩ := id h
  have key := loop_dn (n := 6) (P := fun k => fB (fun s => J 195 (98 * s) == 0) 6 k = 6 → Ev 104 (mB 104 35) [.ref 194, .int (nI s), .int (nI l), .int (nI k), .null, .null] [] (K, R, J) Q) ?_ ?_
  · exact key rfl
  · intro k hk hnext hfb
    rw [B_104_35]
    simp (disch := omega) only [e_iconst, e_bipush, e_sipush, e_iload_n, e_iload, e_aload_n, e_aload, e_istore_n, e_istore, e_astore_n, e_astore, e_iinc, e_iadd, e_isub, e_imul, e_iand, e_ishr, e_idiv, e_i2c, e_dup_i, e_dup_r, e_dup2, e_pop, e_goto, e_nop, e_if_eq, e_if_ne, e_if_lt, e_if_ge, e_if_gt, e_if_le, e_icmp_eq, e_icmp_ne, e_icmp_lt, e_icmp_ge, e_icmp_gt, e_icmp_le, e_tsw, e_ret0, e_ret1, e_retn, e_getI, e_getZ, e_getR, e_getV, e_getC, e_putI, e_putZ, e_putF, e_gst0, e_gst1, e_sld, e_iald, e_cald, e_bald, e_iast, e_cast, e_aald, e_aast, e_alen, e_slen, e_blen, e_newa, e_newq, e_new, e_oinit, e_ctor, e_virt, e_stat, e_min, e_copy, e_ldc, List.cons_append, List.nil_append, List.append_nil, List.length_cons, List.length_nil, List.replicate_succ, List.replicate_zero, List.getElem?_cons_zero, List.getElem?_cons_succ, List.set_cons_zero, List.set_cons_succ, List.take_succ_cons, List.take_zero, List.drop_succ_cons, List.drop_zero, List.reverse_cons, List.reverse_nil, Option.toList_some, Option.toList_none, Nat.reduceSub, Nat.reduceAdd, Nat.reduceLeDiff, true_and, and_true, and_self, Option.some.injEq, exists_eq_left', Nat.zero_add, Value.int.injEq, Value.ref.injEq, List.cons.injEq, exists_and_left, and_assoc, exists_eq_left, bk_104_35, h0, o_le_r, if_neg, C_93, r_isEmpty h hk, if_pos, if_neg, not_true_eq_false, not_false_eq_true, or_true, true_or, or_false, false_or, false_and, and_false, Nat.reduceEqDiff, Nat.reduceLT, Nat.reduceMul, Nat.not_lt_zero, Nat.zero_le, Nat.le_refl, ne_eq, reduceIte, reduceCtorEq]
    by_cases c : J 195 (98 * k) = 0
    · simp (disch := omega) only [e_iconst, e_bipush, e_sipush, e_iload_n, e_iload, e_aload_n, e_aload, e_istore_n, e_istore, e_astore_n, e_astore, e_iinc, e_iadd, e_isub, e_imul, e_iand, e_ishr, e_idiv, e_i2c, e_dup_i, e_dup_r, e_dup2, e_pop, e_goto, e_nop, e_if_eq, e_if_ne, e_if_lt, e_if_ge, e_if_gt, e_if_le, e_icmp_eq, e_icmp_ne, e_icmp_lt, e_icmp_ge, e_icmp_gt, e_icmp_le, e_tsw, e_ret0, e_ret1, e_retn, e_getI, e_getZ, e_getR, e_getV, e_getC, e_putI, e_putZ, e_putF, e_gst0, e_gst1, e_sld, e_iald, e_cald, e_bald, e_iast, e_cast, e_aald, e_aast, e_alen, e_slen, e_blen, e_newa, e_newq, e_new, e_oinit, e_ctor, e_virt, e_stat, e_min, e_copy, e_ldc, List.cons_append, List.nil_append, List.append_nil, List.length_cons, List.length_nil, List.replicate_succ, List.replicate_zero, List.getElem?_cons_zero, List.getElem?_cons_succ, List.set_cons_zero, List.set_cons_succ, List.take_succ_cons, List.take_zero, List.drop_succ_cons, List.drop_zero, List.reverse_cons, List.reverse_nil, Option.toList_some, Option.toList_none, Nat.reduceSub, Nat.reduceAdd, Nat.reduceLeDiff, true_and, and_true, and_self, Option.some.injEq, exists_eq_left', Nat.zero_add, Value.int.injEq, Value.ref.injEq, List.cons.injEq, exists_and_left, and_assoc, exists_eq_left, c, o_eq, if_pos, if_neg, not_true_eq_false, not_false_eq_true, or_true, true_or, or_false, false_or, false_and, and_false, Nat.reduceEqDiff, Nat.reduceLT, Nat.reduceMul, Nat.not_lt_zero, Nat.zero_le, Nat.le_refl, ne_eq, reduceIte, reduceCtorEq]
      rw [fB_hit hfb hk (by simp [c])] at hQ
      exact hQ
    · simp (disch := omega) only [e_iconst, e_bipush, e_sipush, e_iload_n, e_iload, e_aload_n, e_aload, e_istore_n, e_istore, e_astore_n, e_astore, e_iinc, e_iadd, e_isub, e_imul, e_iand, e_ishr, e_idiv, e_i2c, e_dup_i, e_dup_r, e_dup2, e_pop, e_goto, e_nop, e_if_eq, e_if_ne, e_if_lt, e_if_ge, e_if_gt, e_if_le, e_icmp_eq, e_icmp_ne, e_icmp_lt, e_icmp_ge, e_icmp_gt, e_icmp_le, e_tsw, e_ret0, e_ret1, e_retn, e_getI, e_getZ, e_getR, e_getV, e_getC, e_putI, e_putZ, e_putF, e_gst0, e_gst1, e_sld, e_iald, e_cald, e_bald, e_iast, e_cast, e_aald, e_aast, e_alen, e_slen, e_blen, e_newa, e_newq, e_new, e_oinit, e_ctor, e_virt, e_stat, e_min, e_copy, e_ldc, List.cons_append, List.nil_append, List.append_nil, List.length_cons, List.length_nil, List.replicate_succ, List.replicate_zero, List.getElem?_cons_zero, List.getElem?_cons_succ, List.set_cons_zero, List.set_cons_succ, List.take_succ_cons, List.take_zero, List.drop_succ_cons, List.drop_zero, List.reverse_cons, List.reverse_nil, Option.toList_some, Option.toList_none, Nat.reduceSub, Nat.reduceAdd, Nat.reduceLeDiff, true_and, and_true, and_self, Option.some.injEq, exists_eq_left', Nat.zero_add, Value.int.injEq, Value.ref.injEq, List.cons.injEq, exists_and_left, and_assoc, exists_eq_left, c, o_add_l, if_pos, if_neg, not_true_eq_false, not_false_eq_true, or_true, true_or, or_false, false_or, false_and, and_false, Nat.reduceEqDiff, Nat.reduceLT, Nat.reduceMul, Nat.not_lt_zero, Nat.zero_le, Nat.le_refl, ne_eq, reduceIte, reduceCtorEq]
      exact hnext (by simp [fB, hfb, c])
  · intro hfb
    rw [B_104_35]
    simp (disch := omega) only [e_iconst, e_bipush, e_sipush, e_iload_n, e_iload, e_aload_n, e_aload, e_istore_n, e_istore, e_astore_n, e_astore, e_iinc, e_iadd, e_isub, e_imul, e_iand, e_ishr, e_idiv, e_i2c, e_dup_i, e_dup_r, e_dup2, e_pop, e_goto, e_nop, e_if_eq, e_if_ne, e_if_lt, e_if_ge, e_if_gt, e_if_le, e_icmp_eq, e_icmp_ne, e_icmp_lt, e_icmp_ge, e_icmp_gt, e_icmp_le, e_tsw, e_ret0, e_ret1, e_retn, e_getI, e_getZ, e_getR, e_getV, e_getC, e_putI, e_putZ, e_putF, e_gst0, e_gst1, e_sld, e_iald, e_cald, e_bald, e_iast, e_cast, e_aald, e_aast, e_alen, e_slen, e_blen, e_newa, e_newq, e_new, e_oinit, e_ctor, e_virt, e_stat, e_min, e_copy, e_ldc, List.cons_append, List.nil_append, List.append_nil, List.length_cons, List.length_nil, List.replicate_succ, List.replicate_zero, List.getElem?_cons_zero, List.getElem?_cons_succ, List.set_cons_zero, List.set_cons_succ, List.take_succ_cons, List.take_zero, List.drop_succ_cons, List.drop_zero, List.reverse_cons, List.reverse_nil, Option.toList_some, Option.toList_none, Nat.reduceSub, Nat.reduceAdd, Nat.reduceLeDiff, true_and, and_true, and_self, Option.some.injEq, exists_eq_left', Nat.zero_add, Value.int.injEq, Value.ref.injEq, List.cons.injEq, exists_and_left, and_assoc, exists_eq_left, bk_104_35, o_le_r, if_pos, Nat.le_refl, if_pos, if_neg, not_true_eq_false, not_false_eq_true, or_true, true_or, or_false, false_or, false_and, and_false, Nat.reduceEqDiff, Nat.reduceLT, Nat.reduceMul, Nat.not_lt_zero, Nat.zero_le, Nat.le_refl, ne_eq, reduceIte, reduceCtorEq]
    rw [hfb] at hQ
    exact hQ
/-- the reference's part of a cut, behind the record -/
theorem r_cut {K : mK} {R : Nat → Nat → Option Nat} {J : Nat → Nat → Int32} {s t c cl l ln : Nat} {Q : Option Value → mH → Prop} (h : zM K R) (hs : s < 6) (ht : t < 6) (hne : s ≠ t) (v1 : J 195 (98 * s + 1) = nI cl) (hcl : cl ≤ 1) (hc : c ≤ 30) (hlc : l ≤ c) (hl : J 195 595 = nI ln) (hl2 : ln ≤ 10)
    (hQ : Q (some (.int (nI t))) (K, R, rSet J 195 (vTl (vU (vU (vU (vU (vU (vU (vU (vU (vU (vTr (vCc (J 195) s l t 0 (c - l + cl)) s l t 0 (c - l)) (98 * t + 4) 5000) (98 * t + 36) 5000) 591 (J 195 591 + 5000)) (98 * t) 1) (98 * t + 1) (nI cl)) (98 * t + 2) (nI (c - l))) (98 * t + 3) 0) (98 * s + 1) 0) (98 * s + 2) (nI l)) ln 3 (nI s) (nI t)))) :
    Ev 104 (mB 104 81) [.ref 194, .int (nI s), .int (nI l), .int (nI t), .int (nI (c - l)), .int 0] [] (K, R, J) Q := by
  obtain ⟨h0, h1, h2, -⟩ := id h
  have two : Ev 104 (mB 104 120) [.ref 194, .int (nI s), .int (nI l), .int (nI t), .int (nI (c - l)), .int 0] [] (K, R, rSet J 195 (vCc (J 195) s l t 0 (c - l + cl))) Q := by
    have key := loop_dn (n := c - l) (P := fun k => Ev 104 (mB 104 120) [.ref 194, .int (nI s), .int (nI l), .int (nI t), .int (nI (c - l)), .int (nI k)] [] (K, R, rSet J 195 (vTr (vCc (J 195) s l t 0 (c - l + cl)) s l t 0 k)) Q) ?_ ?_
    · rw [vTr_0] at key; exact key
    · intro k hk hnext
      rw [B_104_120]
      simp (disch := omega) only [e_iconst, e_bipush, e_sipush, e_iload_n, e_iload, e_aload_n, e_aload, e_istore_n, e_istore, e_astore_n, e_astore, e_iinc, e_iadd, e_isub, e_imul, e_iand, e_ishr, e_idiv, e_i2c, e_dup_i, e_dup_r, e_dup2, e_pop, e_goto, e_nop, e_if_eq, e_if_ne, e_if_lt, e_if_ge, e_if_gt, e_if_le, e_icmp_eq, e_icmp_ne, e_icmp_lt, e_icmp_ge, e_icmp_gt, e_icmp_le, e_tsw, e_ret0, e_ret1, e_retn, e_getI, e_getZ, e_getR, e_getV, e_getC, e_putI, e_putZ, e_putF, e_gst0, e_gst1, e_sld, e_iald, e_cald, e_bald, e_iast, e_cast, e_aald, e_aast, e_alen, e_slen, e_blen, e_newa, e_newq, e_new, e_oinit, e_ctor, e_virt, e_stat, e_min, e_copy, e_ldc, List.cons_append, List.nil_append, List.append_nil, List.length_cons, List.length_nil, List.replicate_succ, List.replicate_zero, List.getElem?_cons_zero, List.getElem?_cons_succ, List.set_cons_zero, List.set_cons_succ, List.take_succ_cons, List.take_zero, List.drop_succ_cons, List.drop_zero, List.reverse_cons, List.reverse_nil, Option.toList_some, Option.toList_none, Nat.reduceSub, Nat.reduceAdd, Nat.reduceLeDiff, true_and, and_true, and_self, Option.some.injEq, exists_eq_left', Nat.zero_add, Value.int.injEq, Value.ref.injEq, List.cons.injEq, exists_and_left, and_assoc, exists_eq_left, bk_104_120, h0, n_le, if_neg, o_add_r, n_add, C_91, C_92, r_ofN h hs (show 68 + l + k < 98 by omega), r_putsN h ht (show 68 + k < 98 by omega), m_rs, rs_rs, rSet_s, o_add_l, if_pos, if_neg, not_true_eq_false, not_false_eq_true, or_true, true_or, or_false, false_or, false_and, and_false, Nat.reduceEqDiff, Nat.reduceLT, Nat.reduceMul, Nat.not_lt_zero, Nat.zero_le, Nat.le_refl, ne_eq, reduceIte, reduceCtorEq]
      refine Ev_cg ?_ rfl hnext
      have r1 := vTr_s (v := vCc (J 195) s l t 0 (c - l + cl)) (src := s) (l := l) (dst := t) (d := 0) (k := k)
      have a1 : vTr (vCc (J 195) s l t 0 (c - l + cl)) s l t 0 k (98 * s + (68 + l + k)) = vCc (J 195) s l t 0 (c - l + cl) (98 * s + (68 + (l + k))) := by
        rw [vTr_o (by omega), show 68 + l + k = 68 + (l + k) by omega]
      rw [a1]
      rw [show 0 + k = k by omega] at r1
      rw [r1]
    · rw [B_104_120]
      simp (disch := omega) only [e_iconst, e_bipush, e_sipush, e_iload_n, e_iload, e_aload_n, e_aload, e_istore_n, e_istore, e_astore_n, e_astore, e_iinc, e_iadd, e_isub, e_imul, e_iand, e_ishr, e_idiv, e_i2c, e_dup_i, e_dup_r, e_dup2, e_pop, e_goto, e_nop, e_if_eq, e_if_ne, e_if_lt, e_if_ge, e_if_gt, e_if_le, e_icmp_eq, e_icmp_ne, e_icmp_lt, e_icmp_ge, e_icmp_gt, e_icmp_le, e_tsw, e_ret0, e_ret1, e_retn, e_getI, e_getZ, e_getR, e_getV, e_getC, e_putI, e_putZ, e_putF, e_gst0, e_gst1, e_sld, e_iald, e_cald, e_bald, e_iast, e_cast, e_aald, e_aast, e_alen, e_slen, e_blen, e_newa, e_newq, e_new, e_oinit, e_ctor, e_virt, e_stat, e_min, e_copy, e_ldc, List.cons_append, List.nil_append, List.append_nil, List.length_cons, List.length_nil, List.replicate_succ, List.replicate_zero, List.getElem?_cons_zero, List.getElem?_cons_succ, List.set_cons_zero, List.set_cons_succ, List.take_succ_cons, List.take_zero, List.drop_succ_cons, List.drop_zero, List.reverse_cons, List.reverse_nil, Option.toList_some, Option.toList_none, Nat.reduceSub, Nat.reduceAdd, Nat.reduceLeDiff, true_and, and_true, and_self, Option.some.injEq, exists_eq_left', Nat.zero_add, Value.int.injEq, Value.ref.injEq, List.cons.injEq, exists_and_left, and_assoc, exists_eq_left, bk_104_120, n_le, if_pos, Nat.le_refl, if_pos, if_neg, not_true_eq_false, not_false_eq_true, or_true, true_or, or_false, false_or, false_and, and_false, Nat.reduceEqDiff, Nat.reduceLT, Nat.reduceMul, Nat.not_lt_zero, Nat.zero_le, Nat.le_refl, ne_eq, reduceIte, reduceCtorEq]
      rw [B_104_155]
      have u1 : vTr (vCc (J 195) s l t 0 (c - l + cl)) s l t 0 (c - l) (98 * s + 1) = nI cl := by
        rw [vTr_o (by omega), vCc_o ⟨by omega, by omega⟩]; exact v1
      have u2 : vTr (vCc (J 195) s l t 0 (c - l + cl)) s l t 0 (c - l) 591 = J 195 591 := by
        rw [vTr_o (by omega), vCc_o ⟨by omega, by omega⟩]
      simp (disch := omega) only [e_iconst, e_bipush, e_sipush, e_iload_n, e_iload, e_aload_n, e_aload, e_istore_n, e_istore, e_astore_n, e_astore, e_iinc, e_iadd, e_isub, e_imul, e_iand, e_ishr, e_idiv, e_i2c, e_dup_i, e_dup_r, e_dup2, e_pop, e_goto, e_nop, e_if_eq, e_if_ne, e_if_lt, e_if_ge, e_if_gt, e_if_le, e_icmp_eq, e_icmp_ne, e_icmp_lt, e_icmp_ge, e_icmp_gt, e_icmp_le, e_tsw, e_ret0, e_ret1, e_retn, e_getI, e_getZ, e_getR, e_getV, e_getC, e_putI, e_putZ, e_putF, e_gst0, e_gst1, e_sld, e_iald, e_cald, e_bald, e_iast, e_cast, e_aald, e_aast, e_alen, e_slen, e_blen, e_newa, e_newq, e_new, e_oinit, e_ctor, e_virt, e_stat, e_min, e_copy, e_ldc, List.cons_append, List.nil_append, List.append_nil, List.length_cons, List.length_nil, List.replicate_succ, List.replicate_zero, List.getElem?_cons_zero, List.getElem?_cons_succ, List.set_cons_zero, List.set_cons_succ, List.take_succ_cons, List.take_zero, List.drop_succ_cons, List.drop_zero, List.reverse_cons, List.reverse_nil, Option.toList_some, Option.toList_none, Nat.reduceSub, Nat.reduceAdd, Nat.reduceLeDiff, true_and, and_true, and_self, Option.some.injEq, exists_eq_left', Nat.zero_add, Value.int.injEq, Value.ref.injEq, List.cons.injEq, exists_and_left, and_assoc, exists_eq_left, bk_104_155, h0, C_91, C_92, C_99, r_punches0 h ht, r_ofL h hs, r_putsL h hs, r_putsL h ht, m_rs, rs_rs, rSet_s, u_ne, u1, u2, n_add, Nat.add_zero, C_96, if_pos, if_neg, not_true_eq_false, not_false_eq_true, or_true, true_or, or_false, false_or, false_and, and_false, Nat.reduceEqDiff, Nat.reduceLT, Nat.reduceMul, Nat.not_lt_zero, Nat.zero_le, Nat.le_refl, ne_eq, reduceIte, reduceCtorEq]
      rw [r_tells h (n := ln) ?_ hl2]
      · simp (disch := omega) only [e_iconst, e_bipush, e_sipush, e_iload_n, e_iload, e_aload_n, e_aload, e_istore_n, e_istore, e_astore_n, e_astore, e_iinc, e_iadd, e_isub, e_imul, e_iand, e_ishr, e_idiv, e_i2c, e_dup_i, e_dup_r, e_dup2, e_pop, e_goto, e_nop, e_if_eq, e_if_ne, e_if_lt, e_if_ge, e_if_gt, e_if_le, e_icmp_eq, e_icmp_ne, e_icmp_lt, e_icmp_ge, e_icmp_gt, e_icmp_le, e_tsw, e_ret0, e_ret1, e_retn, e_getI, e_getZ, e_getR, e_getV, e_getC, e_putI, e_putZ, e_putF, e_gst0, e_gst1, e_sld, e_iald, e_cald, e_bald, e_iast, e_cast, e_aald, e_aast, e_alen, e_slen, e_blen, e_newa, e_newq, e_new, e_oinit, e_ctor, e_virt, e_stat, e_min, e_copy, e_ldc, List.cons_append, List.nil_append, List.append_nil, List.length_cons, List.length_nil, List.replicate_succ, List.replicate_zero, List.getElem?_cons_zero, List.getElem?_cons_succ, List.set_cons_zero, List.set_cons_succ, List.take_succ_cons, List.take_zero, List.drop_succ_cons, List.drop_zero, List.reverse_cons, List.reverse_nil, Option.toList_some, Option.toList_none, Nat.reduceSub, Nat.reduceAdd, Nat.reduceLeDiff, true_and, and_true, and_self, Option.some.injEq, exists_eq_left', Nat.zero_add, Value.int.injEq, Value.ref.injEq, List.cons.injEq, exists_and_left, and_assoc, exists_eq_left, rs_rs, rSet_s, if_pos, if_neg, not_true_eq_false, not_false_eq_true, or_true, true_or, or_false, false_or, false_and, and_false, Nat.reduceEqDiff, Nat.reduceLT, Nat.reduceMul, Nat.not_lt_zero, Nat.zero_le, Nat.le_refl, ne_eq, reduceIte, reduceCtorEq]
        exact hQ
      · simp (disch := omega) only [rSet_s, u_ne, vTr_o, vCc_o]; exact hl
  have key := loop_dn (n := c - l + cl) (P := fun k => Ev 104 (mB 104 81) [.ref 194, .int (nI s), .int (nI l), .int (nI t), .int (nI (c - l)), .int (nI k)] [] (K, R, rSet J 195 (vCc (J 195) s l t 0 k)) Q) ?_ ?_
  · rw [vCc_0, rs_id] at key; exact key
  · intro k hk hnext
    rw [B_104_81]
    have u1 : vCc (J 195) s l t 0 k (98 * s + 1) = nI cl := by rw [vCc_o ⟨by omega, by omega⟩]; exact v1
    simp (disch := omega) only [e_iconst, e_bipush, e_sipush, e_iload_n, e_iload, e_aload_n, e_aload, e_istore_n, e_istore, e_astore_n, e_astore, e_iinc, e_iadd, e_isub, e_imul, e_iand, e_ishr, e_idiv, e_i2c, e_dup_i, e_dup_r, e_dup2, e_pop, e_goto, e_nop, e_if_eq, e_if_ne, e_if_lt, e_if_ge, e_if_gt, e_if_le, e_icmp_eq, e_icmp_ne, e_icmp_lt, e_icmp_ge, e_icmp_gt, e_icmp_le, e_tsw, e_ret0, e_ret1, e_retn, e_getI, e_getZ, e_getR, e_getV, e_getC, e_putI, e_putZ, e_putF, e_gst0, e_gst1, e_sld, e_iald, e_cald, e_bald, e_iast, e_cast, e_aald, e_aast, e_alen, e_slen, e_blen, e_newa, e_newq, e_new, e_oinit, e_ctor, e_virt, e_stat, e_min, e_copy, e_ldc, List.cons_append, List.nil_append, List.append_nil, List.length_cons, List.length_nil, List.replicate_succ, List.replicate_zero, List.getElem?_cons_zero, List.getElem?_cons_succ, List.set_cons_zero, List.set_cons_succ, List.take_succ_cons, List.take_zero, List.drop_succ_cons, List.drop_zero, List.reverse_cons, List.reverse_nil, Option.toList_some, Option.toList_none, Nat.reduceSub, Nat.reduceAdd, Nat.reduceLeDiff, true_and, and_true, and_self, Option.some.injEq, exists_eq_left', Nat.zero_add, Value.int.injEq, Value.ref.injEq, List.cons.injEq, exists_and_left, and_assoc, exists_eq_left, bk_104_81, h0, C_91, C_100, r_ofL h hs, rSet_s, u1, n_add, n_le, if_neg, o_add_r, o_add_l, r_copies h hs ht (show l + 1 + k < 32 by omega) (show 1 + k < 32 by omega), rs_rs, if_pos, if_neg, not_true_eq_false, not_false_eq_true, or_true, true_or, or_false, false_or, false_and, and_false, Nat.reduceEqDiff, Nat.reduceLT, Nat.reduceMul, Nat.not_lt_zero, Nat.zero_le, Nat.le_refl, ne_eq, reduceIte, reduceCtorEq]
    refine Ev_cg ?_ rfl hnext
    have r1 := vCc_s (v := J 195) (src := s) (l := l) (dst := t) (d := 0) (k := k) (by omega)
    rw [show 0 + 1 + k = 1 + k by omega] at r1
    have a1 : vCc (J 195) s l t 0 k (98 * s + (4 + (l + 1 + k))) = J 195 (98 * s + (4 + (l + 1 + k))) := vCc_o ⟨by omega, by omega⟩
    have a2 : vCc (J 195) s l t 0 k (98 * s + (36 + (l + 1 + k))) = J 195 (98 * s + (36 + (l + 1 + k))) := vCc_o ⟨by omega, by omega⟩
    rw [a1, a2, r1]
  · rw [B_104_81]
    have u1 : vCc (J 195) s l t 0 (c - l + cl) (98 * s + 1) = nI cl := by rw [vCc_o ⟨by omega, by omega⟩]; exact v1
    simp (disch := omega) only [e_iconst, e_bipush, e_sipush, e_iload_n, e_iload, e_aload_n, e_aload, e_istore_n, e_istore, e_astore_n, e_astore, e_iinc, e_iadd, e_isub, e_imul, e_iand, e_ishr, e_idiv, e_i2c, e_dup_i, e_dup_r, e_dup2, e_pop, e_goto, e_nop, e_if_eq, e_if_ne, e_if_lt, e_if_ge, e_if_gt, e_if_le, e_icmp_eq, e_icmp_ne, e_icmp_lt, e_icmp_ge, e_icmp_gt, e_icmp_le, e_tsw, e_ret0, e_ret1, e_retn, e_getI, e_getZ, e_getR, e_getV, e_getC, e_putI, e_putZ, e_putF, e_gst0, e_gst1, e_sld, e_iald, e_cald, e_bald, e_iast, e_cast, e_aald, e_aast, e_alen, e_slen, e_blen, e_newa, e_newq, e_new, e_oinit, e_ctor, e_virt, e_stat, e_min, e_copy, e_ldc, List.cons_append, List.nil_append, List.append_nil, List.length_cons, List.length_nil, List.replicate_succ, List.replicate_zero, List.getElem?_cons_zero, List.getElem?_cons_succ, List.set_cons_zero, List.set_cons_succ, List.take_succ_cons, List.take_zero, List.drop_succ_cons, List.drop_zero, List.reverse_cons, List.reverse_nil, Option.toList_some, Option.toList_none, Nat.reduceSub, Nat.reduceAdd, Nat.reduceLeDiff, true_and, and_true, and_self, Option.some.injEq, exists_eq_left', Nat.zero_add, Value.int.injEq, Value.ref.injEq, List.cons.injEq, exists_and_left, and_assoc, exists_eq_left, bk_104_81, h0, C_91, r_ofL h hs, rSet_s, u1, n_add, n_le, if_pos, Nat.le_refl, B_104_117, bk_104_117, if_pos, if_neg, not_true_eq_false, not_false_eq_true, or_true, true_or, or_false, false_or, false_and, and_false, Nat.reduceEqDiff, Nat.reduceLT, Nat.reduceMul, Nat.not_lt_zero, Nat.zero_le, Nat.le_refl, ne_eq, reduceIte, reduceCtorEq]
    exact two
set_option maxHeartbeats 8000000 in
theorem op_cut (x y : Int32) : OPx 62 104 [.int x, .int y] := by
  intro K R I hrel
  obtain ⟨f, n, g, hv, hn2, hn, hk, hH, hP, hT⟩ := id hrel
  have q4 := qTu_lt g hn2
  obtain ⟨gm, gs, -, gh, gw, gr, gr', ⟨a0, a1, a2, a3, a4, a5, a6, a7, a8⟩, ⟨b0, b1, b2⟩, cc0⟩ := id g
  have gs0 : K.2.2.1 1 = (1, 4) := gs.1
  have gs1 : R 1 0 = some 2 := gs.2.1
  have gs2 : K.2.2.1 2 = (4, 6) := gs.2.2.1
  have gs3 : R 1 1 = some 3 := gs.2.2.2.1
  have gs4 : zL K R 3 := gs.2.2.2.2.1
  have gW : ∀ s, s < 6 → zW K R (7 + 4 * s) := fun s hs => (gs.2.2.2.2.2.2 s hs).2
  have gR : ∀ s, s < 6 → R 2 s = some (7 + 4 * s) := fun s hs => (gs.2.2.2.2.2.2 s hs).1
  have gh0 := gh.1
  have gsl : K.2.2.1 3 = (1, 2) := gs4.1
  obtain ⟨m0, m1, m2, m3, m4, m5, m6, m7, m8, m9, m10, m11, m12, m13, m14⟩ := id gm
  have gT := zG_tu (n := n) g
  have gmt : zM K (RTu R n) := gT.1
  have gst : zS K (RTu R n) 1 := gT.2.1
  have gt1 : RTu R n 1 0 = some 2 := gst.2.1
  have gt3 : RTu R n 1 1 = some 3 := gst.2.2.2.1
  have gt4 : zL K (RTu R n) 3 := gst.2.2.2.2.1
  have gWt : ∀ s, s < 6 → zW K (RTu R n) (7 + 4 * s) := fun s hs => (gst.2.2.2.2.2.2 s hs).2
  have gRt : ∀ s, s < 6 → RTu R n 2 s = some (7 + 4 * s) := fun s hs => (gst.2.2.2.2.2.2 s hs).1
  obtain ⟨-, m1t, -⟩ := id gmt
  obtain ⟨-, a1t, a2t, a3t, a4t, a5t, a6t, a7t, a8t⟩ := gT.2.2.2.2.2.2.2.1
  rcases sp_cases x (n := 6) (by omega) with ⟨s, hs, rfl⟩ | q
  rotate_left
  · refine ⟨-1, R, I, ?_, ⟨gm, fun _ _ => rfl⟩, fun J hJ => ?_⟩
    · simp (disch := omega) only [e_iconst, e_bipush, e_sipush, e_iload_n, e_iload, e_aload_n, e_aload, e_istore_n, e_istore, e_astore_n, e_astore, e_iinc, e_iadd, e_isub, e_imul, e_iand, e_ishr, e_idiv, e_i2c, e_dup_i, e_dup_r, e_dup2, e_pop, e_goto, e_nop, e_if_eq, e_if_ne, e_if_lt, e_if_ge, e_if_gt, e_if_le, e_icmp_eq, e_icmp_ne, e_icmp_lt, e_icmp_ge, e_icmp_gt, e_icmp_le, e_tsw, e_ret0, e_ret1, e_retn, e_getI, e_getZ, e_getR, e_getV, e_getC, e_putI, e_putZ, e_putF, e_gst0, e_gst1, e_sld, e_iald, e_cald, e_bald, e_iast, e_cast, e_aald, e_aast, e_alen, e_slen, e_blen, e_newa, e_newq, e_new, e_oinit, e_ctor, e_virt, e_stat, e_min, e_copy, e_ldc, List.cons_append, List.nil_append, List.append_nil, List.length_cons, List.length_nil, List.replicate_succ, List.replicate_zero, List.getElem?_cons_zero, List.getElem?_cons_succ, List.set_cons_zero, List.set_cons_succ, List.take_succ_cons, List.take_zero, List.drop_succ_cons, List.drop_zero, List.reverse_cons, List.reverse_nil, Option.toList_some, Option.toList_none, Nat.reduceSub, Nat.reduceAdd, Nat.reduceLeDiff, true_and, and_true, and_self, Option.some.injEq, exists_eq_left', Nat.zero_add, Value.int.injEq, Value.ref.injEq, List.cons.injEq, exists_and_left, and_assoc, exists_eq_left, E_in 62, N_62, B_62_0, bk_62_0, B_62_23, bk_62_23, C_82, m_noSp q, if_pos, if_neg, not_true_eq_false, not_false_eq_true, or_true, true_or, or_false, false_or, false_and, and_false, Nat.reduceEqDiff, Nat.reduceLT, Nat.reduceMul, Nat.not_lt_zero, Nat.zero_le, Nat.le_refl, ne_eq, reduceIte, reduceCtorEq]
    · simp (disch := omega) only [e_iconst, e_bipush, e_sipush, e_iload_n, e_iload, e_aload_n, e_aload, e_istore_n, e_istore, e_astore_n, e_astore, e_iinc, e_iadd, e_isub, e_imul, e_iand, e_ishr, e_idiv, e_i2c, e_dup_i, e_dup_r, e_dup2, e_pop, e_goto, e_nop, e_if_eq, e_if_ne, e_if_lt, e_if_ge, e_if_gt, e_if_le, e_icmp_eq, e_icmp_ne, e_icmp_lt, e_icmp_ge, e_icmp_gt, e_icmp_le, e_tsw, e_ret0, e_ret1, e_retn, e_getI, e_getZ, e_getR, e_getV, e_getC, e_putI, e_putZ, e_putF, e_gst0, e_gst1, e_sld, e_iald, e_cald, e_bald, e_iast, e_cast, e_aald, e_aast, e_alen, e_slen, e_blen, e_newa, e_newq, e_new, e_oinit, e_ctor, e_virt, e_stat, e_min, e_copy, e_ldc, List.cons_append, List.nil_append, List.append_nil, List.length_cons, List.length_nil, List.replicate_succ, List.replicate_zero, List.getElem?_cons_zero, List.getElem?_cons_succ, List.set_cons_zero, List.set_cons_succ, List.take_succ_cons, List.take_zero, List.drop_succ_cons, List.drop_zero, List.reverse_cons, List.reverse_nil, Option.toList_some, Option.toList_none, Nat.reduceSub, Nat.reduceAdd, Nat.reduceLeDiff, true_and, and_true, and_self, Option.some.injEq, exists_eq_left', Nat.zero_add, Value.int.injEq, Value.ref.injEq, List.cons.injEq, exists_and_left, and_assoc, exists_eq_left, E_in 104, N_104, B_104_0, bk_104_0, B_104_31, bk_104_31, C_90, r_noSp q, o_eq, if_pos, if_neg, not_true_eq_false, not_false_eq_true, or_true, true_or, or_false, false_or, false_and, and_false, Nat.reduceEqDiff, Nat.reduceLT, Nat.reduceMul, Nat.not_lt_zero, Nat.zero_le, Nat.le_refl, ne_eq, reduceIte, reduceCtorEq]
      exact OPo_same hrel hJ
  obtain ⟨pA, clA, cA, hwA⟩ := hv.1 s hs
  rw [show 1 + 6 + 4 * s = 7 + 4 * s by omega] at hwA
  obtain ⟨wfA, vfA, k0A, k1A, k2A, k3A, k4A, k5A⟩ := id hwA
  obtain ⟨f1A, f2A, f3A, f4A, f5A, f6A⟩ := id wfA
  obtain ⟨v1A, v2A, v3A, -⟩ := id vfA
  have zwA := gW s hs
  have zwtA := gWt s hs
  have rwA := gR s hs
  have rwtA := gRt s hs
  have zw0A : K.2.2.1 (7 + 4 * s) = (1, 6) := zwA.1
  rcases sp_cases y (n := cA) (by omega) with ⟨l, hl, rfl⟩ | q
  rotate_left
  · refine ⟨-1, R, I, ?_, ⟨gm, fun _ _ => rfl⟩, fun J hJ => ?_⟩
    · simp (disch := omega) only [e_iconst, e_bipush, e_sipush, e_iload_n, e_iload, e_aload_n, e_aload, e_istore_n, e_istore, e_astore_n, e_astore, e_iinc, e_iadd, e_isub, e_imul, e_iand, e_ishr, e_idiv, e_i2c, e_dup_i, e_dup_r, e_dup2, e_pop, e_goto, e_nop, e_if_eq, e_if_ne, e_if_lt, e_if_ge, e_if_gt, e_if_le, e_icmp_eq, e_icmp_ne, e_icmp_lt, e_icmp_ge, e_icmp_gt, e_icmp_le, e_tsw, e_ret0, e_ret1, e_retn, e_getI, e_getZ, e_getR, e_getV, e_getC, e_putI, e_putZ, e_putF, e_gst0, e_gst1, e_sld, e_iald, e_cald, e_bald, e_iast, e_cast, e_aald, e_aast, e_alen, e_slen, e_blen, e_newa, e_newq, e_new, e_oinit, e_ctor, e_virt, e_stat, e_min, e_copy, e_ldc, List.cons_append, List.nil_append, List.append_nil, List.length_cons, List.length_nil, List.replicate_succ, List.replicate_zero, List.getElem?_cons_zero, List.getElem?_cons_succ, List.set_cons_zero, List.set_cons_succ, List.take_succ_cons, List.take_zero, List.drop_succ_cons, List.drop_zero, List.reverse_cons, List.reverse_nil, Option.toList_some, Option.toList_none, Nat.reduceSub, Nat.reduceAdd, Nat.reduceLeDiff, true_and, and_true, and_self, Option.some.injEq, exists_eq_left', Nat.zero_add, Value.int.injEq, Value.ref.injEq, List.cons.injEq, exists_and_left, and_assoc, exists_eq_left, E_in 62, N_62, B_62_0, bk_62_0, B_62_23, bk_62_23, C_82, C_39, m_isSp hs, m_letO zwA f3A q, a0, a1, gs0, gs1, gs2, zw0A, rwA, n_in, n_cl, true_or, or_true, o_eq, if_pos, if_neg, not_true_eq_false, not_false_eq_true, or_true, true_or, or_false, false_or, false_and, and_false, Nat.reduceEqDiff, Nat.reduceLT, Nat.reduceMul, Nat.not_lt_zero, Nat.zero_le, Nat.le_refl, ne_eq, reduceIte, reduceCtorEq]
    · have j5 : J 195 = I 195 := SCR_row hJ (by omega)
      simp (disch := omega) only [e_iconst, e_bipush, e_sipush, e_iload_n, e_iload, e_aload_n, e_aload, e_istore_n, e_istore, e_astore_n, e_astore, e_iinc, e_iadd, e_isub, e_imul, e_iand, e_ishr, e_idiv, e_i2c, e_dup_i, e_dup_r, e_dup2, e_pop, e_goto, e_nop, e_if_eq, e_if_ne, e_if_lt, e_if_ge, e_if_gt, e_if_le, e_icmp_eq, e_icmp_ne, e_icmp_lt, e_icmp_ge, e_icmp_gt, e_icmp_le, e_tsw, e_ret0, e_ret1, e_retn, e_getI, e_getZ, e_getR, e_getV, e_getC, e_putI, e_putZ, e_putF, e_gst0, e_gst1, e_sld, e_iald, e_cald, e_bald, e_iast, e_cast, e_aald, e_aast, e_alen, e_slen, e_blen, e_newa, e_newq, e_new, e_oinit, e_ctor, e_virt, e_stat, e_min, e_copy, e_ldc, List.cons_append, List.nil_append, List.append_nil, List.length_cons, List.length_nil, List.replicate_succ, List.replicate_zero, List.getElem?_cons_zero, List.getElem?_cons_succ, List.set_cons_zero, List.set_cons_succ, List.take_succ_cons, List.take_zero, List.drop_succ_cons, List.drop_zero, List.reverse_cons, List.reverse_nil, Option.toList_some, Option.toList_none, Nat.reduceSub, Nat.reduceAdd, Nat.reduceLeDiff, true_and, and_true, and_self, Option.some.injEq, exists_eq_left', Nat.zero_add, Value.int.injEq, Value.ref.injEq, List.cons.injEq, exists_and_left, and_assoc, exists_eq_left, E_in 104, N_104, B_104_0, bk_104_0, B_104_31, bk_104_31, C_90, C_91, C_89, r_isSp hs, r_ofL gm hs, m0, j5, v3A, r_inO q (show cA ≤ 1000 by omega), o_eq, if_pos, if_neg, not_true_eq_false, not_false_eq_true, or_true, true_or, or_false, false_or, false_and, and_false, Nat.reduceEqDiff, Nat.reduceLT, Nat.reduceMul, Nat.not_lt_zero, Nat.zero_le, Nat.le_refl, ne_eq, reduceIte, reduceCtorEq]
      exact OPo_same hrel hJ
  have hp1 : pA = 1 := by
    rcases (show pA = 0 ∨ pA = 1 by omega) with e | e
    · have := (k0A e).2; omega
    · exact e
  subst hp1
  obtain ⟨e2, e3, e4, e5, e6, e7, e8, e9, e10, ln, l1, l2, l3, l4⟩ := id hv.2
  have hlow := RC_low hv
  obtain ⟨tl, tp, -⟩ := fB_le (fun s => I 195 (98 * s) == 0) 6 6 (Nat.le_refl _)
  generalize htt : fB (fun s => I 195 (98 * s) == 0) 6 6 = t at hlow tl tp
  by_cases ht6 : t = 6
  · subst ht6
    refine ⟨-3, R, I, ?_, ⟨gm, fun _ _ => rfl⟩, fun J hJ => ?_⟩
    · simp (disch := omega) only [e_iconst, e_bipush, e_sipush, e_iload_n, e_iload, e_aload_n, e_aload, e_istore_n, e_istore, e_astore_n, e_astore, e_iinc, e_iadd, e_isub, e_imul, e_iand, e_ishr, e_idiv, e_i2c, e_dup_i, e_dup_r, e_dup2, e_pop, e_goto, e_nop, e_if_eq, e_if_ne, e_if_lt, e_if_ge, e_if_gt, e_if_le, e_icmp_eq, e_icmp_ne, e_icmp_lt, e_icmp_ge, e_icmp_gt, e_icmp_le, e_tsw, e_ret0, e_ret1, e_retn, e_getI, e_getZ, e_getR, e_getV, e_getC, e_putI, e_putZ, e_putF, e_gst0, e_gst1, e_sld, e_iald, e_cald, e_bald, e_iast, e_cast, e_aald, e_aast, e_alen, e_slen, e_blen, e_newa, e_newq, e_new, e_oinit, e_ctor, e_virt, e_stat, e_min, e_copy, e_ldc, List.cons_append, List.nil_append, List.append_nil, List.length_cons, List.length_nil, List.replicate_succ, List.replicate_zero, List.getElem?_cons_zero, List.getElem?_cons_succ, List.set_cons_zero, List.set_cons_succ, List.take_succ_cons, List.take_zero, List.drop_succ_cons, List.drop_zero, List.reverse_cons, List.reverse_nil, Option.toList_some, Option.toList_none, Nat.reduceSub, Nat.reduceAdd, Nat.reduceLeDiff, true_and, and_true, and_self, Option.some.injEq, exists_eq_left', Nat.zero_add, Value.int.injEq, Value.ref.injEq, List.cons.injEq, exists_and_left, and_assoc, exists_eq_left, E_in 62, N_62, B_62_0, bk_62_0, B_62_25, bk_62_25, C_82, C_39, C_28, m_isSp hs, m_letI zwA f3A hl, m_lowest gs, hlow, m_noSp (x := nI 6) (Or.inr (Int32.le_refl _)), a0, a1, gs0, gs1, gs2, zw0A, rwA, n_in, n_cl, true_or, or_true, o_eq, if_pos, if_neg, not_true_eq_false, not_false_eq_true, or_true, true_or, or_false, false_or, false_and, and_false, Nat.reduceEqDiff, Nat.reduceLT, Nat.reduceMul, Nat.not_lt_zero, Nat.zero_le, Nat.le_refl, ne_eq, reduceIte, reduceCtorEq]
    · have j5 : J 195 = I 195 := SCR_row hJ (by omega)
      simp (disch := omega) only [e_iconst, e_bipush, e_sipush, e_iload_n, e_iload, e_aload_n, e_aload, e_istore_n, e_istore, e_astore_n, e_astore, e_iinc, e_iadd, e_isub, e_imul, e_iand, e_ishr, e_idiv, e_i2c, e_dup_i, e_dup_r, e_dup2, e_pop, e_goto, e_nop, e_if_eq, e_if_ne, e_if_lt, e_if_ge, e_if_gt, e_if_le, e_icmp_eq, e_icmp_ne, e_icmp_lt, e_icmp_ge, e_icmp_gt, e_icmp_le, e_tsw, e_ret0, e_ret1, e_retn, e_getI, e_getZ, e_getR, e_getV, e_getC, e_putI, e_putZ, e_putF, e_gst0, e_gst1, e_sld, e_iald, e_cald, e_bald, e_iast, e_cast, e_aald, e_aast, e_alen, e_slen, e_blen, e_newa, e_newq, e_new, e_oinit, e_ctor, e_virt, e_stat, e_min, e_copy, e_ldc, List.cons_append, List.nil_append, List.append_nil, List.length_cons, List.length_nil, List.replicate_succ, List.replicate_zero, List.getElem?_cons_zero, List.getElem?_cons_succ, List.set_cons_zero, List.set_cons_succ, List.take_succ_cons, List.take_zero, List.drop_succ_cons, List.drop_zero, List.reverse_cons, List.reverse_nil, Option.toList_some, Option.toList_none, Nat.reduceSub, Nat.reduceAdd, Nat.reduceLeDiff, true_and, and_true, and_self, Option.some.injEq, exists_eq_left', Nat.zero_add, Value.int.injEq, Value.ref.injEq, List.cons.injEq, exists_and_left, and_assoc, exists_eq_left, E_in 104, N_104, B_104_0, bk_104_0, C_90, C_91, C_89, C_93, r_isSp hs, r_ofL gm hs, r_isEmpty gm hs, m0, j5, v1A, v3A, r_inI hl (show cA ≤ 1000 by omega), o_eq, o_eq_l, if_pos, if_neg, not_true_eq_false, not_false_eq_true, or_true, true_or, or_false, false_or, false_and, and_false, Nat.reduceEqDiff, Nat.reduceLT, Nat.reduceMul, Nat.not_lt_zero, Nat.zero_le, Nat.le_refl, ne_eq, reduceIte, reduceCtorEq]
      simp (disch := omega) only [e_iconst, e_bipush, e_sipush, e_iload_n, e_iload, e_aload_n, e_aload, e_istore_n, e_istore, e_astore_n, e_astore, e_iinc, e_iadd, e_isub, e_imul, e_iand, e_ishr, e_idiv, e_i2c, e_dup_i, e_dup_r, e_dup2, e_pop, e_goto, e_nop, e_if_eq, e_if_ne, e_if_lt, e_if_ge, e_if_gt, e_if_le, e_icmp_eq, e_icmp_ne, e_icmp_lt, e_icmp_ge, e_icmp_gt, e_icmp_le, e_tsw, e_ret0, e_ret1, e_retn, e_getI, e_getZ, e_getR, e_getV, e_getC, e_putI, e_putZ, e_putF, e_gst0, e_gst1, e_sld, e_iald, e_cald, e_bald, e_iast, e_cast, e_aald, e_aast, e_alen, e_slen, e_blen, e_newa, e_newq, e_new, e_oinit, e_ctor, e_virt, e_stat, e_min, e_copy, e_ldc, List.cons_append, List.nil_append, List.append_nil, List.length_cons, List.length_nil, List.replicate_succ, List.replicate_zero, List.getElem?_cons_zero, List.getElem?_cons_succ, List.set_cons_zero, List.set_cons_succ, List.take_succ_cons, List.take_zero, List.drop_succ_cons, List.drop_zero, List.reverse_cons, List.reverse_nil, Option.toList_some, Option.toList_none, Nat.reduceSub, Nat.reduceAdd, Nat.reduceLeDiff, true_and, and_true, and_self, Option.some.injEq, exists_eq_left', Nat.zero_add, Value.int.injEq, Value.ref.injEq, List.cons.injEq, exists_and_left, and_assoc, exists_eq_left, B_104_33, bk_104_33, if_pos, if_neg, not_true_eq_false, not_false_eq_true, or_true, true_or, or_false, false_or, false_and, and_false, Nat.reduceEqDiff, Nat.reduceLT, Nat.reduceMul, Nat.not_lt_zero, Nat.zero_le, Nat.le_refl, ne_eq, reduceIte, reduceCtorEq]
      refine r_low gm ?_
      rw [j5, htt, B_104_55]
      simp (disch := omega) only [e_iconst, e_bipush, e_sipush, e_iload_n, e_iload, e_aload_n, e_aload, e_istore_n, e_istore, e_astore_n, e_astore, e_iinc, e_iadd, e_isub, e_imul, e_iand, e_ishr, e_idiv, e_i2c, e_dup_i, e_dup_r, e_dup2, e_pop, e_goto, e_nop, e_if_eq, e_if_ne, e_if_lt, e_if_ge, e_if_gt, e_if_le, e_icmp_eq, e_icmp_ne, e_icmp_lt, e_icmp_ge, e_icmp_gt, e_icmp_le, e_tsw, e_ret0, e_ret1, e_retn, e_getI, e_getZ, e_getR, e_getV, e_getC, e_putI, e_putZ, e_putF, e_gst0, e_gst1, e_sld, e_iald, e_cald, e_bald, e_iast, e_cast, e_aald, e_aast, e_alen, e_slen, e_blen, e_newa, e_newq, e_new, e_oinit, e_ctor, e_virt, e_stat, e_min, e_copy, e_ldc, List.cons_append, List.nil_append, List.append_nil, List.length_cons, List.length_nil, List.replicate_succ, List.replicate_zero, List.getElem?_cons_zero, List.getElem?_cons_succ, List.set_cons_zero, List.set_cons_succ, List.take_succ_cons, List.take_zero, List.drop_succ_cons, List.drop_zero, List.reverse_cons, List.reverse_nil, Option.toList_some, Option.toList_none, Nat.reduceSub, Nat.reduceAdd, Nat.reduceLeDiff, true_and, and_true, and_self, Option.some.injEq, exists_eq_left', Nat.zero_add, Value.int.injEq, Value.ref.injEq, List.cons.injEq, exists_and_left, and_assoc, exists_eq_left, bk_104_55, o_eq_l, if_pos, if_neg, not_true_eq_false, not_false_eq_true, or_true, true_or, or_false, false_or, false_and, and_false, Nat.reduceEqDiff, Nat.reduceLT, Nat.reduceMul, Nat.not_lt_zero, Nat.zero_le, Nat.le_refl, ne_eq, reduceIte, reduceCtorEq]
      exact OPo_same hrel hJ
  have ht : t < 6 := by omega
  have tp2 : I 195 (98 * t) = 0 := by simpa using (tp ht).2
  have hne : s ≠ t := by
    intro e; subst e
    rw [v1A] at tp2
    exact absurd tp2 (by decide)
  obtain ⟨pB, clB, cB, hwB⟩ := hv.1 t ht
  rw [show 1 + 6 + 4 * t = 7 + 4 * t by omega] at hwB
  obtain ⟨wfB, vfB, k0B, k1B, k2B, k3B, k4B, k5B⟩ := id hwB
  obtain ⟨f1B, f2B, f3B, f4B, f5B, f6B⟩ := id wfB
  obtain ⟨v1B, v2B, v3B, -⟩ := id vfB
  have zwB := gW t ht
  have zwtB := gWt t ht
  have rwB := gR t ht
  have rwtB := gRt t ht
  have zw0B : K.2.2.1 (7 + 4 * t) = (1, 6) := zwB.1
  have hab : 7 + 4 * t + 4 ≤ 7 + 4 * s ∨ 7 + 4 * s + 4 ≤ 7 + 4 * t := by omega
  have hfA : wF (hRm I (qTu f n) n) (7 + 4 * s) 1 clA cA := by
    unfold wF
    rw [hRm_l (by omega)]
    exact wfA
  refine ⟨nI t, RTu R n, lAd (mSet (mSet (mSet (mSet (mSet (wAp (mSet (mSet (mSet (mSet (mSet (mSet (mSet (mSet (hRm I (qTu f n) n) (7 + 4 * t) 3 0) (7 + 4 * t) 4 0) (7 + 4 * t) 5 0) (7 + 4 * t) 6 0) (7 + 4 * t) 3 1) (7 + 4 * t + 1) 0 5000) (7 + 4 * t + 2) 0 5000) (7 + 4 * t + 3) 0 (-1)) (7 + 4 * t) (7 + 4 * s) 0 l (cA - l + clA)) (7 + 4 * t) 5 (nI (cA - l))) (7 + 4 * t) 4 (nI clA)) (7 + 4 * s) 5 (nI l)) (7 + 4 * s) 4 0) 1 5 (I 195 591 + 5000)) 3 ln 3 (nI s) (nI t), ?_, ⟨gmt, fun x hx => by funext j; simp (disch := omega) only [lAd_o, s_ne, wAp_o, hRm_o]⟩, fun J hJ => ?_⟩
  · simp (disch := omega) only [e_iconst, e_bipush, e_sipush, e_iload_n, e_iload, e_aload_n, e_aload, e_istore_n, e_istore, e_astore_n, e_astore, e_iinc, e_iadd, e_isub, e_imul, e_iand, e_ishr, e_idiv, e_i2c, e_dup_i, e_dup_r, e_dup2, e_pop, e_goto, e_nop, e_if_eq, e_if_ne, e_if_lt, e_if_ge, e_if_gt, e_if_le, e_icmp_eq, e_icmp_ne, e_icmp_lt, e_icmp_ge, e_icmp_gt, e_icmp_le, e_tsw, e_ret0, e_ret1, e_retn, e_getI, e_getZ, e_getR, e_getV, e_getC, e_putI, e_putZ, e_putF, e_gst0, e_gst1, e_sld, e_iald, e_cald, e_bald, e_iast, e_cast, e_aald, e_aast, e_alen, e_slen, e_blen, e_newa, e_newq, e_new, e_oinit, e_ctor, e_virt, e_stat, e_min, e_copy, e_ldc, List.cons_append, List.nil_append, List.append_nil, List.length_cons, List.length_nil, List.replicate_succ, List.replicate_zero, List.getElem?_cons_zero, List.getElem?_cons_succ, List.set_cons_zero, List.set_cons_succ, List.take_succ_cons, List.take_zero, List.drop_succ_cons, List.drop_zero, List.reverse_cons, List.reverse_nil, Option.toList_some, Option.toList_none, Nat.reduceSub, Nat.reduceAdd, Nat.reduceLeDiff, true_and, and_true, and_self, Option.some.injEq, exists_eq_left', Nat.zero_add, Value.int.injEq, Value.ref.injEq, List.cons.injEq, exists_and_left, and_assoc, exists_eq_left, E_in 62, N_62, B_62_0, bk_62_0, B_62_25, bk_62_25, C_82, C_39, C_28, m_isSp hs, m_isSp ht, m_letI zwA f3A hl, m_lowest gs, hlow, a0, a1, gs0, gs1, gs2, zw0A, rwA, n_in, n_cl, true_or, or_true, o_eq, if_pos, if_neg, not_true_eq_false, not_false_eq_true, or_true, true_or, or_false, false_or, false_and, and_false, Nat.reduceEqDiff, Nat.reduceLT, Nat.reduceMul, Nat.not_lt_zero, Nat.zero_le, Nat.le_refl, ne_eq, reduceIte, reduceCtorEq]
    rw [B_62_43]
    simp (disch := omega) only [e_iconst, e_bipush, e_sipush, e_iload_n, e_iload, e_aload_n, e_aload, e_istore_n, e_istore, e_astore_n, e_astore, e_iinc, e_iadd, e_isub, e_imul, e_iand, e_ishr, e_idiv, e_i2c, e_dup_i, e_dup_r, e_dup2, e_pop, e_goto, e_nop, e_if_eq, e_if_ne, e_if_lt, e_if_ge, e_if_gt, e_if_le, e_icmp_eq, e_icmp_ne, e_icmp_lt, e_icmp_ge, e_icmp_gt, e_icmp_le, e_tsw, e_ret0, e_ret1, e_retn, e_getI, e_getZ, e_getR, e_getV, e_getC, e_putI, e_putZ, e_putF, e_gst0, e_gst1, e_sld, e_iald, e_cald, e_bald, e_iast, e_cast, e_aald, e_aast, e_alen, e_slen, e_blen, e_newa, e_newq, e_new, e_oinit, e_ctor, e_virt, e_stat, e_min, e_copy, e_ldc, List.cons_append, List.nil_append, List.append_nil, List.length_cons, List.length_nil, List.replicate_succ, List.replicate_zero, List.getElem?_cons_zero, List.getElem?_cons_succ, List.set_cons_zero, List.set_cons_succ, List.take_succ_cons, List.take_zero, List.drop_succ_cons, List.drop_zero, List.reverse_cons, List.reverse_nil, Option.toList_some, Option.toList_none, Nat.reduceSub, Nat.reduceAdd, Nat.reduceLeDiff, true_and, and_true, and_self, Option.some.injEq, exists_eq_left', Nat.zero_add, Value.int.injEq, Value.ref.injEq, List.cons.injEq, exists_and_left, and_assoc, exists_eq_left, bk_62_43, a0, a1, a2, gs0, gh0, C_9, C_47, C_14, a_remember g hv hn hn2, a1t, gt1, gs2, rwtA, rwtB, zw0A, zw0B, n_in, n_cl, true_or, or_true, m_takeTail' zwtB zwtA hab hfA (show l ≤ cA by omega), gt3, gsl, s_ne, s_eq, wAp_o, hRm_o, e5, if_pos, if_neg, not_true_eq_false, not_false_eq_true, or_true, true_or, or_false, false_or, false_and, and_false, Nat.reduceEqDiff, Nat.reduceLT, Nat.reduceMul, Nat.not_lt_zero, Nat.zero_le, Nat.le_refl, ne_eq, reduceIte, reduceCtorEq]
    rw [m_logAdd gt4 (n := ln) ?_ l1]
    · simp (disch := omega) only [e_iconst, e_bipush, e_sipush, e_iload_n, e_iload, e_aload_n, e_aload, e_istore_n, e_istore, e_astore_n, e_astore, e_iinc, e_iadd, e_isub, e_imul, e_iand, e_ishr, e_idiv, e_i2c, e_dup_i, e_dup_r, e_dup2, e_pop, e_goto, e_nop, e_if_eq, e_if_ne, e_if_lt, e_if_ge, e_if_gt, e_if_le, e_icmp_eq, e_icmp_ne, e_icmp_lt, e_icmp_ge, e_icmp_gt, e_icmp_le, e_tsw, e_ret0, e_ret1, e_retn, e_getI, e_getZ, e_getR, e_getV, e_getC, e_putI, e_putZ, e_putF, e_gst0, e_gst1, e_sld, e_iald, e_cald, e_bald, e_iast, e_cast, e_aald, e_aast, e_alen, e_slen, e_blen, e_newa, e_newq, e_new, e_oinit, e_ctor, e_virt, e_stat, e_min, e_copy, e_ldc, List.cons_append, List.nil_append, List.append_nil, List.length_cons, List.length_nil, List.replicate_succ, List.replicate_zero, List.getElem?_cons_zero, List.getElem?_cons_succ, List.set_cons_zero, List.set_cons_succ, List.take_succ_cons, List.take_zero, List.drop_succ_cons, List.drop_zero, List.reverse_cons, List.reverse_nil, Option.toList_some, Option.toList_none, Nat.reduceSub, Nat.reduceAdd, Nat.reduceLeDiff, true_and, and_true, and_self, Option.some.injEq, exists_eq_left', Nat.zero_add, Value.int.injEq, Value.ref.injEq, List.cons.injEq, exists_and_left, and_assoc, exists_eq_left, if_pos, if_neg, not_true_eq_false, not_false_eq_true, or_true, true_or, or_false, false_or, false_and, and_false, Nat.reduceEqDiff, Nat.reduceLT, Nat.reduceMul, Nat.not_lt_zero, Nat.zero_le, Nat.le_refl, ne_eq, reduceIte, reduceCtorEq]
    · simp (disch := omega) only [s_ne, wAp_o, hRm_o]; exact l2
  · have j5 : J 195 = I 195 := by rw [SCR_row hJ (by omega)]; funext j; simp (disch := omega) only [lAd_o, s_ne, wAp_o, hRm_o]
    have j2 : J 194 2 = nI n := by rw [SCR_m hJ (by omega)]; simp (disch := omega) only [lAd_o, s_ne, wAp_o, hRm_o]; exact hk
    have jr : rRec J n 195 = I 195 := by rw [rRec_o (by omega)]; exact j5
    simp (disch := omega) only [e_iconst, e_bipush, e_sipush, e_iload_n, e_iload, e_aload_n, e_aload, e_istore_n, e_istore, e_astore_n, e_astore, e_iinc, e_iadd, e_isub, e_imul, e_iand, e_ishr, e_idiv, e_i2c, e_dup_i, e_dup_r, e_dup2, e_pop, e_goto, e_nop, e_if_eq, e_if_ne, e_if_lt, e_if_ge, e_if_gt, e_if_le, e_icmp_eq, e_icmp_ne, e_icmp_lt, e_icmp_ge, e_icmp_gt, e_icmp_le, e_tsw, e_ret0, e_ret1, e_retn, e_getI, e_getZ, e_getR, e_getV, e_getC, e_putI, e_putZ, e_putF, e_gst0, e_gst1, e_sld, e_iald, e_cald, e_bald, e_iast, e_cast, e_aald, e_aast, e_alen, e_slen, e_blen, e_newa, e_newq, e_new, e_oinit, e_ctor, e_virt, e_stat, e_min, e_copy, e_ldc, List.cons_append, List.nil_append, List.append_nil, List.length_cons, List.length_nil, List.replicate_succ, List.replicate_zero, List.getElem?_cons_zero, List.getElem?_cons_succ, List.set_cons_zero, List.set_cons_succ, List.take_succ_cons, List.take_zero, List.drop_succ_cons, List.drop_zero, List.reverse_cons, List.reverse_nil, Option.toList_some, Option.toList_none, Nat.reduceSub, Nat.reduceAdd, Nat.reduceLeDiff, true_and, and_true, and_self, Option.some.injEq, exists_eq_left', Nat.zero_add, Value.int.injEq, Value.ref.injEq, List.cons.injEq, exists_and_left, and_assoc, exists_eq_left, E_in 104, N_104, B_104_0, bk_104_0, C_90, C_91, C_89, C_93, r_isSp hs, r_ofL gmt hs, r_isEmpty gmt hs, m0, j5, v1A, v3A, r_inI hl (show cA ≤ 1000 by omega), o_eq, o_eq_l, if_pos, if_neg, not_true_eq_false, not_false_eq_true, or_true, true_or, or_false, false_or, false_and, and_false, Nat.reduceEqDiff, Nat.reduceLT, Nat.reduceMul, Nat.not_lt_zero, Nat.zero_le, Nat.le_refl, ne_eq, reduceIte, reduceCtorEq]
    simp (disch := omega) only [e_iconst, e_bipush, e_sipush, e_iload_n, e_iload, e_aload_n, e_aload, e_istore_n, e_istore, e_astore_n, e_astore, e_iinc, e_iadd, e_isub, e_imul, e_iand, e_ishr, e_idiv, e_i2c, e_dup_i, e_dup_r, e_dup2, e_pop, e_goto, e_nop, e_if_eq, e_if_ne, e_if_lt, e_if_ge, e_if_gt, e_if_le, e_icmp_eq, e_icmp_ne, e_icmp_lt, e_icmp_ge, e_icmp_gt, e_icmp_le, e_tsw, e_ret0, e_ret1, e_retn, e_getI, e_getZ, e_getR, e_getV, e_getC, e_putI, e_putZ, e_putF, e_gst0, e_gst1, e_sld, e_iald, e_cald, e_bald, e_iast, e_cast, e_aald, e_aast, e_alen, e_slen, e_blen, e_newa, e_newq, e_new, e_oinit, e_ctor, e_virt, e_stat, e_min, e_copy, e_ldc, List.cons_append, List.nil_append, List.append_nil, List.length_cons, List.length_nil, List.replicate_succ, List.replicate_zero, List.getElem?_cons_zero, List.getElem?_cons_succ, List.set_cons_zero, List.set_cons_succ, List.take_succ_cons, List.take_zero, List.drop_succ_cons, List.drop_zero, List.reverse_cons, List.reverse_nil, Option.toList_some, Option.toList_none, Nat.reduceSub, Nat.reduceAdd, Nat.reduceLeDiff, true_and, and_true, and_self, Option.some.injEq, exists_eq_left', Nat.zero_add, Value.int.injEq, Value.ref.injEq, List.cons.injEq, exists_and_left, and_assoc, exists_eq_left, B_104_33, bk_104_33, if_pos, if_neg, not_true_eq_false, not_false_eq_true, or_true, true_or, or_false, false_or, false_and, and_false, Nat.reduceEqDiff, Nat.reduceLT, Nat.reduceMul, Nat.not_lt_zero, Nat.zero_le, Nat.le_refl, ne_eq, reduceIte, reduceCtorEq]
    refine r_low gmt ?_
    rw [j5, htt, B_104_55]
    simp (disch := omega) only [e_iconst, e_bipush, e_sipush, e_iload_n, e_iload, e_aload_n, e_aload, e_istore_n, e_istore, e_astore_n, e_astore, e_iinc, e_iadd, e_isub, e_imul, e_iand, e_ishr, e_idiv, e_i2c, e_dup_i, e_dup_r, e_dup2, e_pop, e_goto, e_nop, e_if_eq, e_if_ne, e_if_lt, e_if_ge, e_if_gt, e_if_le, e_icmp_eq, e_icmp_ne, e_icmp_lt, e_icmp_ge, e_icmp_gt, e_icmp_le, e_tsw, e_ret0, e_ret1, e_retn, e_getI, e_getZ, e_getR, e_getV, e_getC, e_putI, e_putZ, e_putF, e_gst0, e_gst1, e_sld, e_iald, e_cald, e_bald, e_iast, e_cast, e_aald, e_aast, e_alen, e_slen, e_blen, e_newa, e_newq, e_new, e_oinit, e_ctor, e_virt, e_stat, e_min, e_copy, e_ldc, List.cons_append, List.nil_append, List.append_nil, List.length_cons, List.length_nil, List.replicate_succ, List.replicate_zero, List.getElem?_cons_zero, List.getElem?_cons_succ, List.set_cons_zero, List.set_cons_succ, List.take_succ_cons, List.take_zero, List.drop_succ_cons, List.drop_zero, List.reverse_cons, List.reverse_nil, Option.toList_some, Option.toList_none, Nat.reduceSub, Nat.reduceAdd, Nat.reduceLeDiff, true_and, and_true, and_self, Option.some.injEq, exists_eq_left', Nat.zero_add, Value.int.injEq, Value.ref.injEq, List.cons.injEq, exists_and_left, and_assoc, exists_eq_left, bk_104_55, o_eq_l, if_pos, if_pos, if_neg, not_true_eq_false, not_false_eq_true, or_true, true_or, or_false, false_or, false_and, and_false, Nat.reduceEqDiff, Nat.reduceLT, Nat.reduceMul, Nat.not_lt_zero, Nat.zero_le, Nat.le_refl, ne_eq, reduceIte, reduceCtorEq]
    rw [B_104_64]
    simp (disch := omega) only [e_iconst, e_bipush, e_sipush, e_iload_n, e_iload, e_aload_n, e_aload, e_istore_n, e_istore, e_astore_n, e_astore, e_iinc, e_iadd, e_isub, e_imul, e_iand, e_ishr, e_idiv, e_i2c, e_dup_i, e_dup_r, e_dup2, e_pop, e_goto, e_nop, e_if_eq, e_if_ne, e_if_lt, e_if_ge, e_if_gt, e_if_le, e_icmp_eq, e_icmp_ne, e_icmp_lt, e_icmp_ge, e_icmp_gt, e_icmp_le, e_tsw, e_ret0, e_ret1, e_retn, e_getI, e_getZ, e_getR, e_getV, e_getC, e_putI, e_putZ, e_putF, e_gst0, e_gst1, e_sld, e_iald, e_cald, e_bald, e_iast, e_cast, e_aald, e_aast, e_alen, e_slen, e_blen, e_newa, e_newq, e_new, e_oinit, e_ctor, e_virt, e_stat, e_min, e_copy, e_ldc, List.cons_append, List.nil_append, List.append_nil, List.length_cons, List.length_nil, List.replicate_succ, List.replicate_zero, List.getElem?_cons_zero, List.getElem?_cons_succ, List.set_cons_zero, List.set_cons_succ, List.take_succ_cons, List.take_zero, List.drop_succ_cons, List.drop_zero, List.reverse_cons, List.reverse_nil, Option.toList_some, Option.toList_none, Nat.reduceSub, Nat.reduceAdd, Nat.reduceLeDiff, true_and, and_true, and_self, Option.some.injEq, exists_eq_left', Nat.zero_add, Value.int.injEq, Value.ref.injEq, List.cons.injEq, exists_and_left, and_assoc, exists_eq_left, bk_104_64, m0, C_95, C_91, r_record gmt j2 hn2, r_ofL gmt hs, jr, v3A, n_sub, if_pos, if_neg, not_true_eq_false, not_false_eq_true, or_true, true_or, or_false, false_or, false_and, and_false, Nat.reduceEqDiff, Nat.reduceLT, Nat.reduceMul, Nat.not_lt_zero, Nat.zero_le, Nat.le_refl, ne_eq, reduceIte, reduceCtorEq]
    refine r_cut gmt hs ht hne (by rw [jr]; exact v2A) f5A f6A (by omega) (by rw [jr]; exact l3) l1 ?_
    rw [jr]
    refine OPo_act g hv hn2 hH hP hT (fun x x1 x2 => by funext j; simp (disch := omega) only [lAd_o, s_ne, wAp_o]) (by funext j; simp (disch := omega) only [lAd_o, s_ne, wAp_o, hRm_o]) (fun x hx => by funext j; simp (disch := omega) only [lAd_o, s_ne, wAp_o, hRm_o]) ?_ hJ
    have hng : ngp 1 clA cA = cA + 1 + clA := rfl
    rw [hng] at k3A
    refine RC_upd (fun z => z = s ∨ z = t) hv (fun z _ hz => ?_) (fun z hz1 hz2 => ⟨fun d hd => ?_, fun x x1 x2 => ?_⟩) ?_
    · rcases hz with rfl | rfl
      · refine ⟨1, 0, l, ⟨?_, ?_, ?_, by omega, by omega, by omega⟩, ⟨?_, ?_, ?_, by omega, by omega, by omega⟩, fun q => absurd q (by omega), fun _ => ?_, fun _ => ?_, fun k hk => ?_, fun i hi => ?_, fun q => absurd q (by omega)⟩
        · simp (disch := omega) only [lAd_o, s_ne, wAp_o, hRm_o]; exact f1A
        · simp (disch := omega) only [lAd_o, s_ne, s_eq]; rfl
        · simp (disch := omega) only [lAd_o, s_ne, s_eq]
        · simp (disch := omega) only [vTl_o, u_ne, vTr_o, vCc_o]; exact v1A
        · simp (disch := omega) only [vTl_o, u_ne, u_eq]; rfl
        · simp (disch := omega) only [vTl_o, u_ne, u_eq]
        · simp (disch := omega) only [lAd_o, s_ne, wAp_o, hRm_o, vTl_o, u_ne, vTr_o, vCc_o]; exact k1A rfl
        · simp (disch := omega) only [lAd_o, s_ne, wAp_o, hRm_o]; exact k2A rfl
        · have hk2 : k < l + 1 := hk
          simp (disch := omega) only [lAd_o, s_ne, wAp_o, hRm_o, vTl_o, u_ne, vTr_o, vCc_o]
          exact k3A k (by omega)
        · simp (disch := omega) only [lAd_o, s_ne, wAp_o, hRm_o, vTl_o, u_ne, vTr_o, vCc_o]
          exact k4A i (by omega)
      · refine ⟨1, clA, cA - l, ⟨?_, ?_, ?_, by omega, by omega, by omega⟩, ⟨?_, ?_, ?_, by omega, by omega, by omega⟩, fun q => absurd q (by omega), fun _ => ?_, fun _ => ?_, fun k hk => ?_, fun i hi => ?_, fun q => ?_⟩
        · simp (disch := omega) only [lAd_o, s_ne, wAp_o, s_eq]; rfl
        · simp (disch := omega) only [lAd_o, s_ne, s_eq]
        · simp (disch := omega) only [lAd_o, s_ne, s_eq]
        · simp (disch := omega) only [vTl_o, u_ne, u_eq]; rfl
        · simp (disch := omega) only [vTl_o, u_ne, u_eq]
        · simp (disch := omega) only [vTl_o, u_ne, u_eq]
        · simp (disch := omega) only [lAd_o, s_ne, s_eq, wAp_o, vTl_o, u_ne, u_eq]
        · simp (disch := omega) only [lAd_o, s_ne, s_eq, wAp_lo]
        · have hk2 : k < cA - l + 1 + clA := hk
          by_cases c1 : k = 0
          · subst c1
            simp (disch := omega) only [lAd_o, s_ne, s_eq, wAp_lo, vTl_o, u_ne, u_eq]
            exact ⟨trivial, trivial, okG_5⟩
          · obtain ⟨e, rfl⟩ : ∃ e, k = 0 + 1 + e := ⟨k - 1, by omega⟩
            simp (disch := omega) only [lAd_o, s_ne, wAp_i, hRm_o, vTl_o, u_ne, vTr_o, vCc_l, vCc_n]
            exact k3A (l + 1 + e) (by omega)
        · rw [show i + 1 = 0 + 1 + i by omega, show 98 * z + (68 + i) = 98 * z + (68 + (0 + i)) by omega]
          simp (disch := omega) only [lAd_o, s_ne, wAp_i, hRm_o, vTl_o, u_ne, vTr_i, vCc_o]
          have := k4A (l + i) (by omega)
          rw [show l + 1 + i = l + i + 1 by omega]
          exact this
        · rw [show cA - l + 1 = 0 + 1 + (cA - l) by omega]
          simp (disch := omega) only [lAd_o, s_ne, wAp_i, hRm_o]
          rw [show l + 1 + (cA - l) = cA + 1 by omega]
          exact k5A q
    · funext j; simp (disch := omega) only [lAd_o, s_ne, wAp_o, hRm_o]
    · simp (disch := omega) only [vTl_o, u_ne, vTr_o, vCc_o]
    · refine rE_mk ?_ ?_ ?_ ?_ ?_ ?_ ?_ ?_ ?_ (rL_add l1 ?_ ?_ (fun e he => ?_)) <;> simp (disch := omega) only [lAd_o, s_ne, s_eq, wAp_o, hRm_o, vTl_o, u_ne, u_eq, vTr_o, vCc_o, e2, e3, e4, e5, e6, e7, e8]
      · exact e9
      · exact e10
      · exact l2
      · exact l3
      · exact l4 e he
