/-! a state, made -/
def iS (K0 : mK) (R0 : Nat → Nat → Option Nat) (I0 : Nat → Nat → Int32) (a k : Nat) (K : mK) (R : Nat → Nat → Option Nat) (I : Nat → Nat → Int32) : Prop :=
  K.1 = a + 6 + 4 * k ∧ K.2.1 = K0.2.1 + 40 + 103 * k ∧ fr K0 R0 I0 K R I a ∧ K.2.2.1 (a + 1) = (4, 6) ∧ R a 0 = some (a + 1) ∧ R a 1 = some (a + 2) ∧ zL K R (a + 2) ∧ (∀ s, s < k → R (a + 1) s = some (a + 6 + 4 * s) ∧ zW K R (a + 6 + 4 * s)) ∧ ∀ x j, a ≤ x → x < a + 6 + 4 * k → x ≠ a + 1 → I x j = if x = a ∧ j = 3 then 130 else 0
set_option maxHeartbeats 4000000 in
theorem is_loop {K0 : mK} {R0 : Nat → Nat → Option Nat} {I0 : Nat → Nat → Int32} {a : Nat} (ha : a < 900) (hs : K0.2.2.1 a = (1, 4)) : ∀ (d k : Nat), k + d = 6 → ∀ K R I, iS K0 R0 I0 a k K R I → Ev 24 (mB 24 63) [.ref a, .int (nI k)] [] (K, R, I) (fun v h => v = none ∧ ∃ K' R' I', h = (K', R', I') ∧ iS K0 R0 I0 a 6 K' R' I') := by
  intro d
  induction d with
  | zero =>
    intro k hk K R I h
    have e : k = 6 := by omega
    subst e
    rw [B_24_63]
    simp (disch := omega) only [e_iconst, e_bipush, e_sipush, e_istore_n, e_istore, e_astore_n, e_astore, e_iadd, e_isub, e_imul, e_iand, e_ishr, e_idiv, e_i2c, e_dup_i, e_dup_r, e_dup2, e_pop, e_goto, e_nop, e_if_eq, e_if_ne, e_if_lt, e_if_ge, e_if_gt, e_if_le, e_icmp_eq, e_icmp_ne, e_icmp_lt, e_icmp_ge, e_icmp_gt, e_icmp_le, e_tsw, e_ret0, e_ret1, e_retn, e_getI, e_getZ, e_getV, e_getC, e_putI, e_putZ, e_putF, e_gst0, e_gst1, e_sld, e_iald, e_cald, e_bald, e_iast, e_cast, e_aald, e_aast, e_alen, e_slen, e_blen, e_newa, e_newq, e_new, e_oinit, e_ctor, e_virt, e_stat, e_min, e_copy, e_ldc, f_al0, f_il0, f_ii0, f_al1, f_il1, f_ii1, f_al2, f_il2, f_ii2, f_al3, f_il3, f_ii3, f_al4, f_il4, f_ii4, f_al5, f_il5, f_ii5, f_al6, f_il6, f_ii6, f_al7, f_il7, f_ii7, f_al8, f_il8, f_ii8, f_al9, f_il9, f_ii9, f_getR, List.cons_append, List.nil_append, List.append_nil, List.length_cons, List.length_nil, List.replicate_succ, List.replicate_zero, List.getElem?_cons_zero, List.getElem?_cons_succ, List.set_cons_zero, List.set_cons_succ, List.take_succ_cons, List.take_zero, List.drop_succ_cons, List.drop_zero, List.reverse_cons, List.reverse_nil, Option.toList_some, Option.toList_none, Nat.reduceSub, Nat.reduceAdd, Nat.reduceLeDiff, true_and, and_true, and_self, Option.some.injEq, exists_eq_left', Nat.zero_add, Value.int.injEq, Value.ref.injEq, List.cons.injEq, exists_and_left, and_assoc, exists_eq_left, List.all_cons, List.all_nil, m1_i, m1_r, Bool.and_self, Bool.and_true, bk_24_63, o_le_r, Nat.le_refl, B_24_88, bk_24_88, not_true_eq_false, not_false_eq_true, or_true, true_or, or_false, false_or, false_and, and_false, Nat.reduceEqDiff, Nat.reduceLT, Nat.reduceMul, Nat.not_lt_zero, Nat.zero_le, Nat.le_refl, ne_eq, ↓reduceIte, reduceCtorEq]
    exact ⟨_, _, _, rfl, h⟩
  | succ d ih =>
    intro k hk K R I ⟨h1, h2, ⟨f1, f2, f3⟩, h4, h5, h6, h7, h8, h9⟩
    have ka : K.2.2.1 a = (1, 4) := by rw [f2 a (by omega)]; exact hs
    have hle : ¬ 6 ≤ k := by omega
    rw [B_24_63]
    simp (disch := omega) only [e_iconst, e_bipush, e_sipush, e_istore_n, e_istore, e_astore_n, e_astore, e_iadd, e_isub, e_imul, e_iand, e_ishr, e_idiv, e_i2c, e_dup_i, e_dup_r, e_dup2, e_pop, e_goto, e_nop, e_if_eq, e_if_ne, e_if_lt, e_if_ge, e_if_gt, e_if_le, e_icmp_eq, e_icmp_ne, e_icmp_lt, e_icmp_ge, e_icmp_gt, e_icmp_le, e_tsw, e_ret0, e_ret1, e_retn, e_getI, e_getZ, e_getV, e_getC, e_putI, e_putZ, e_putF, e_gst0, e_gst1, e_sld, e_iald, e_cald, e_bald, e_iast, e_cast, e_aald, e_aast, e_alen, e_slen, e_blen, e_newa, e_newq, e_new, e_oinit, e_ctor, e_virt, e_stat, e_min, e_copy, e_ldc, f_al0, f_il0, f_ii0, f_al1, f_il1, f_ii1, f_al2, f_il2, f_ii2, f_al3, f_il3, f_ii3, f_al4, f_il4, f_ii4, f_al5, f_il5, f_ii5, f_al6, f_il6, f_ii6, f_al7, f_il7, f_ii7, f_al8, f_il8, f_ii8, f_al9, f_il9, f_ii9, f_getR, List.cons_append, List.nil_append, List.append_nil, List.length_cons, List.length_nil, List.replicate_succ, List.replicate_zero, List.getElem?_cons_zero, List.getElem?_cons_succ, List.set_cons_zero, List.set_cons_succ, List.take_succ_cons, List.take_zero, List.drop_succ_cons, List.drop_zero, List.reverse_cons, List.reverse_nil, Option.toList_some, Option.toList_none, Nat.reduceSub, Nat.reduceAdd, Nat.reduceLeDiff, true_and, and_true, and_self, Option.some.injEq, exists_eq_left', Nat.zero_add, Value.int.injEq, Value.ref.injEq, List.cons.injEq, exists_and_left, and_assoc, exists_eq_left, List.all_cons, List.all_nil, m1_i, m1_r, Bool.and_self, Bool.and_true, bk_24_63, o_le_r, hle, ka, h5, h1, t_lt, not_true_eq_false, not_false_eq_true, or_true, true_or, or_false, false_or, false_and, and_false, Nat.reduceEqDiff, Nat.reduceLT, Nat.reduceMul, Nat.not_lt_zero, Nat.zero_le, Nat.le_refl, ne_eq, ↓reduceIte, reduceCtorEq]
    refine EvM_mono ?_ (i_wire (a := a + 6 + 4 * k) rfl (by omega) sh_eq (fun j => if_pos rfl))
    rintro v h ⟨rfl, K', R', I', rfl, g1, g2, ⟨p1, p2, p3⟩, g4, g5⟩
    have q4 : K'.2.2.1 (a + 1) = (4, 6) := by rw [p2 _ (by omega)]; show mShp _ _ _ _ = _; rw [sh_ne (by omega)]; exact h4
    have qw : K'.2.2.1 (a + 6 + 4 * k) = (1, 6) := g4.1
    simp (disch := omega) only [e_iconst, e_bipush, e_sipush, e_istore_n, e_istore, e_astore_n, e_astore, e_iadd, e_isub, e_imul, e_iand, e_ishr, e_idiv, e_i2c, e_dup_i, e_dup_r, e_dup2, e_pop, e_goto, e_nop, e_if_eq, e_if_ne, e_if_lt, e_if_ge, e_if_gt, e_if_le, e_icmp_eq, e_icmp_ne, e_icmp_lt, e_icmp_ge, e_icmp_gt, e_icmp_le, e_tsw, e_ret0, e_ret1, e_retn, e_getI, e_getZ, e_getV, e_getC, e_putI, e_putZ, e_putF, e_gst0, e_gst1, e_sld, e_iald, e_cald, e_bald, e_iast, e_cast, e_aald, e_aast, e_alen, e_slen, e_blen, e_newa, e_newq, e_new, e_oinit, e_ctor, e_virt, e_stat, e_min, e_copy, e_ldc, f_al0, f_il0, f_ii0, f_al1, f_il1, f_ii1, f_al2, f_il2, f_ii2, f_al3, f_il3, f_ii3, f_al4, f_il4, f_ii4, f_al5, f_il5, f_ii5, f_al6, f_il6, f_ii6, f_al7, f_il7, f_ii7, f_al8, f_il8, f_ii8, f_al9, f_il9, f_ii9, f_getR, List.cons_append, List.nil_append, List.append_nil, List.length_cons, List.length_nil, List.replicate_succ, List.replicate_zero, List.getElem?_cons_zero, List.getElem?_cons_succ, List.set_cons_zero, List.set_cons_succ, List.take_succ_cons, List.take_zero, List.drop_succ_cons, List.drop_zero, List.reverse_cons, List.reverse_nil, Option.toList_some, Option.toList_none, Nat.reduceSub, Nat.reduceAdd, Nat.reduceLeDiff, true_and, and_true, and_self, Option.some.injEq, exists_eq_left', Nat.zero_add, Value.int.injEq, Value.ref.injEq, List.cons.injEq, exists_and_left, and_assoc, exists_eq_left, List.all_cons, List.all_nil, m1_i, m1_r, Bool.and_self, Bool.and_true, q4, qw, n_in, n_cl, true_or, or_true, o_add_l, not_true_eq_false, not_false_eq_true, or_true, true_or, or_false, false_or, false_and, and_false, Nat.reduceEqDiff, Nat.reduceLT, Nat.reduceMul, Nat.not_lt_zero, Nat.zero_le, Nat.le_refl, ne_eq, ↓reduceIte, reduceCtorEq]
    have pO : ∀ x, x < a + 6 + 4 * k → K'.2.2.1 x = K.2.2.1 x := fun x hx => by rw [p2 x (by omega)]; exact sh_ne (by omega)
    have pR : ∀ x, x < a + 6 + 4 * k → R' x = R x := fun x hx => by rw [(p3 x hx).1]; funext j; exact if_neg (by omega)
    have pI : ∀ x, x < a + 6 + 4 * k → I' x = I x := fun x hx => by rw [(p3 x hx).2]; funext j; exact if_neg (by omega)
    have pR2 : ∀ x, x ≠ a + 1 → mSetR R' (a + 1) k (some (a + 6 + 4 * k)) x = R' x := fun x hx => by funext j; exact sR_nj (by omega)
    refine ih (k + 1) (by omega) _ _ _ ⟨by omega, ?_, ⟨?_, fun x hx => ?_, fun x hx => ⟨?_, ?_⟩⟩, q4, ?_, ?_, ?_, fun s hs1 => ?_, fun x j x1 x2 x3 => ?_⟩
    · rw [g2]; show K.2.1 + 7 + 96 = _; omega
    · rw [p1]; exact f1
    · rw [pO x (by omega)]; exact f2 x hx
    · rw [pR2 x (by omega), pR x (by omega)]; exact (f3 x hx).1
    · rw [pI x (by omega)]; exact (f3 x hx).2
    · rw [pR2 _ (by omega), pR _ (by omega)]; exact h5
    · rw [pR2 _ (by omega), pR _ (by omega)]; exact h6
    · exact zL_ext h7 (fun x x1 x2 => pO x (by omega)) (by rw [pR2 _ (by omega), pR _ (by omega)])
    · by_cases e : s = k
      · subst e
        exact ⟨sR_eq, zW_ext g4 (fun x _ _ => rfl) (pR2 _ (by omega))⟩
      · obtain ⟨z1, z2⟩ := h8 s (by omega)
        refine ⟨?_, zW_ext z2 (fun x x1 x2 => pO x (by omega)) (by rw [pR2 _ (by omega), pR _ (by omega)])⟩
        rw [sR_nj (by omega), pR _ (by omega)]; exact z1
    · by_cases e : x < a + 6 + 4 * k
      · rw [pI x e]; exact h9 x j x1 e x3
      · rw [g5 x j (by omega) (by omega), if_neg (by omega)]
set_option maxHeartbeats 4000000 in
theorem i_state {K : mK} {R : Nat → Nat → Option Nat} {I : Nat → Nat → Int32} {a : Nat} (h1 : K.1 = a + 1) (ha : a < 900) (hs : K.2.2.1 a = (1, 4)) (hI : ∀ j, I a j = 0) : EvM 24 [.ref a] (K, R, I) (fun v k => v = none ∧ ∃ K' R' I', k = (K', R', I') ∧ K'.1 = a + 30 ∧ K'.2.1 = K.2.1 + 658 ∧ fr K R I K' R' I' a ∧ zS K' R' a ∧ ∀ x j, a ≤ x → x < a + 30 → x ≠ a + 1 → I' x j = if x = a ∧ j = 3 then 130 else 0) := by
  simp (disch := omega) only [e_iconst, e_bipush, e_sipush, e_istore_n, e_istore, e_astore_n, e_astore, e_iadd, e_isub, e_imul, e_iand, e_ishr, e_idiv, e_i2c, e_dup_i, e_dup_r, e_dup2, e_pop, e_goto, e_nop, e_if_eq, e_if_ne, e_if_lt, e_if_ge, e_if_gt, e_if_le, e_icmp_eq, e_icmp_ne, e_icmp_lt, e_icmp_ge, e_icmp_gt, e_icmp_le, e_tsw, e_ret0, e_ret1, e_retn, e_getI, e_getZ, e_getV, e_getC, e_putI, e_putZ, e_putF, e_gst0, e_gst1, e_sld, e_iald, e_cald, e_bald, e_iast, e_cast, e_aald, e_aast, e_alen, e_slen, e_blen, e_newa, e_newq, e_new, e_oinit, e_ctor, e_virt, e_stat, e_min, e_copy, e_ldc, f_al0, f_il0, f_ii0, f_al1, f_il1, f_ii1, f_al2, f_il2, f_ii2, f_al3, f_il3, f_ii3, f_al4, f_il4, f_ii4, f_al5, f_il5, f_ii5, f_al6, f_il6, f_ii6, f_al7, f_il7, f_ii7, f_al8, f_il8, f_ii8, f_al9, f_il9, f_ii9, f_getR, List.cons_append, List.nil_append, List.append_nil, List.length_cons, List.length_nil, List.replicate_succ, List.replicate_zero, List.getElem?_cons_zero, List.getElem?_cons_succ, List.set_cons_zero, List.set_cons_succ, List.take_succ_cons, List.take_zero, List.drop_succ_cons, List.drop_zero, List.reverse_cons, List.reverse_nil, Option.toList_some, Option.toList_none, Nat.reduceSub, Nat.reduceAdd, Nat.reduceLeDiff, true_and, and_true, and_self, Option.some.injEq, exists_eq_left', Nat.zero_add, Value.int.injEq, Value.ref.injEq, List.cons.injEq, exists_and_left, and_assoc, exists_eq_left, List.all_cons, List.all_nil, m1_i, m1_r, Bool.and_self, Bool.and_true, E_in 24, N_24, B_24_0, bk_24_0, hs, h1, sh_ne, sh_eq, o_le, o_cl, o_eq, t_lt, true_or, or_true, not_true_eq_false, not_false_eq_true, or_true, true_or, or_false, false_or, false_and, and_false, Nat.reduceEqDiff, Nat.reduceLT, Nat.reduceMul, Nat.not_lt_zero, Nat.zero_le, Nat.le_refl, ne_eq, ↓reduceIte, reduceCtorEq]
  refine EvM_mono ?_ (i_log (a := a + 1 + 1) rfl (by omega) sh_eq (fun j => if_pos rfl))
  rintro v h ⟨rfl, K', R', I', rfl, g1, g2, ⟨p1, p2, p3⟩, g4, g5⟩
  have qa : K'.2.2.1 a = (1, 4) := by
    rw [p2 _ (by omega)]
    show mShp (mShp _ _ _) _ _ _ = _
    rw [sh_ne (by omega), sh_ne (by omega)]; exact hs
  simp (disch := omega) only [e_iconst, e_bipush, e_sipush, e_istore_n, e_istore, e_astore_n, e_astore, e_iadd, e_isub, e_imul, e_iand, e_ishr, e_idiv, e_i2c, e_dup_i, e_dup_r, e_dup2, e_pop, e_goto, e_nop, e_if_eq, e_if_ne, e_if_lt, e_if_ge, e_if_gt, e_if_le, e_icmp_eq, e_icmp_ne, e_icmp_lt, e_icmp_ge, e_icmp_gt, e_icmp_le, e_tsw, e_ret0, e_ret1, e_retn, e_getI, e_getZ, e_getV, e_getC, e_putI, e_putZ, e_putF, e_gst0, e_gst1, e_sld, e_iald, e_cald, e_bald, e_iast, e_cast, e_aald, e_aast, e_alen, e_slen, e_blen, e_newa, e_newq, e_new, e_oinit, e_ctor, e_virt, e_stat, e_min, e_copy, e_ldc, f_al0, f_il0, f_ii0, f_al1, f_il1, f_ii1, f_al2, f_il2, f_ii2, f_al3, f_il3, f_ii3, f_al4, f_il4, f_ii4, f_al5, f_il5, f_ii5, f_al6, f_il6, f_ii6, f_al7, f_il7, f_ii7, f_al8, f_il8, f_ii8, f_al9, f_il9, f_ii9, f_getR, List.cons_append, List.nil_append, List.append_nil, List.length_cons, List.length_nil, List.replicate_succ, List.replicate_zero, List.getElem?_cons_zero, List.getElem?_cons_succ, List.set_cons_zero, List.set_cons_succ, List.take_succ_cons, List.take_zero, List.drop_succ_cons, List.drop_zero, List.reverse_cons, List.reverse_nil, Option.toList_some, Option.toList_none, Nat.reduceSub, Nat.reduceAdd, Nat.reduceLeDiff, true_and, and_true, and_self, Option.some.injEq, exists_eq_left', Nat.zero_add, Value.int.injEq, Value.ref.injEq, List.cons.injEq, exists_and_left, and_assoc, exists_eq_left, List.all_cons, List.all_nil, m1_i, m1_r, Bool.and_self, Bool.and_true, qa, t_lt, o_eq, not_true_eq_false, not_false_eq_true, or_true, true_or, or_false, false_or, false_and, and_false, Nat.reduceEqDiff, Nat.reduceLT, Nat.reduceMul, Nat.not_lt_zero, Nat.zero_le, Nat.le_refl, ne_eq, ↓reduceIte, reduceCtorEq]
  have pO : ∀ x, x < a + 1 → K'.2.2.1 x = K.2.2.1 x := fun x hx => by
    rw [p2 x (by omega)]
    show mShp (mShp _ _ _) _ _ _ = _
    rw [sh_ne (by omega), sh_ne (by omega)]
  refine Ev_mono ?_ (is_loop (K0 := K) (R0 := R) (I0 := I) ha hs 6 0 (by omega) _ _ _ ⟨by omega, ?_, ⟨?_, pO, fun x hx => ⟨?_, ?_⟩⟩, ?_, ?_, ?_, ?_, fun s hs1 => absurd hs1 (by omega), fun x j x1 x2 x3 => ?_⟩)
  · rintro v h ⟨rfl, K2, R2, I2, rfl, h1, h2, h3, h4, h5, h6, h7, h8, h9⟩
    refine ⟨rfl, K2, R2, I2, rfl, by omega, by omega, h3, ⟨by rw [h3.2.1 a (by omega)]; exact hs, h5, h4, h6, h7, ha, h8⟩, h9⟩
  · rw [g2]
  · rw [p1]
  · funext j
    rw [sR_nj (by omega), (p3 x (by omega)).1]
    show (if _ then _ else mSetR _ _ _ _ _ _) = _
    rw [if_neg (by omega), sR_nj (by omega)]
    exact if_neg (by omega)
  · funext j
    simp (disch := omega) only [s_ne]
    rw [(p3 x (by omega)).2]
    exact if_neg (by omega)
  · rw [p2 _ (by omega)]
    show mShp (mShp _ _ _) _ _ _ = _
    rw [sh_ne (by omega), sh_eq]
  · rw [sR_nj (by omega), (p3 a (by omega)).1]
    show (if _ then _ else mSetR _ _ _ _ _ _) = _
    rw [if_neg (by omega), sR_eq]
  · exact sR_eq
  · exact zL_ext g4 (fun x _ _ => rfl) (by funext j; exact sR_nj (by omega))
  · by_cases e : x = a
    · subst e
      by_cases e3 : j = 3
      · subst e3
        rw [if_pos ⟨rfl, rfl⟩]
        simp (disch := omega) only [s_ne, s_eq]
      · rw [if_neg (by omega)]
        simp only [mSet]
        (repeat' split) <;> first | rfl | (exfalso; omega) | (rw [(p3 x (by omega)).2]; show (if _ then _ else I x j) = _; rw [if_neg (by omega)]; exact hI j)
    · rw [if_neg (by omega)]
      simp (disch := omega) only [s_ne]
      exact g5 x j (by omega) (by omega)
