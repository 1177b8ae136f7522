/-! THE OBJECTS, as they are made: wire, log, reader, text -/
theorem t_lt {a b : Nat} (h : a < b) : (a < b) = True := eq_true h
theorem sh_ne {f : Nat → Nat × Nat} {k j : Nat} {x : Nat × Nat} (h : j ≠ k) : mShp f k x j = f j := if_neg h
theorem sh_eq {f : Nat → Nat × Nat} {k : Nat} {x : Nat × Nat} : mShp f k x k = x := if_pos rfl
theorem sR_eq {R : Nat → Nat → Option Nat} {a k : Nat} {x : Option Nat} : mSetR R a k x a k = x := if_pos ⟨rfl, rfl⟩
theorem sR_nj {R : Nat → Nat → Option Nat} {a k b j : Nat} {x : Option Nat} (h : ¬ (b = a ∧ j = k)) : mSetR R a k x b j = R b j := if_neg h
/-- what a constructor of the object a leaves alone -/
def fr (K : mK) (R : Nat → Nat → Option Nat) (I : Nat → Nat → Int32) (K' : mK) (R' : Nat → Nat → Option Nat) (I' : Nat → Nat → Int32) (a : Nat) : Prop := K'.2.2.2 = K.2.2.2 ∧ (∀ x, x < a + 1 → K'.2.2.1 x = K.2.2.1 x) ∧ (∀ x, x < a → R' x = R x ∧ I' x = I x)
set_option maxHeartbeats 4000000 in
theorem i_wire {K : mK} {R : Nat → Nat → Option Nat} {I : Nat → Nat → Int32} {a : Nat} (h1 : K.1 = a + 1) (ha : a < 1000) (hs : K.2.2.1 a = (1, 6)) (hI : ∀ j, I a j = 0) : EvM 35 [.ref a] (K, R, I) (fun v k => v = none ∧ ∃ K' R' I', k = (K', R', I') ∧ K'.1 = a + 4 ∧ K'.2.1 = K.2.1 + 96 ∧ fr K R I K' R' I' a ∧ zW K' R' a ∧ ∀ x j, a ≤ x → x < a + 4 → I' x j = 0) := by
  obtain ⟨nx, cnt, S, scr⟩ := K
  simp only at h1 hs
  subst h1
  simp (disch := omega) only [e_iconst, e_bipush, e_sipush, e_istore_n, e_istore, e_astore_n, e_astore, e_iadd, e_isub, e_imul, e_iand, e_ishr, e_idiv, e_i2c, e_dup_i, e_dup_r, e_dup2, e_pop, e_goto, e_nop, e_if_eq, e_if_ne, e_if_lt, e_if_ge, e_if_gt, e_if_le, e_icmp_eq, e_icmp_ne, e_icmp_lt, e_icmp_ge, e_icmp_gt, e_icmp_le, e_tsw, e_ret0, e_ret1, e_retn, e_getI, e_getZ, e_getV, e_getC, e_putI, e_putZ, e_putF, e_gst0, e_gst1, e_sld, e_iald, e_cald, e_bald, e_iast, e_cast, e_aald, e_aast, e_alen, e_slen, e_blen, e_newa, e_newq, e_new, e_oinit, e_ctor, e_virt, e_stat, e_min, e_copy, e_ldc, f_al0, f_il0, f_ii0, f_al1, f_il1, f_ii1, f_al2, f_il2, f_ii2, f_al3, f_il3, f_ii3, f_al4, f_il4, f_ii4, f_al5, f_il5, f_ii5, f_al6, f_il6, f_ii6, f_al7, f_il7, f_ii7, f_al8, f_il8, f_ii8, f_al9, f_il9, f_ii9, f_getR, List.cons_append, List.nil_append, List.append_nil, List.length_cons, List.length_nil, List.replicate_succ, List.replicate_zero, List.getElem?_cons_zero, List.getElem?_cons_succ, List.set_cons_zero, List.set_cons_succ, List.take_succ_cons, List.take_zero, List.drop_succ_cons, List.drop_zero, List.reverse_cons, List.reverse_nil, Option.toList_some, Option.toList_none, Nat.reduceSub, Nat.reduceAdd, Nat.reduceLeDiff, true_and, and_true, and_self, Option.some.injEq, exists_eq_left', Nat.zero_add, Value.int.injEq, Value.ref.injEq, List.cons.injEq, exists_and_left, and_assoc, exists_eq_left, List.all_cons, List.all_nil, m1_i, m1_r, Bool.and_self, Bool.and_true, E_in 35, N_35, B_35_0, bk_35_0, hs, sh_ne, sh_eq, o_le, o_cl, o_eq, t_lt, not_true_eq_false, not_false_eq_true, or_true, true_or, or_false, false_or, false_and, and_false, Nat.reduceEqDiff, Nat.reduceLT, Nat.reduceMul, Nat.not_lt_zero, Nat.zero_le, Nat.le_refl, ne_eq, ↓reduceIte, reduceCtorEq]
  refine ⟨_, _, _, rfl, rfl, by show cnt + 32 + 32 + 32 = cnt + 96; omega, ⟨rfl, fun x hx => ?_, fun x hx => ⟨?_, ?_⟩⟩, ⟨?_, ?_, ?_, ?_, ?_, ?_, ?_, ha⟩, fun x j h1 h2 => ?_⟩
  · simp (disch := omega) only [sh_ne]
  · funext j; simp (disch := omega) only [sR_nj]
  · funext j; simp (disch := omega) only [s_ne, if_neg]
  · simp (disch := omega) only [sh_ne]; exact hs
  · simp (disch := omega) only [sh_ne, sh_eq]
  · simp (disch := omega) only [sh_ne, sh_eq]
  · simp (disch := omega) only [sh_ne, sh_eq]
  · simp (disch := omega) only [sR_nj, sR_eq]
  · simp (disch := omega) only [sR_nj, sR_eq]
  · simp (disch := omega) only [sR_nj, sR_eq]
  · simp only [mSet]
    (repeat' split) <;> first | rfl | (have e : x = a := by omega); (rw [e]; exact hI _)
set_option maxHeartbeats 4000000 in
theorem i_log {K : mK} {R : Nat → Nat → Option Nat} {I : Nat → Nat → Int32} {a : Nat} (h1 : K.1 = a + 1) (ha : a < 1000) (hs : K.2.2.1 a = (1, 2)) (hI : ∀ j, I a j = 0) : EvM 12 [.ref a] (K, R, I) (fun v k => v = none ∧ ∃ K' R' I', k = (K', R', I') ∧ K'.1 = a + 4 ∧ K'.2.1 = K.2.1 + 30 ∧ fr K R I K' R' I' a ∧ zL K' R' a ∧ ∀ x j, a ≤ x → x < a + 4 → I' x j = 0) := by
  obtain ⟨nx, cnt, S, scr⟩ := K
  simp only at h1 hs
  subst h1
  simp (disch := omega) only [e_iconst, e_bipush, e_sipush, e_istore_n, e_istore, e_astore_n, e_astore, e_iadd, e_isub, e_imul, e_iand, e_ishr, e_idiv, e_i2c, e_dup_i, e_dup_r, e_dup2, e_pop, e_goto, e_nop, e_if_eq, e_if_ne, e_if_lt, e_if_ge, e_if_gt, e_if_le, e_icmp_eq, e_icmp_ne, e_icmp_lt, e_icmp_ge, e_icmp_gt, e_icmp_le, e_tsw, e_ret0, e_ret1, e_retn, e_getI, e_getZ, e_getV, e_getC, e_putI, e_putZ, e_putF, e_gst0, e_gst1, e_sld, e_iald, e_cald, e_bald, e_iast, e_cast, e_aald, e_aast, e_alen, e_slen, e_blen, e_newa, e_newq, e_new, e_oinit, e_ctor, e_virt, e_stat, e_min, e_copy, e_ldc, f_al0, f_il0, f_ii0, f_al1, f_il1, f_ii1, f_al2, f_il2, f_ii2, f_al3, f_il3, f_ii3, f_al4, f_il4, f_ii4, f_al5, f_il5, f_ii5, f_al6, f_il6, f_ii6, f_al7, f_il7, f_ii7, f_al8, f_il8, f_ii8, f_al9, f_il9, f_ii9, f_getR, List.cons_append, List.nil_append, List.append_nil, List.length_cons, List.length_nil, List.replicate_succ, List.replicate_zero, List.getElem?_cons_zero, List.getElem?_cons_succ, List.set_cons_zero, List.set_cons_succ, List.take_succ_cons, List.take_zero, List.drop_succ_cons, List.drop_zero, List.reverse_cons, List.reverse_nil, Option.toList_some, Option.toList_none, Nat.reduceSub, Nat.reduceAdd, Nat.reduceLeDiff, true_and, and_true, and_self, Option.some.injEq, exists_eq_left', Nat.zero_add, Value.int.injEq, Value.ref.injEq, List.cons.injEq, exists_and_left, and_assoc, exists_eq_left, List.all_cons, List.all_nil, m1_i, m1_r, Bool.and_self, Bool.and_true, E_in 12, N_12, B_12_0, bk_12_0, hs, sh_ne, sh_eq, o_le, o_cl, o_eq, t_lt, not_true_eq_false, not_false_eq_true, or_true, true_or, or_false, false_or, false_and, and_false, Nat.reduceEqDiff, Nat.reduceLT, Nat.reduceMul, Nat.not_lt_zero, Nat.zero_le, Nat.le_refl, ne_eq, ↓reduceIte, reduceCtorEq]
  refine ⟨_, _, _, rfl, rfl, by show cnt + 10 + 10 + 10 = cnt + 30; omega, ⟨rfl, fun x hx => ?_, fun x hx => ⟨?_, ?_⟩⟩, ⟨?_, ?_, ?_, ?_, ?_, ?_, ?_, ha⟩, fun x j h1 h2 => ?_⟩
  · simp (disch := omega) only [sh_ne]
  · funext j; simp (disch := omega) only [sR_nj]
  · funext j; simp (disch := omega) only [s_ne, if_neg]
  · simp (disch := omega) only [sh_ne]; exact hs
  · simp (disch := omega) only [sh_ne, sh_eq]
  · simp (disch := omega) only [sh_ne, sh_eq]
  · simp (disch := omega) only [sh_ne, sh_eq]
  · simp (disch := omega) only [sR_nj, sR_eq]
  · simp (disch := omega) only [sR_nj, sR_eq]
  · simp (disch := omega) only [sR_nj, sR_eq]
  · simp only [mSet]
    (repeat' split) <;> first | rfl | (have e : x = a := by omega); (rw [e]; exact hI _)
set_option maxHeartbeats 4000000 in
theorem i_reader {K : mK} {R : Nat → Nat → Option Nat} {I : Nat → Nat → Int32} {a : Nat} (h1 : K.1 = a + 1) (ha : a < 1000) (hs : K.2.2.1 a = (1, 3)) : EvM 17 [.ref a] (K, R, I) (fun v k => v = none ∧ ∃ K' R' I', k = (K', R', I') ∧ K'.1 = a + 2 ∧ K'.2.1 = K.2.1 + 30 ∧ fr K R I K' R' I' a ∧ zR K' R' a) := by
  obtain ⟨nx, cnt, S, scr⟩ := K
  simp only at h1 hs
  subst h1
  simp (disch := omega) only [e_iconst, e_bipush, e_sipush, e_istore_n, e_istore, e_astore_n, e_astore, e_iadd, e_isub, e_imul, e_iand, e_ishr, e_idiv, e_i2c, e_dup_i, e_dup_r, e_dup2, e_pop, e_goto, e_nop, e_if_eq, e_if_ne, e_if_lt, e_if_ge, e_if_gt, e_if_le, e_icmp_eq, e_icmp_ne, e_icmp_lt, e_icmp_ge, e_icmp_gt, e_icmp_le, e_tsw, e_ret0, e_ret1, e_retn, e_getI, e_getZ, e_getV, e_getC, e_putI, e_putZ, e_putF, e_gst0, e_gst1, e_sld, e_iald, e_cald, e_bald, e_iast, e_cast, e_aald, e_aast, e_alen, e_slen, e_blen, e_newa, e_newq, e_new, e_oinit, e_ctor, e_virt, e_stat, e_min, e_copy, e_ldc, f_al0, f_il0, f_ii0, f_al1, f_il1, f_ii1, f_al2, f_il2, f_ii2, f_al3, f_il3, f_ii3, f_al4, f_il4, f_ii4, f_al5, f_il5, f_ii5, f_al6, f_il6, f_ii6, f_al7, f_il7, f_ii7, f_al8, f_il8, f_ii8, f_al9, f_il9, f_ii9, f_getR, List.cons_append, List.nil_append, List.append_nil, List.length_cons, List.length_nil, List.replicate_succ, List.replicate_zero, List.getElem?_cons_zero, List.getElem?_cons_succ, List.set_cons_zero, List.set_cons_succ, List.take_succ_cons, List.take_zero, List.drop_succ_cons, List.drop_zero, List.reverse_cons, List.reverse_nil, Option.toList_some, Option.toList_none, Nat.reduceSub, Nat.reduceAdd, Nat.reduceLeDiff, true_and, and_true, and_self, Option.some.injEq, exists_eq_left', Nat.zero_add, Value.int.injEq, Value.ref.injEq, List.cons.injEq, exists_and_left, and_assoc, exists_eq_left, List.all_cons, List.all_nil, m1_i, m1_r, Bool.and_self, Bool.and_true, E_in 17, N_17, B_17_0, bk_17_0, hs, sh_ne, sh_eq, o_le, o_cl, o_eq, t_lt, not_true_eq_false, not_false_eq_true, or_true, true_or, or_false, false_or, false_and, and_false, Nat.reduceEqDiff, Nat.reduceLT, Nat.reduceMul, Nat.not_lt_zero, Nat.zero_le, Nat.le_refl, ne_eq, ↓reduceIte, reduceCtorEq]
  refine ⟨_, _, _, rfl, rfl, by show cnt + 30 = cnt + 30; omega, ⟨rfl, fun x hx => ?_, fun x hx => ⟨?_, ?_⟩⟩, ⟨?_, ?_, ?_, ha⟩⟩
  · simp (disch := omega) only [sh_ne]
  · funext j; simp (disch := omega) only [sR_nj]
  · funext j; simp (disch := omega) only [s_ne, if_neg]
  · simp (disch := omega) only [sh_ne]; exact hs
  · simp (disch := omega) only [sh_ne, sh_eq]
  · simp (disch := omega) only [sR_nj, sR_eq]
set_option maxHeartbeats 4000000 in
theorem i_text {K : mK} {R : Nat → Nat → Option Nat} {I : Nat → Nat → Int32} {a : Nat} (h1 : K.1 = a + 1) (ha : a < 1000) (hs : K.2.2.1 a = (1, 5)) : EvM 31 [.ref a] (K, R, I) (fun v k => v = none ∧ ∃ K' R' I', k = (K', R', I') ∧ K'.1 = a + 2 ∧ K'.2.1 = K.2.1 + 50 ∧ fr K R I K' R' I' a ∧ K'.2.2.1 (a + 1) = (3, 50) ∧ R' a 0 = some (a + 1) ∧ I' a 1 = 0) := by
  obtain ⟨nx, cnt, S, scr⟩ := K
  simp only at h1 hs
  subst h1
  simp (disch := omega) only [e_iconst, e_bipush, e_sipush, e_istore_n, e_istore, e_astore_n, e_astore, e_iadd, e_isub, e_imul, e_iand, e_ishr, e_idiv, e_i2c, e_dup_i, e_dup_r, e_dup2, e_pop, e_goto, e_nop, e_if_eq, e_if_ne, e_if_lt, e_if_ge, e_if_gt, e_if_le, e_icmp_eq, e_icmp_ne, e_icmp_lt, e_icmp_ge, e_icmp_gt, e_icmp_le, e_tsw, e_ret0, e_ret1, e_retn, e_getI, e_getZ, e_getV, e_getC, e_putI, e_putZ, e_putF, e_gst0, e_gst1, e_sld, e_iald, e_cald, e_bald, e_iast, e_cast, e_aald, e_aast, e_alen, e_slen, e_blen, e_newa, e_newq, e_new, e_oinit, e_ctor, e_virt, e_stat, e_min, e_copy, e_ldc, f_al0, f_il0, f_ii0, f_al1, f_il1, f_ii1, f_al2, f_il2, f_ii2, f_al3, f_il3, f_ii3, f_al4, f_il4, f_ii4, f_al5, f_il5, f_ii5, f_al6, f_il6, f_ii6, f_al7, f_il7, f_ii7, f_al8, f_il8, f_ii8, f_al9, f_il9, f_ii9, f_getR, List.cons_append, List.nil_append, List.append_nil, List.length_cons, List.length_nil, List.replicate_succ, List.replicate_zero, List.getElem?_cons_zero, List.getElem?_cons_succ, List.set_cons_zero, List.set_cons_succ, List.take_succ_cons, List.take_zero, List.drop_succ_cons, List.drop_zero, List.reverse_cons, List.reverse_nil, Option.toList_some, Option.toList_none, Nat.reduceSub, Nat.reduceAdd, Nat.reduceLeDiff, true_and, and_true, and_self, Option.some.injEq, exists_eq_left', Nat.zero_add, Value.int.injEq, Value.ref.injEq, List.cons.injEq, exists_and_left, and_assoc, exists_eq_left, List.all_cons, List.all_nil, m1_i, m1_r, Bool.and_self, Bool.and_true, E_in 31, N_31, B_31_0, bk_31_0, hs, sh_ne, sh_eq, o_le, o_cl, o_eq, t_lt, not_true_eq_false, not_false_eq_true, or_true, true_or, or_false, false_or, false_and, and_false, Nat.reduceEqDiff, Nat.reduceLT, Nat.reduceMul, Nat.not_lt_zero, Nat.zero_le, Nat.le_refl, ne_eq, ↓reduceIte, reduceCtorEq]
  refine ⟨_, _, _, rfl, rfl, by show cnt + 50 = cnt + 50; omega, ⟨rfl, fun x hx => ?_, fun x hx => ⟨?_, ?_⟩⟩, ?_, ?_, ?_⟩
  · simp (disch := omega) only [sh_ne]
  · funext j; simp (disch := omega) only [sR_nj]
  · funext j; simp (disch := omega) only [s_ne, if_neg]
  · simp (disch := omega) only [sh_ne, sh_eq]
  · simp (disch := omega) only [sR_nj, sR_eq]
  · exact s_eq
theorem i_cmd {K : mK} {R : Nat → Nat → Option Nat} {I : Nat → Nat → Int32} {a : Nat} (h1 : K.1 = a + 1) (ha : a < 1000) (hs : K.2.2.1 a = (1, 0)) : EvM 0 [.ref a] (K, R, I) (fun v k => v = none ∧ ∃ I', k = (K, R, I') ∧ (∀ x, x < a → I' x = I x)) := by
  simp (disch := omega) only [e_iconst, e_bipush, e_sipush, e_istore_n, e_istore, e_astore_n, e_astore, e_iadd, e_isub, e_imul, e_iand, e_ishr, e_idiv, e_i2c, e_dup_i, e_dup_r, e_dup2, e_pop, e_goto, e_nop, e_if_eq, e_if_ne, e_if_lt, e_if_ge, e_if_gt, e_if_le, e_icmp_eq, e_icmp_ne, e_icmp_lt, e_icmp_ge, e_icmp_gt, e_icmp_le, e_tsw, e_ret0, e_ret1, e_retn, e_getI, e_getZ, e_getV, e_getC, e_putI, e_putZ, e_putF, e_gst0, e_gst1, e_sld, e_iald, e_cald, e_bald, e_iast, e_cast, e_aald, e_aast, e_alen, e_slen, e_blen, e_newa, e_newq, e_new, e_oinit, e_ctor, e_virt, e_stat, e_min, e_copy, e_ldc, f_al0, f_il0, f_ii0, f_al1, f_il1, f_ii1, f_al2, f_il2, f_ii2, f_al3, f_il3, f_ii3, f_al4, f_il4, f_ii4, f_al5, f_il5, f_ii5, f_al6, f_il6, f_ii6, f_al7, f_il7, f_ii7, f_al8, f_il8, f_ii8, f_al9, f_il9, f_ii9, f_getR, List.cons_append, List.nil_append, List.append_nil, List.length_cons, List.length_nil, List.replicate_succ, List.replicate_zero, List.getElem?_cons_zero, List.getElem?_cons_succ, List.set_cons_zero, List.set_cons_succ, List.take_succ_cons, List.take_zero, List.drop_succ_cons, List.drop_zero, List.reverse_cons, List.reverse_nil, Option.toList_some, Option.toList_none, Nat.reduceSub, Nat.reduceAdd, Nat.reduceLeDiff, true_and, and_true, and_self, Option.some.injEq, exists_eq_left', Nat.zero_add, Value.int.injEq, Value.ref.injEq, List.cons.injEq, exists_and_left, and_assoc, exists_eq_left, List.all_cons, List.all_nil, m1_i, m1_r, Bool.and_self, Bool.and_true, E_in 0, N_0, B_0_0, bk_0_0, hs, o_eq, t_lt, not_true_eq_false, not_false_eq_true, or_true, true_or, or_false, false_or, false_and, and_false, Nat.reduceEqDiff, Nat.reduceLT, Nat.reduceMul, Nat.not_lt_zero, Nat.zero_le, Nat.le_refl, ne_eq, ↓reduceIte, reduceCtorEq]
  refine ⟨_, rfl, fun x hx => ?_⟩
  funext j; simp (disch := omega) only [s_ne]
theorem zW_ext {K K' : mK} {R R' : Nat → Nat → Option Nat} {b : Nat} (h : zW K R b) (hK : ∀ x, b ≤ x → x < b + 4 → K'.2.2.1 x = K.2.2.1 x) (hR : R' b = R b) : zW K' R' b := by
  obtain ⟨h0, h1, h2, h3, h4, h5, h6, h7⟩ := h
  exact ⟨by rw [hK _ (by omega) (by omega)]; exact h0, by rw [hK _ (by omega) (by omega)]; exact h1, by rw [hK _ (by omega) (by omega)]; exact h2, by rw [hK _ (by omega) (by omega)]; exact h3, by rw [hR]; exact h4, by rw [hR]; exact h5, by rw [hR]; exact h6, h7⟩
theorem zL_ext {K K' : mK} {R R' : Nat → Nat → Option Nat} {b : Nat} (h : zL K R b) (hK : ∀ x, b ≤ x → x < b + 4 → K'.2.2.1 x = K.2.2.1 x) (hR : R' b = R b) : zL K' R' b := by
  obtain ⟨h0, h1, h2, h3, h4, h5, h6, h7⟩ := h
  exact ⟨by rw [hK _ (by omega) (by omega)]; exact h0, by rw [hK _ (by omega) (by omega)]; exact h1, by rw [hK _ (by omega) (by omega)]; exact h2, by rw [hK _ (by omega) (by omega)]; exact h3, by rw [hR]; exact h4, by rw [hR]; exact h5, by rw [hR]; exact h6, h7⟩
theorem zR_ext {K K' : mK} {R R' : Nat → Nat → Option Nat} {b : Nat} (h : zR K R b) (hK : ∀ x, b ≤ x → x < b + 2 → K'.2.2.1 x = K.2.2.1 x) (hR : R' b = R b) : zR K' R' b := by
  obtain ⟨h0, h1, h2, h3⟩ := h
  exact ⟨by rw [hK _ (by omega) (by omega)]; exact h0, by rw [hK _ (by omega) (by omega)]; exact h1, by rw [hR]; exact h2, h3⟩
theorem zS_ext {K K' : mK} {R R' : Nat → Nat → Option Nat} {b : Nat} (h : zS K R b) (hK : ∀ x, b ≤ x → x < b + 30 → K'.2.2.1 x = K.2.2.1 x) (hR : ∀ x, b ≤ x → x < b + 30 → R' x = R x) : zS K' R' b := by
  obtain ⟨h0, h1, h2, h3, h4, h5, h6⟩ := h
  exact ⟨by rw [hK _ (by omega) (by omega)]; exact h0, by rw [hR _ (by omega) (by omega)]; exact h1, by rw [hK _ (by omega) (by omega)]; exact h2, by rw [hR _ (by omega) (by omega)]; exact h3, zL_ext h4 (fun x x1 x2 => hK x (by omega) (by omega)) (hR _ (by omega) (by omega)), h5, fun s hs => ⟨by rw [hR _ (by omega) (by omega)]; exact (h6 s hs).1, zW_ext (h6 s hs).2 (fun x x1 x2 => hK x (by omega) (by omega)) (hR _ (by omega) (by omega))⟩⟩
