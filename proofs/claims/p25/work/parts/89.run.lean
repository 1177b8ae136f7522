/-! THE LAW's run -/
def vI0 : Nat → Int32 := fun x => if x = 589 then 130 else 0
def G0 : gS := (vI0, 0, fun _ => 0, 0, fun _ => 0)
theorem inv_0 : Inv 0 G0 := by
  refine ⟨⟨0, Nat.le_refl _, rfl⟩, fun s hs hp => ?_⟩
  have e : gp G0.1 s = 0 := gp_of (v := G0.1) (s := s) (p := 0) (by show vI0 (98 * s) = 0; unfold vI0; rw [if_neg (by omega)]) (by omega)
  omega
set_option maxHeartbeats 2000000 in
theorem law_start0 {K : mK} (hL : K.2.2.2.1 ≤ 260) (hG : Good K G0) : Eg K 107 (bk_107_0.drop 4) [.ref 2000000, .ref 0, .null, .null, .null, .null, .null, .null, .null, .null, .null, .null, .null, .null, .null, .null] [] G0 Qf := by
  have hK := gd_K hG
  have a1 : aUndo G0 = -5 := if_pos rfl
  have a2 : nUndo G0 = G0 := if_pos rfl
  have a3 : aPerf G0 = -100 := if_pos rfl
  have a4 : nPerf G0 = G0 := if_pos rfl
  have a5 : aCount G0.1 G0.2.1 8 = nI 130 := rfl
  have a6 : aEvent G0.1 0 0 = -5 := if_neg (by
    have : gln G0.1 = 0 := gln_of (n := 0) rfl (by omega)
    omega)
  have a7 : aCount G0.1 G0.2.1 0 = nI 0 := rfl
  have hp : G0.2.2.2.1 = 0 ∨ txW G0.2.2.2.1 G0.2.2.2.2 (gSp G0) := Or.inl rfl
  simp (disch := first | assumption | omega) only [g_iconst, g_iconstN, g_bipush, g_bipushN, g_sipush, g_sipushN, g_ldc, g_ldc2, g_al0, g_il0, g_ii0, g_ll0, g_al1, g_il1, g_ii1, g_ll1, g_al2, g_il2, g_ii2, g_ll2, g_al3, g_il3, g_ii3, g_ll3, g_al4, g_il4, g_ii4, g_ll4, g_al5, g_il5, g_ii5, g_ll5, g_al6, g_il6, g_ii6, g_ll6, g_al7, g_il7, g_ii7, g_ll7, g_al8, g_il8, g_ii8, g_ll8, g_al9, g_il9, g_ii9, g_ll9, g_al10, g_il10, g_ii10, g_ll10, g_al11, g_il11, g_ii11, g_ll11, g_al12, g_il12, g_ii12, g_ll12, g_al13, g_il13, g_ii13, g_ll13, g_al14, g_il14, g_ii14, g_ll14, g_al15, g_il15, g_ii15, g_ll15, g_al16, g_il16, g_ii16, g_ll16, g_al17, g_il17, g_ii17, g_ll17, g_al18, g_il18, g_ii18, g_ll18, g_istore_n, g_istore, g_lstore_n, g_lstore, g_iadd, g_isub, g_imul, g_iand, g_ishr, g_idiv, g_irem, g_i2c, g_i2l, g_ladd, g_lmul, g_lcmp, g_pop, g_goto, g_nop, g_if_eq, g_if_ne, g_if_lt, g_if_ge, g_if_gt, g_if_le, g_icmp_eq, g_icmp_ne, g_icmp_lt, g_icmp_ge, g_icmp_gt, g_icmp_le, g_ret0, g_ret1, g_retn, g_retl, g_sld, g_slen, g_stat, List.cons_append, List.nil_append, List.append_nil, List.length_cons, List.length_nil, List.replicate_succ, List.replicate_zero, List.getElem?_cons_zero, List.getElem?_cons_succ, List.set_cons_zero, List.set_cons_succ, List.take_succ_cons, List.take_zero, List.drop_succ_cons, List.drop_zero, List.reverse_cons, List.reverse_nil, Option.toList_some, Option.toList_none, Nat.reduceSub, Nat.reduceAdd, Nat.reduceLeDiff, true_and, and_true, and_self, Option.some.injEq, exists_eq_left', Nat.zero_add, Value.int.injEq, Value.ref.injEq, List.cons.injEq, exists_and_left, and_assoc, exists_eq_left, List.all_cons, List.all_nil, m1_i, m1_r, Bool.and_self, Bool.and_true, g_stat, bk_107_0, g_undo hK, g_restore hK, g_perform hK, g_count hK, g_event hK, g_spool6 hK, a1, a2, a3, a4, a5, a6, a7, not_true_eq_false, not_false_eq_true, or_true, true_or, or_false, false_or, false_and, and_false, Nat.reduceEqDiff, Nat.reduceLT, Nat.reduceMul, Nat.not_lt_zero, Nat.zero_le, Nat.le_refl, ne_eq, ↓reduceIte, reduceCtorEq]
  rw [B_107_79]
  simp (disch := first | assumption | omega) only [g_iconst, g_iconstN, g_bipush, g_bipushN, g_sipush, g_sipushN, g_ldc, g_ldc2, g_al0, g_il0, g_ii0, g_ll0, g_al1, g_il1, g_ii1, g_ll1, g_al2, g_il2, g_ii2, g_ll2, g_al3, g_il3, g_ii3, g_ll3, g_al4, g_il4, g_ii4, g_ll4, g_al5, g_il5, g_ii5, g_ll5, g_al6, g_il6, g_ii6, g_ll6, g_al7, g_il7, g_ii7, g_ll7, g_al8, g_il8, g_ii8, g_ll8, g_al9, g_il9, g_ii9, g_ll9, g_al10, g_il10, g_ii10, g_ll10, g_al11, g_il11, g_ii11, g_ll11, g_al12, g_il12, g_ii12, g_ll12, g_al13, g_il13, g_ii13, g_ll13, g_al14, g_il14, g_ii14, g_ll14, g_al15, g_il15, g_ii15, g_ll15, g_al16, g_il16, g_ii16, g_ll16, g_al17, g_il17, g_ii17, g_ll17, g_al18, g_il18, g_ii18, g_ll18, g_istore_n, g_istore, g_lstore_n, g_lstore, g_iadd, g_isub, g_imul, g_iand, g_ishr, g_idiv, g_irem, g_i2c, g_i2l, g_ladd, g_lmul, g_lcmp, g_pop, g_goto, g_nop, g_if_eq, g_if_ne, g_if_lt, g_if_ge, g_if_gt, g_if_le, g_icmp_eq, g_icmp_ne, g_icmp_lt, g_icmp_ge, g_icmp_gt, g_icmp_le, g_ret0, g_ret1, g_retn, g_retl, g_sld, g_slen, g_stat, List.cons_append, List.nil_append, List.append_nil, List.length_cons, List.length_nil, List.replicate_succ, List.replicate_zero, List.getElem?_cons_zero, List.getElem?_cons_succ, List.set_cons_zero, List.set_cons_succ, List.take_succ_cons, List.take_zero, List.drop_succ_cons, List.drop_zero, List.reverse_cons, List.reverse_nil, Option.toList_some, Option.toList_none, Nat.reduceSub, Nat.reduceAdd, Nat.reduceLeDiff, true_and, and_true, and_self, Option.some.injEq, exists_eq_left', Nat.zero_add, Value.int.injEq, Value.ref.injEq, List.cons.injEq, exists_and_left, and_assoc, exists_eq_left, List.all_cons, List.all_nil, m1_i, m1_r, Bool.and_self, Bool.and_true, g_stat, bk_107_79, not_true_eq_false, not_false_eq_true, or_true, true_or, or_false, false_or, false_and, and_false, Nat.reduceEqDiff, Nat.reduceLT, Nat.reduceMul, Nat.not_lt_zero, Nat.zero_le, Nat.le_refl, ne_eq, ↓reduceIte, reduceCtorEq]
  exact law_loop hL hG inv_0 _ _ _ _ _ _ _ _ _ _ _ _ _
set_option maxHeartbeats 4000000 in
theorem lawRun_ok : ∀ (L : Nat) (xs : Nat → Int32), L ≤ 260 → Ev 107 (mB 107 0) [.ref 2000000, .null, .null, .null, .null, .null, .null, .null, .null, .null, .null, .null, .null, .null, .null, .null] [] ((0, 0, fun _ => (0, 0), L, xs), fun _ _ => none, fun _ _ => 0) (fun v k => v = some (.int 1) ∧ k.1.1 ≤ 600000 ∧ k.1.2.1 ≤ 7302249) := by
  intro L xs hL
  have rest : ∀ (K : mK) (R : Nat → Nat → Option Nat) (I : Nat → Nat → Int32), K.2.2.2.1 ≤ 260 → RELG K R I G0 → Ev 107 (bk_107_0.drop 3) [.ref 2000000, .null, .null, .null, .null, .null, .null, .null, .null, .null, .null, .null, .null, .null, .null, .null] [.ref 0] (K, R, I) (fun v h => v = some (.int 1) ∧ h.1 = K) := by
    intro K R I hL hr
    have e : bk_107_0.drop 3 = (.astore_n 1, 1, 0, 0) :: bk_107_0.drop 4 := rfl
    rw [e, e_astore_n]
    simp only [List.set_cons_succ, List.set_cons_zero]
    refine Ev_mono ?_ (Eg_sound (law_start0 hL ⟨R, I, hr⟩) hr)
    rintro v h ⟨G', R', I', rfl, -, rfl⟩
    exact ⟨rfl, rfl⟩
  have e : bk_107_0 = (.new 14, 7, 9, 0) :: (.dup, 0, 0, 0) :: (.invokespecial 100, 58, 1, 1) :: bk_107_0.drop 3 := rfl
  rw [B_107_0, e]
  generalize bk_107_0.drop 3 = rs at rest
  simp (disch := omega) only [e_iconst, e_bipush, e_sipush, e_istore_n, e_istore, e_astore_n, e_astore, e_iadd, e_isub, e_imul, e_iand, e_ishr, e_idiv, e_i2c, e_dup_i, e_dup_r, e_dup2, e_pop, e_goto, e_nop, e_if_eq, e_if_ne, e_if_lt, e_if_ge, e_if_gt, e_if_le, e_icmp_eq, e_icmp_ne, e_icmp_lt, e_icmp_ge, e_icmp_gt, e_icmp_le, e_tsw, e_ret0, e_ret1, e_retn, e_getI, e_getZ, e_getV, e_getC, e_putI, e_putZ, e_putF, e_gst0, e_gst1, e_sld, e_iald, e_cald, e_bald, e_iast, e_cast, e_aald, e_aast, e_alen, e_slen, e_blen, e_newa, e_newq, e_new, e_oinit, e_ctor, e_virt, e_stat, e_min, e_copy, e_ldc, f_al0, f_il0, f_ii0, f_al1, f_il1, f_ii1, f_al2, f_il2, f_ii2, f_al3, f_il3, f_ii3, f_al4, f_il4, f_ii4, f_al5, f_il5, f_ii5, f_al6, f_il6, f_ii6, f_al7, f_il7, f_ii7, f_al8, f_il8, f_ii8, f_al9, f_il9, f_ii9, f_getR, List.cons_append, List.nil_append, List.append_nil, List.length_cons, List.length_nil, List.replicate_succ, List.replicate_zero, List.getElem?_cons_zero, List.getElem?_cons_succ, List.set_cons_zero, List.set_cons_succ, List.take_succ_cons, List.take_zero, List.drop_succ_cons, List.drop_zero, List.reverse_cons, List.reverse_nil, Option.toList_some, Option.toList_none, Nat.reduceSub, Nat.reduceAdd, Nat.reduceLeDiff, true_and, and_true, and_self, Option.some.injEq, exists_eq_left', Nat.zero_add, Value.int.injEq, Value.ref.injEq, List.cons.injEq, exists_and_left, and_assoc, exists_eq_left, List.all_cons, List.all_nil, m1_i, m1_r, Bool.and_self, Bool.and_true, t_lt, not_true_eq_false, not_false_eq_true, or_true, true_or, or_false, false_or, false_and, and_false, Nat.reduceEqDiff, Nat.reduceLT, Nat.reduceMul, Nat.not_lt_zero, Nat.zero_le, Nat.le_refl, ne_eq, ↓reduceIte, reduceCtorEq]
  refine EvM_mono ?_ (i_main rfl rfl)
  rintro v h hp
  unfold mainPost at hp
  obtain ⟨rfl, K1, R1, I1, rfl, n1, c1, s1, z, v1, v2, v3, v4⟩ := hp
  have hrel : RELG K1 R1 I1 G0 := by
    refine ⟨fun j => j, z, ?_, by show (0 : Nat) ≤ 4; omega, v2, fun j hj => absurd hj (by show ¬ j < 0; omega), v3, by show (0 : Nat) ≤ 50; omega, v4, fun k hk => absurd hk (by show ¬ k < 0; omega)⟩
    have w0 : ∀ x j, 1 ≤ x → x < 31 → x ≠ 2 → ¬ (x = 1 ∧ j = 3) → I1 x j = 0 := fun x j x1 x2 x3 x4 => by rw [v1 x j x1 x2 x3, if_neg x4]
    have w1 : I1 1 3 = 130 := by rw [v1 1 3 (by omega) (by omega) (by omega), if_pos ⟨rfl, rfl⟩]
    have w5 : ∀ j, j ≠ 589 → vI0 j = 0 := fun j hj => if_neg hj
    refine ⟨fun s hs => ⟨0, 0, 0, rW_empty (w0 _ _ (by omega) (by omega) (by omega) (by omega)) (w0 _ _ (by omega) (by omega) (by omega) (by omega)) (w0 _ _ (by omega) (by omega) (by omega) (by omega)) (w5 _ (by omega)) (w5 _ (by omega)) (w5 _ (by omega))⟩, ?_⟩
    refine ⟨?_, ?_, ?_, ?_, ?_, ?_, ?_, ⟨0, by omega, rfl⟩, ⟨130, by omega, by omega, rfl⟩, 0, by omega, w0 3 3 (by omega) (by omega) (by omega) (by omega), rfl, fun e he => absurd he (by omega)⟩
    · rw [w0 1 2 (by omega) (by omega) (by omega) (by omega)]; rfl
    · rw [w1]; rfl
    · rw [w0 1 4 (by omega) (by omega) (by omega) (by omega)]; rfl
    · rw [w0 1 5 (by omega) (by omega) (by omega) (by omega)]; rfl
    · rw [w0 1 6 (by omega) (by omega) (by omega) (by omega)]; rfl
    · rw [w0 1 7 (by omega) (by omega) (by omega) (by omega)]; rfl
    · rw [w0 1 8 (by omega) (by omega) (by omega) (by omega)]; rfl
  have hscr : K1.2.2.2 = (L, xs) := s1
  simp only [Option.toList_none, List.nil_append]
  refine Ev_mono ?_ (rest K1 R1 I1 (by rw [hscr]; exact hL) hrel)
  rintro v k ⟨hv, hk⟩
  have d1 : K1.2.1 = 0 + 9 + 4237 := c1
  refine ⟨hv, ?_, ?_⟩
  · rw [hk, n1]; omega
  · rw [hk]; omega
