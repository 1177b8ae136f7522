/-! the history, the main object, the model, as they are made -/
def iH (K0 : mK) (R0 : Nat → Nat → Option Nat) (I0 : Nat → Nat → Int32) (k : Nat) (K : mK) (R : Nat → Nat → Option Nat) (I : Nat → Nat → Int32) : Prop :=
  K.1 = 33 + 30 * k ∧ K.2.1 = K0.2.1 + 4 + 667 * k ∧ fr K0 R0 I0 K R I 31 ∧ K.2.2.1 32 = (5, 4) ∧ R 31 0 = some 32 ∧ I 31 1 = 0 ∧ ∀ j, j < k → R 32 j = some (33 + 30 * j) ∧ zS K R (33 + 30 * j)
set_option maxHeartbeats 4000000 in
theorem ih_loop {K0 : mK} {R0 : Nat → Nat → Option Nat} {I0 : Nat → Nat → Int32} (hs : K0.2.2.1 31 = (1, 1)) : ∀ (d k : Nat), k + d = 4 → ∀ K R I, iH K0 R0 I0 k K R I → Ev 8 (mB 8 19) [.ref 31, .int (nI k)] [] (K, R, I) (fun v h => v = none ∧ ∃ K' R' I', h = (K', R', I') ∧ iH K0 R0 I0 4 K' R' I') := by
  intro d
  induction d with
  | zero =>
    intro k hk K R I h
    have e : k = 4 := by omega
    subst e
    rw [B_8_19]
    simp (disch := omega) only [e_iconst, e_bipush, e_sipush, e_istore_n, e_istore, e_astore_n, e_astore, e_iadd, e_isub, e_imul, e_iand, e_ishr, e_idiv, e_i2c, e_dup_i, e_dup_r, e_dup2, e_pop, e_goto, e_nop, e_if_eq, e_if_ne, e_if_lt, e_if_ge, e_if_gt, e_if_le, e_icmp_eq, e_icmp_ne, e_icmp_lt, e_icmp_ge, e_icmp_gt, e_icmp_le, e_tsw, e_ret0, e_ret1, e_retn, e_getI, e_getZ, e_getV, e_getC, e_putI, e_putZ, e_putF, e_gst0, e_gst1, e_sld, e_iald, e_cald, e_bald, e_iast, e_cast, e_aald, e_aast, e_alen, e_slen, e_blen, e_newa, e_newq, e_new, e_oinit, e_ctor, e_virt, e_stat, e_min, e_copy, e_ldc, f_al0, f_il0, f_ii0, f_al1, f_il1, f_ii1, f_al2, f_il2, f_ii2, f_al3, f_il3, f_ii3, f_al4, f_il4, f_ii4, f_al5, f_il5, f_ii5, f_al6, f_il6, f_ii6, f_al7, f_il7, f_ii7, f_al8, f_il8, f_ii8, f_al9, f_il9, f_ii9, f_getR, List.cons_append, List.nil_append, List.append_nil, List.length_cons, List.length_nil, List.replicate_succ, List.replicate_zero, List.getElem?_cons_zero, List.getElem?_cons_succ, List.set_cons_zero, List.set_cons_succ, List.take_succ_cons, List.take_zero, List.drop_succ_cons, List.drop_zero, List.reverse_cons, List.reverse_nil, Option.toList_some, Option.toList_none, Nat.reduceSub, Nat.reduceAdd, Nat.reduceLeDiff, true_and, and_true, and_self, Option.some.injEq, exists_eq_left', Nat.zero_add, Value.int.injEq, Value.ref.injEq, List.cons.injEq, exists_and_left, and_assoc, exists_eq_left, List.all_cons, List.all_nil, m1_i, m1_r, Bool.and_self, Bool.and_true, bk_8_19, o_le_r, Nat.le_refl, B_8_43, bk_8_43, not_true_eq_false, not_false_eq_true, or_true, true_or, or_false, false_or, false_and, and_false, Nat.reduceEqDiff, Nat.reduceLT, Nat.reduceMul, Nat.not_lt_zero, Nat.zero_le, Nat.le_refl, ne_eq, ↓reduceIte, reduceCtorEq]
    exact ⟨_, _, _, rfl, h⟩
  | succ d ih =>
    intro k hk K R I ⟨h1, h2, ⟨f1, f2, f3⟩, h4, h5, h6, h8⟩
    have ka : K.2.2.1 31 = (1, 1) := by rw [f2 31 (by omega)]; exact hs
    have hle : ¬ 4 ≤ k := by omega
    rw [B_8_19]
    simp (disch := omega) only [e_iconst, e_bipush, e_sipush, e_istore_n, e_istore, e_astore_n, e_astore, e_iadd, e_isub, e_imul, e_iand, e_ishr, e_idiv, e_i2c, e_dup_i, e_dup_r, e_dup2, e_pop, e_goto, e_nop, e_if_eq, e_if_ne, e_if_lt, e_if_ge, e_if_gt, e_if_le, e_icmp_eq, e_icmp_ne, e_icmp_lt, e_icmp_ge, e_icmp_gt, e_icmp_le, e_tsw, e_ret0, e_ret1, e_retn, e_getI, e_getZ, e_getV, e_getC, e_putI, e_putZ, e_putF, e_gst0, e_gst1, e_sld, e_iald, e_cald, e_bald, e_iast, e_cast, e_aald, e_aast, e_alen, e_slen, e_blen, e_newa, e_newq, e_new, e_oinit, e_ctor, e_virt, e_stat, e_min, e_copy, e_ldc, f_al0, f_il0, f_ii0, f_al1, f_il1, f_ii1, f_al2, f_il2, f_ii2, f_al3, f_il3, f_ii3, f_al4, f_il4, f_ii4, f_al5, f_il5, f_ii5, f_al6, f_il6, f_ii6, f_al7, f_il7, f_ii7, f_al8, f_il8, f_ii8, f_al9, f_il9, f_ii9, f_getR, List.cons_append, List.nil_append, List.append_nil, List.length_cons, List.length_nil, List.replicate_succ, List.replicate_zero, List.getElem?_cons_zero, List.getElem?_cons_succ, List.set_cons_zero, List.set_cons_succ, List.take_succ_cons, List.take_zero, List.drop_succ_cons, List.drop_zero, List.reverse_cons, List.reverse_nil, Option.toList_some, Option.toList_none, Nat.reduceSub, Nat.reduceAdd, Nat.reduceLeDiff, true_and, and_true, and_self, Option.some.injEq, exists_eq_left', Nat.zero_add, Value.int.injEq, Value.ref.injEq, List.cons.injEq, exists_and_left, and_assoc, exists_eq_left, List.all_cons, List.all_nil, m1_i, m1_r, Bool.and_self, Bool.and_true, bk_8_19, o_le_r, hle, ka, h5, h1, t_lt, not_true_eq_false, not_false_eq_true, or_true, true_or, or_false, false_or, false_and, and_false, Nat.reduceEqDiff, Nat.reduceLT, Nat.reduceMul, Nat.not_lt_zero, Nat.zero_le, Nat.le_refl, ne_eq, ↓reduceIte, reduceCtorEq]
    refine EvM_mono ?_ (i_state (a := 33 + 30 * k) rfl (by omega) sh_eq (fun j => if_pos rfl))
    rintro v h ⟨rfl, K', R', I', rfl, g1, g2, ⟨p1, p2, p3⟩, g4, g5⟩
    have q4 : K'.2.2.1 32 = (5, 4) := by rw [p2 _ (by omega)]; show mShp _ _ _ _ = _; rw [sh_ne (by omega)]; exact h4
    have qw : K'.2.2.1 (33 + 30 * k) = (1, 4) := g4.1
    simp (disch := omega) only [e_iconst, e_bipush, e_sipush, e_istore_n, e_istore, e_astore_n, e_astore, e_iadd, e_isub, e_imul, e_iand, e_ishr, e_idiv, e_i2c, e_dup_i, e_dup_r, e_dup2, e_pop, e_goto, e_nop, e_if_eq, e_if_ne, e_if_lt, e_if_ge, e_if_gt, e_if_le, e_icmp_eq, e_icmp_ne, e_icmp_lt, e_icmp_ge, e_icmp_gt, e_icmp_le, e_tsw, e_ret0, e_ret1, e_retn, e_getI, e_getZ, e_getV, e_getC, e_putI, e_putZ, e_putF, e_gst0, e_gst1, e_sld, e_iald, e_cald, e_bald, e_iast, e_cast, e_aald, e_aast, e_alen, e_slen, e_blen, e_newa, e_newq, e_new, e_oinit, e_ctor, e_virt, e_stat, e_min, e_copy, e_ldc, f_al0, f_il0, f_ii0, f_al1, f_il1, f_ii1, f_al2, f_il2, f_ii2, f_al3, f_il3, f_ii3, f_al4, f_il4, f_ii4, f_al5, f_il5, f_ii5, f_al6, f_il6, f_ii6, f_al7, f_il7, f_ii7, f_al8, f_il8, f_ii8, f_al9, f_il9, f_ii9, f_getR, List.cons_append, List.nil_append, List.append_nil, List.length_cons, List.length_nil, List.replicate_succ, List.replicate_zero, List.getElem?_cons_zero, List.getElem?_cons_succ, List.set_cons_zero, List.set_cons_succ, List.take_succ_cons, List.take_zero, List.drop_succ_cons, List.drop_zero, List.reverse_cons, List.reverse_nil, Option.toList_some, Option.toList_none, Nat.reduceSub, Nat.reduceAdd, Nat.reduceLeDiff, true_and, and_true, and_self, Option.some.injEq, exists_eq_left', Nat.zero_add, Value.int.injEq, Value.ref.injEq, List.cons.injEq, exists_and_left, and_assoc, exists_eq_left, List.all_cons, List.all_nil, m1_i, m1_r, Bool.and_self, Bool.and_true, q4, qw, n_in, n_cl, true_or, or_true, o_add_l, not_true_eq_false, not_false_eq_true, or_true, true_or, or_false, false_or, false_and, and_false, Nat.reduceEqDiff, Nat.reduceLT, Nat.reduceMul, Nat.not_lt_zero, Nat.zero_le, Nat.le_refl, ne_eq, ↓reduceIte, reduceCtorEq]
    have pO : ∀ x, x < 33 + 30 * k → K'.2.2.1 x = K.2.2.1 x := fun x hx => by rw [p2 x (by omega)]; exact sh_ne (by omega)
    have pR : ∀ x, x < 33 + 30 * k → R' x = R x := fun x hx => by rw [(p3 x hx).1]; funext j; exact if_neg (by omega)
    have pI : ∀ x, x < 33 + 30 * k → I' x = I x := fun x hx => by rw [(p3 x hx).2]; funext j; exact if_neg (by omega)
    have pR2 : ∀ x, x ≠ 32 → mSetR R' 32 k (some (33 + 30 * k)) x = R' x := fun x hx => by funext j; exact sR_nj (by omega)
    refine ih (k + 1) (by omega) _ _ _ ⟨by omega, ?_, ⟨?_, fun x hx => ?_, fun x hx => ⟨?_, ?_⟩⟩, q4, ?_, ?_, fun s hs1 => ?_⟩
    · rw [g2]; show K.2.1 + 9 + 658 = _; omega
    · rw [p1]; exact f1
    · rw [pO x (by omega)]; exact f2 x hx
    · rw [pR2 x (by omega), pR x (by omega)]; exact (f3 x hx).1
    · rw [pI x (by omega)]; exact (f3 x hx).2
    · rw [pR2 _ (by omega), pR _ (by omega)]; exact h5
    · rw [pI 31 (by omega)]; exact h6
    · by_cases e : s = k
      · subst e
        exact ⟨sR_eq, zS_ext g4 (fun x _ _ => rfl) (fun x x1 _ => pR2 _ (by omega))⟩
      · obtain ⟨z1, z2⟩ := h8 s (by omega)
        refine ⟨?_, zS_ext z2 (fun x x1 x2 => pO x (by omega)) (fun x x1 x2 => by rw [pR2 _ (by omega), pR _ (by omega)])⟩
        rw [sR_nj (by omega), pR _ (by omega)]; exact z1
set_option maxHeartbeats 4000000 in
theorem i_hist {K : mK} {R : Nat → Nat → Option Nat} {I : Nat → Nat → Int32} (h1 : K.1 = 32) (hs : K.2.2.1 31 = (1, 1)) : EvM 8 [.ref 31] (K, R, I) (fun v k => v = none ∧ ∃ K' R' I', k = (K', R', I') ∧ K'.1 = 153 ∧ K'.2.1 = K.2.1 + 2672 ∧ fr K R I K' R' I' 31 ∧ zH K' R' (fun j => j) ∧ I' 31 1 = 0) := by
  simp (disch := omega) only [e_iconst, e_bipush, e_sipush, e_istore_n, e_istore, e_astore_n, e_astore, e_iadd, e_isub, e_imul, e_iand, e_ishr, e_idiv, e_i2c, e_dup_i, e_dup_r, e_dup2, e_pop, e_goto, e_nop, e_if_eq, e_if_ne, e_if_lt, e_if_ge, e_if_gt, e_if_le, e_icmp_eq, e_icmp_ne, e_icmp_lt, e_icmp_ge, e_icmp_gt, e_icmp_le, e_tsw, e_ret0, e_ret1, e_retn, e_getI, e_getZ, e_getV, e_getC, e_putI, e_putZ, e_putF, e_gst0, e_gst1, e_sld, e_iald, e_cald, e_bald, e_iast, e_cast, e_aald, e_aast, e_alen, e_slen, e_blen, e_newa, e_newq, e_new, e_oinit, e_ctor, e_virt, e_stat, e_min, e_copy, e_ldc, f_al0, f_il0, f_ii0, f_al1, f_il1, f_ii1, f_al2, f_il2, f_ii2, f_al3, f_il3, f_ii3, f_al4, f_il4, f_ii4, f_al5, f_il5, f_ii5, f_al6, f_il6, f_ii6, f_al7, f_il7, f_ii7, f_al8, f_il8, f_ii8, f_al9, f_il9, f_ii9, f_getR, List.cons_append, List.nil_append, List.append_nil, List.length_cons, List.length_nil, List.replicate_succ, List.replicate_zero, List.getElem?_cons_zero, List.getElem?_cons_succ, List.set_cons_zero, List.set_cons_succ, List.take_succ_cons, List.take_zero, List.drop_succ_cons, List.drop_zero, List.reverse_cons, List.reverse_nil, Option.toList_some, Option.toList_none, Nat.reduceSub, Nat.reduceAdd, Nat.reduceLeDiff, true_and, and_true, and_self, Option.some.injEq, exists_eq_left', Nat.zero_add, Value.int.injEq, Value.ref.injEq, List.cons.injEq, exists_and_left, and_assoc, exists_eq_left, List.all_cons, List.all_nil, m1_i, m1_r, Bool.and_self, Bool.and_true, E_in 8, N_8, B_8_0, bk_8_0, hs, h1, sh_ne, sh_eq, o_le, o_cl, o_eq, t_lt, true_or, or_true, not_true_eq_false, not_false_eq_true, or_true, true_or, or_false, false_or, false_and, and_false, Nat.reduceEqDiff, Nat.reduceLT, Nat.reduceMul, Nat.not_lt_zero, Nat.zero_le, Nat.le_refl, ne_eq, ↓reduceIte, reduceCtorEq]
  refine Ev_mono ?_ (ih_loop (K0 := K) (R0 := R) (I0 := I) hs 4 0 (by omega) _ _ _ ⟨rfl, rfl, ⟨rfl, fun x hx => sh_ne (by omega), fun x hx => ⟨?_, ?_⟩⟩, rfl, rfl, rfl, fun s hs1 => absurd hs1 (by omega)⟩)
  · rintro v h ⟨rfl, K2, R2, I2, rfl, h1, h2, h3, h4, h5, h6, h8⟩
    exact ⟨rfl, K2, R2, I2, rfl, by omega, by omega, h3, ⟨by rw [h3.2.1 31 (by omega)]; exact hs, h5, h4, fun j hj => (h8 j hj).1, fun j hj => hj, fun i j _ _ e => e, fun q hq => (h8 q hq).2⟩, h6⟩
  · funext j
    rw [sR_nj (by omega)]
    exact if_neg (by omega)
  · funext j
    exact s_ne (by omega)
def mainPost (K : mK) (v : Option Value) (k : mH) : Prop := v = none ∧ ∃ K' R' I', k = (K', R', I') ∧ K'.1 = 194 ∧ K'.2.1 = K.2.1 + 4237 ∧ K'.2.2.2 = K.2.2.2 ∧ (zS K' R' 1 ∧ zS K' R' 153 ∧ zH K' R' (fun j => j) ∧ zW K' R' 190 ∧ zR K' R' 186 ∧ zR K' R' 188 ∧
  (K'.2.2.1 0 = (1, 7) ∧ R' 0 0 = some 1 ∧ R' 0 1 = some 31 ∧ R' 0 2 = some 153 ∧ R' 0 4 = some 183 ∧ R' 0 5 = some 185 ∧ R' 0 6 = some 186 ∧ R' 0 7 = some 188 ∧ R' 0 8 = some 190) ∧
  (K'.2.2.1 183 = (1, 5) ∧ R' 183 0 = some 184 ∧ K'.2.2.1 184 = (3, 50)) ∧ K'.2.2.1 185 = (1, 0)) ∧ (∀ x j, 1 ≤ x → x < 31 → x ≠ 2 → I' x j = if x = 1 ∧ j = 3 then 130 else 0) ∧ I' 31 1 = 0 ∧ I' 0 3 = 0 ∧ I' 183 1 = 0
set_option maxHeartbeats 8000000 in
theorem i_main {K : mK} {R : Nat → Nat → Option Nat} {I : Nat → Nat → Int32} (h1 : K.1 = 1) (hs : K.2.2.1 0 = (1, 7)) : EvM 58 [.ref 0] (K, R, I) (mainPost K) := by
  rw [E_in 58, B_58_0]
  simp (disch := omega) only [e_iconst, e_bipush, e_sipush, e_istore_n, e_istore, e_astore_n, e_astore, e_iadd, e_isub, e_imul, e_iand, e_ishr, e_idiv, e_i2c, e_dup_i, e_dup_r, e_dup2, e_pop, e_goto, e_nop, e_if_eq, e_if_ne, e_if_lt, e_if_ge, e_if_gt, e_if_le, e_icmp_eq, e_icmp_ne, e_icmp_lt, e_icmp_ge, e_icmp_gt, e_icmp_le, e_tsw, e_ret0, e_ret1, e_retn, e_getI, e_getZ, e_getV, e_getC, e_putI, e_putZ, e_putF, e_gst0, e_gst1, e_sld, e_iald, e_cald, e_bald, e_iast, e_cast, e_aald, e_aast, e_alen, e_slen, e_blen, e_newa, e_newq, e_new, e_oinit, e_ctor, e_virt, e_stat, e_min, e_copy, e_ldc, f_al0, f_il0, f_ii0, f_al1, f_il1, f_ii1, f_al2, f_il2, f_ii2, f_al3, f_il3, f_ii3, f_al4, f_il4, f_ii4, f_al5, f_il5, f_ii5, f_al6, f_il6, f_ii6, f_al7, f_il7, f_ii7, f_al8, f_il8, f_ii8, f_al9, f_il9, f_ii9, f_getR, List.cons_append, List.nil_append, List.append_nil, List.length_cons, List.length_nil, List.replicate_succ, List.replicate_zero, List.getElem?_cons_zero, List.getElem?_cons_succ, List.set_cons_zero, List.set_cons_succ, List.take_succ_cons, List.take_zero, List.drop_succ_cons, List.drop_zero, List.reverse_cons, List.reverse_nil, Option.toList_some, Option.toList_none, Nat.reduceSub, Nat.reduceAdd, Nat.reduceLeDiff, true_and, and_true, and_self, Option.some.injEq, exists_eq_left', Nat.zero_add, Value.int.injEq, Value.ref.injEq, List.cons.injEq, exists_and_left, and_assoc, exists_eq_left, List.all_cons, List.all_nil, m1_i, m1_r, Bool.and_self, Bool.and_true, N_58, bk_58_0, hs, h1, t_lt, not_true_eq_false, not_false_eq_true, or_true, true_or, or_false, false_or, false_and, and_false, Nat.reduceEqDiff, Nat.reduceLT, Nat.reduceMul, Nat.not_lt_zero, Nat.zero_le, Nat.le_refl, ne_eq, ↓reduceIte, reduceCtorEq]
  refine EvM_mono ?_ (i_state (a := 1) rfl (by omega) rfl (fun j => if_pos rfl))
  rintro v h ⟨rfl, K1, R1, I1, rfl, n1, c1, ⟨s1, k1, r1⟩, z1, v1⟩
  have e1K : ∀ x, x < 1 → K1.2.2.1 x = K.2.2.1 x := fun x hx => by rw [k1 x (by omega)]; exact sh_ne (by omega)
  have e1R : ∀ x, x < 1 → R1 x = R x := fun x hx => by rw [(r1 x hx).1]; funext j; exact if_neg (by omega)
  have h0_1 : K1.2.2.1 0 = (1, 7) := by rw [e1K 0 (by omega)]; exact hs
  simp (disch := omega) only [e_iconst, e_bipush, e_sipush, e_istore_n, e_istore, e_astore_n, e_astore, e_iadd, e_isub, e_imul, e_iand, e_ishr, e_idiv, e_i2c, e_dup_i, e_dup_r, e_dup2, e_pop, e_goto, e_nop, e_if_eq, e_if_ne, e_if_lt, e_if_ge, e_if_gt, e_if_le, e_icmp_eq, e_icmp_ne, e_icmp_lt, e_icmp_ge, e_icmp_gt, e_icmp_le, e_tsw, e_ret0, e_ret1, e_retn, e_getI, e_getZ, e_getV, e_getC, e_putI, e_putZ, e_putF, e_gst0, e_gst1, e_sld, e_iald, e_cald, e_bald, e_iast, e_cast, e_aald, e_aast, e_alen, e_slen, e_blen, e_newa, e_newq, e_new, e_oinit, e_ctor, e_virt, e_stat, e_min, e_copy, e_ldc, f_al0, f_il0, f_ii0, f_al1, f_il1, f_ii1, f_al2, f_il2, f_ii2, f_al3, f_il3, f_ii3, f_al4, f_il4, f_ii4, f_al5, f_il5, f_ii5, f_al6, f_il6, f_ii6, f_al7, f_il7, f_ii7, f_al8, f_il8, f_ii8, f_al9, f_il9, f_ii9, f_getR, List.cons_append, List.nil_append, List.append_nil, List.length_cons, List.length_nil, List.replicate_succ, List.replicate_zero, List.getElem?_cons_zero, List.getElem?_cons_succ, List.set_cons_zero, List.set_cons_succ, List.take_succ_cons, List.take_zero, List.drop_succ_cons, List.drop_zero, List.reverse_cons, List.reverse_nil, Option.toList_some, Option.toList_none, Nat.reduceSub, Nat.reduceAdd, Nat.reduceLeDiff, true_and, and_true, and_self, Option.some.injEq, exists_eq_left', Nat.zero_add, Value.int.injEq, Value.ref.injEq, List.cons.injEq, exists_and_left, and_assoc, exists_eq_left, List.all_cons, List.all_nil, m1_i, m1_r, Bool.and_self, Bool.and_true, h0_1, n1, t_lt, o_eq, not_true_eq_false, not_false_eq_true, or_true, true_or, or_false, false_or, false_and, and_false, Nat.reduceEqDiff, Nat.reduceLT, Nat.reduceMul, Nat.not_lt_zero, Nat.zero_le, Nat.le_refl, ne_eq, ↓reduceIte, reduceCtorEq]
  refine EvM_mono ?_ (i_hist rfl rfl )
  rintro v h ⟨rfl, K2, R2, I2, rfl, n2, c2, ⟨s2, k2, r2⟩, z2, v2⟩
  have e2K : ∀ x, x < 31 → K2.2.2.1 x = K1.2.2.1 x := fun x hx => by rw [k2 x (by omega)]; exact sh_ne (by omega)
  have e2R : ∀ x, x < 31 → x ≠ 0 → R2 x = R1 x := fun x hx h0 => by rw [(r2 x hx).1]; funext j; show (if x = 31 then none else mSetR R1 0 0 (some 1) x j) = _; rw [if_neg (by omega), sR_nj (by omega)]
  have e2Q : ∀ j, R2 0 j = if j = 0 then some 1 else R1 0 j := fun j => by
    rw [(r2 0 (by omega)).1]; show (if 0 = 31 then none else mSetR R1 0 0 (some 1) 0 j) = _; rw [if_neg (by omega)]; unfold mSetR; by_cases e : j = 0
    · rw [if_pos ⟨rfl, e⟩, if_pos e]
    · rw [if_neg (fun q => e q.2), if_neg e]
  have e2I : ∀ x, x < 31 → I2 x = I1 x := fun x hx => by rw [(r2 x hx).2]; funext j; exact if_neg (by omega)
  have h0_2 : K2.2.2.1 0 = (1, 7) := by rw [e2K 0 (by omega)]; exact h0_1
  simp (disch := omega) only [e_iconst, e_bipush, e_sipush, e_istore_n, e_istore, e_astore_n, e_astore, e_iadd, e_isub, e_imul, e_iand, e_ishr, e_idiv, e_i2c, e_dup_i, e_dup_r, e_dup2, e_pop, e_goto, e_nop, e_if_eq, e_if_ne, e_if_lt, e_if_ge, e_if_gt, e_if_le, e_icmp_eq, e_icmp_ne, e_icmp_lt, e_icmp_ge, e_icmp_gt, e_icmp_le, e_tsw, e_ret0, e_ret1, e_retn, e_getI, e_getZ, e_getV, e_getC, e_putI, e_putZ, e_putF, e_gst0, e_gst1, e_sld, e_iald, e_cald, e_bald, e_iast, e_cast, e_aald, e_aast, e_alen, e_slen, e_blen, e_newa, e_newq, e_new, e_oinit, e_ctor, e_virt, e_stat, e_min, e_copy, e_ldc, f_al0, f_il0, f_ii0, f_al1, f_il1, f_ii1, f_al2, f_il2, f_ii2, f_al3, f_il3, f_ii3, f_al4, f_il4, f_ii4, f_al5, f_il5, f_ii5, f_al6, f_il6, f_ii6, f_al7, f_il7, f_ii7, f_al8, f_il8, f_ii8, f_al9, f_il9, f_ii9, f_getR, List.cons_append, List.nil_append, List.append_nil, List.length_cons, List.length_nil, List.replicate_succ, List.replicate_zero, List.getElem?_cons_zero, List.getElem?_cons_succ, List.set_cons_zero, List.set_cons_succ, List.take_succ_cons, List.take_zero, List.drop_succ_cons, List.drop_zero, List.reverse_cons, List.reverse_nil, Option.toList_some, Option.toList_none, Nat.reduceSub, Nat.reduceAdd, Nat.reduceLeDiff, true_and, and_true, and_self, Option.some.injEq, exists_eq_left', Nat.zero_add, Value.int.injEq, Value.ref.injEq, List.cons.injEq, exists_and_left, and_assoc, exists_eq_left, List.all_cons, List.all_nil, m1_i, m1_r, Bool.and_self, Bool.and_true, h0_2, n2, t_lt, o_eq, not_true_eq_false, not_false_eq_true, or_true, true_or, or_false, false_or, false_and, and_false, Nat.reduceEqDiff, Nat.reduceLT, Nat.reduceMul, Nat.not_lt_zero, Nat.zero_le, Nat.le_refl, ne_eq, ↓reduceIte, reduceCtorEq]
  refine EvM_mono ?_ (i_state (a := 153) rfl (by omega) rfl (fun j => if_pos rfl))
  rintro v h ⟨rfl, K3, R3, I3, rfl, n3, c3, ⟨s3, k3, r3⟩, z3, v3⟩
  have e3K : ∀ x, x < 153 → K3.2.2.1 x = K2.2.2.1 x := fun x hx => by rw [k3 x (by omega)]; exact sh_ne (by omega)
  have e3R : ∀ x, x < 153 → x ≠ 0 → R3 x = R2 x := fun x hx h0 => by rw [(r3 x hx).1]; funext j; show (if x = 153 then none else mSetR R2 0 1 (some 31) x j) = _; rw [if_neg (by omega), sR_nj (by omega)]
  have e3Q : ∀ j, R3 0 j = if j = 1 then some 31 else R2 0 j := fun j => by
    rw [(r3 0 (by omega)).1]; show (if 0 = 153 then none else mSetR R2 0 1 (some 31) 0 j) = _; rw [if_neg (by omega)]; unfold mSetR; by_cases e : j = 1
    · rw [if_pos ⟨rfl, e⟩, if_pos e]
    · rw [if_neg (fun q => e q.2), if_neg e]
  have e3I : ∀ x, x < 153 → I3 x = I2 x := fun x hx => by rw [(r3 x hx).2]; funext j; exact if_neg (by omega)
  have h0_3 : K3.2.2.1 0 = (1, 7) := by rw [e3K 0 (by omega)]; exact h0_2
  simp (disch := omega) only [e_iconst, e_bipush, e_sipush, e_istore_n, e_istore, e_astore_n, e_astore, e_iadd, e_isub, e_imul, e_iand, e_ishr, e_idiv, e_i2c, e_dup_i, e_dup_r, e_dup2, e_pop, e_goto, e_nop, e_if_eq, e_if_ne, e_if_lt, e_if_ge, e_if_gt, e_if_le, e_icmp_eq, e_icmp_ne, e_icmp_lt, e_icmp_ge, e_icmp_gt, e_icmp_le, e_tsw, e_ret0, e_ret1, e_retn, e_getI, e_getZ, e_getV, e_getC, e_putI, e_putZ, e_putF, e_gst0, e_gst1, e_sld, e_iald, e_cald, e_bald, e_iast, e_cast, e_aald, e_aast, e_alen, e_slen, e_blen, e_newa, e_newq, e_new, e_oinit, e_ctor, e_virt, e_stat, e_min, e_copy, e_ldc, f_al0, f_il0, f_ii0, f_al1, f_il1, f_ii1, f_al2, f_il2, f_ii2, f_al3, f_il3, f_ii3, f_al4, f_il4, f_ii4, f_al5, f_il5, f_ii5, f_al6, f_il6, f_ii6, f_al7, f_il7, f_ii7, f_al8, f_il8, f_ii8, f_al9, f_il9, f_ii9, f_getR, List.cons_append, List.nil_append, List.append_nil, List.length_cons, List.length_nil, List.replicate_succ, List.replicate_zero, List.getElem?_cons_zero, List.getElem?_cons_succ, List.set_cons_zero, List.set_cons_succ, List.take_succ_cons, List.take_zero, List.drop_succ_cons, List.drop_zero, List.reverse_cons, List.reverse_nil, Option.toList_some, Option.toList_none, Nat.reduceSub, Nat.reduceAdd, Nat.reduceLeDiff, true_and, and_true, and_self, Option.some.injEq, exists_eq_left', Nat.zero_add, Value.int.injEq, Value.ref.injEq, List.cons.injEq, exists_and_left, and_assoc, exists_eq_left, List.all_cons, List.all_nil, m1_i, m1_r, Bool.and_self, Bool.and_true, h0_3, n3, t_lt, o_eq, not_true_eq_false, not_false_eq_true, or_true, true_or, or_false, false_or, false_and, and_false, Nat.reduceEqDiff, Nat.reduceLT, Nat.reduceMul, Nat.not_lt_zero, Nat.zero_le, Nat.le_refl, ne_eq, ↓reduceIte, reduceCtorEq]
  refine EvM_mono ?_ (i_text (a := 183) rfl (by omega) rfl )
  rintro v h ⟨rfl, K4, R4, I4, rfl, n4, c4, ⟨s4, k4, r4⟩, y4, z4, v4⟩
  have e4K : ∀ x, x < 183 → K4.2.2.1 x = K3.2.2.1 x := fun x hx => by rw [k4 x (by omega)]; exact sh_ne (by omega)
  have e4R : ∀ x, x < 183 → x ≠ 0 → R4 x = R3 x := fun x hx h0 => by rw [(r4 x hx).1]; funext j; show (if x = 183 then none else mSetR R3 0 2 (some 153) x j) = _; rw [if_neg (by omega), sR_nj (by omega)]
  have e4Q : ∀ j, R4 0 j = if j = 2 then some 153 else R3 0 j := fun j => by
    rw [(r4 0 (by omega)).1]; show (if 0 = 183 then none else mSetR R3 0 2 (some 153) 0 j) = _; rw [if_neg (by omega)]; unfold mSetR; by_cases e : j = 2
    · rw [if_pos ⟨rfl, e⟩, if_pos e]
    · rw [if_neg (fun q => e q.2), if_neg e]
  have e4I : ∀ x j, x < 183 → I4 x j = mSet I3 0 3 0 x j := fun x j hx => by rw [(r4 x hx).2]; exact if_neg (by omega)
  have h0_4 : K4.2.2.1 0 = (1, 7) := by rw [e4K 0 (by omega)]; exact h0_3
  simp (disch := omega) only [e_iconst, e_bipush, e_sipush, e_istore_n, e_istore, e_astore_n, e_astore, e_iadd, e_isub, e_imul, e_iand, e_ishr, e_idiv, e_i2c, e_dup_i, e_dup_r, e_dup2, e_pop, e_goto, e_nop, e_if_eq, e_if_ne, e_if_lt, e_if_ge, e_if_gt, e_if_le, e_icmp_eq, e_icmp_ne, e_icmp_lt, e_icmp_ge, e_icmp_gt, e_icmp_le, e_tsw, e_ret0, e_ret1, e_retn, e_getI, e_getZ, e_getV, e_getC, e_putI, e_putZ, e_putF, e_gst0, e_gst1, e_sld, e_iald, e_cald, e_bald, e_iast, e_cast, e_aald, e_aast, e_alen, e_slen, e_blen, e_newa, e_newq, e_new, e_oinit, e_ctor, e_virt, e_stat, e_min, e_copy, e_ldc, f_al0, f_il0, f_ii0, f_al1, f_il1, f_ii1, f_al2, f_il2, f_ii2, f_al3, f_il3, f_ii3, f_al4, f_il4, f_ii4, f_al5, f_il5, f_ii5, f_al6, f_il6, f_ii6, f_al7, f_il7, f_ii7, f_al8, f_il8, f_ii8, f_al9, f_il9, f_ii9, f_getR, List.cons_append, List.nil_append, List.append_nil, List.length_cons, List.length_nil, List.replicate_succ, List.replicate_zero, List.getElem?_cons_zero, List.getElem?_cons_succ, List.set_cons_zero, List.set_cons_succ, List.take_succ_cons, List.take_zero, List.drop_succ_cons, List.drop_zero, List.reverse_cons, List.reverse_nil, Option.toList_some, Option.toList_none, Nat.reduceSub, Nat.reduceAdd, Nat.reduceLeDiff, true_and, and_true, and_self, Option.some.injEq, exists_eq_left', Nat.zero_add, Value.int.injEq, Value.ref.injEq, List.cons.injEq, exists_and_left, and_assoc, exists_eq_left, List.all_cons, List.all_nil, m1_i, m1_r, Bool.and_self, Bool.and_true, h0_4, n4, t_lt, o_eq, not_true_eq_false, not_false_eq_true, or_true, true_or, or_false, false_or, false_and, and_false, Nat.reduceEqDiff, Nat.reduceLT, Nat.reduceMul, Nat.not_lt_zero, Nat.zero_le, Nat.le_refl, ne_eq, ↓reduceIte, reduceCtorEq]
  refine EvM_mono ?_ (i_cmd (a := 185) rfl (by omega) rfl )
  rintro v h ⟨rfl, I5, rfl, r5⟩
  obtain ⟨K5, hK5⟩ : ∃ K5, K5 = ((185 + 1, K4.2.1 + 6, mShp K4.2.2.1 185 (1, 0), K4.2.2.2) : mK) := ⟨_, rfl⟩
  obtain ⟨R5, hR5⟩ : ∃ R5, R5 = (fun b j => if b = 185 then none else mSetR R4 0 4 (some 183) b j : Nat → Nat → Option Nat) := ⟨_, rfl⟩
  simp only [← hK5, ← hR5]
  have n5 : K5.1 = 186 := by rw [hK5]
  have e5K : ∀ x, x < 185 → K5.2.2.1 x = K4.2.2.1 x := fun x hx => by rw [hK5]; exact sh_ne (by omega)
  have e5R : ∀ x, x < 185 → x ≠ 0 → R5 x = R4 x := fun x hx h0 => by rw [hR5]; funext j; show (if x = 185 then none else mSetR R4 0 4 (some 183) x j) = _; rw [if_neg (by omega), sR_nj (by omega)]
  have e5Q : ∀ j, R5 0 j = if j = 4 then some 183 else R4 0 j := fun j => by
    rw [hR5]; show (if 0 = 185 then none else mSetR R4 0 4 (some 183) 0 j) = _; rw [if_neg (by omega)]; unfold mSetR; by_cases e : j = 4
    · rw [if_pos ⟨rfl, e⟩, if_pos e]
    · rw [if_neg (fun q => e q.2), if_neg e]
  have e5I : ∀ x, x < 185 → I5 x = I4 x := fun x hx => by rw [r5 x hx]; funext j; exact if_neg (by omega)
  have z5 : K5.2.2.1 185 = (1, 0) := by rw [hK5]; rfl
  have c5 : K5.2.1 = K4.2.1 + 6 := by rw [hK5]
  have s5 : K5.2.2.2 = K4.2.2.2 := by rw [hK5]
  have h0_5 : K5.2.2.1 0 = (1, 7) := by rw [e5K 0 (by omega)]; exact h0_4
  simp (disch := omega) only [e_iconst, e_bipush, e_sipush, e_istore_n, e_istore, e_astore_n, e_astore, e_iadd, e_isub, e_imul, e_iand, e_ishr, e_idiv, e_i2c, e_dup_i, e_dup_r, e_dup2, e_pop, e_goto, e_nop, e_if_eq, e_if_ne, e_if_lt, e_if_ge, e_if_gt, e_if_le, e_icmp_eq, e_icmp_ne, e_icmp_lt, e_icmp_ge, e_icmp_gt, e_icmp_le, e_tsw, e_ret0, e_ret1, e_retn, e_getI, e_getZ, e_getV, e_getC, e_putI, e_putZ, e_putF, e_gst0, e_gst1, e_sld, e_iald, e_cald, e_bald, e_iast, e_cast, e_aald, e_aast, e_alen, e_slen, e_blen, e_newa, e_newq, e_new, e_oinit, e_ctor, e_virt, e_stat, e_min, e_copy, e_ldc, f_al0, f_il0, f_ii0, f_al1, f_il1, f_ii1, f_al2, f_il2, f_ii2, f_al3, f_il3, f_ii3, f_al4, f_il4, f_ii4, f_al5, f_il5, f_ii5, f_al6, f_il6, f_ii6, f_al7, f_il7, f_ii7, f_al8, f_il8, f_ii8, f_al9, f_il9, f_ii9, f_getR, List.cons_append, List.nil_append, List.append_nil, List.length_cons, List.length_nil, List.replicate_succ, List.replicate_zero, List.getElem?_cons_zero, List.getElem?_cons_succ, List.set_cons_zero, List.set_cons_succ, List.take_succ_cons, List.take_zero, List.drop_succ_cons, List.drop_zero, List.reverse_cons, List.reverse_nil, Option.toList_some, Option.toList_none, Nat.reduceSub, Nat.reduceAdd, Nat.reduceLeDiff, true_and, and_true, and_self, Option.some.injEq, exists_eq_left', Nat.zero_add, Value.int.injEq, Value.ref.injEq, List.cons.injEq, exists_and_left, and_assoc, exists_eq_left, List.all_cons, List.all_nil, m1_i, m1_r, Bool.and_self, Bool.and_true, h0_5, n5, t_lt, o_eq, not_true_eq_false, not_false_eq_true, or_true, true_or, or_false, false_or, false_and, and_false, Nat.reduceEqDiff, Nat.reduceLT, Nat.reduceMul, Nat.not_lt_zero, Nat.zero_le, Nat.le_refl, ne_eq, ↓reduceIte, reduceCtorEq]
  refine EvM_mono ?_ (i_reader (a := 186) rfl (by omega) rfl )
  rintro v h ⟨rfl, K6, R6, I6, rfl, n6, c6, ⟨s6, k6, r6⟩, z6⟩
  have e6K : ∀ x, x < 186 → K6.2.2.1 x = K5.2.2.1 x := fun x hx => by rw [k6 x (by omega)]; exact sh_ne (by omega)
  have e6R : ∀ x, x < 186 → x ≠ 0 → R6 x = R5 x := fun x hx h0 => by rw [(r6 x hx).1]; funext j; show (if x = 186 then none else mSetR R5 0 5 (some 185) x j) = _; rw [if_neg (by omega), sR_nj (by omega)]
  have e6Q : ∀ j, R6 0 j = if j = 5 then some 185 else R5 0 j := fun j => by
    rw [(r6 0 (by omega)).1]; show (if 0 = 186 then none else mSetR R5 0 5 (some 185) 0 j) = _; rw [if_neg (by omega)]; unfold mSetR; by_cases e : j = 5
    · rw [if_pos ⟨rfl, e⟩, if_pos e]
    · rw [if_neg (fun q => e q.2), if_neg e]
  have e6I : ∀ x, x < 186 → I6 x = I5 x := fun x hx => by rw [(r6 x hx).2]; funext j; exact if_neg (by omega)
  have h0_6 : K6.2.2.1 0 = (1, 7) := by rw [e6K 0 (by omega)]; exact h0_5
  simp (disch := omega) only [e_iconst, e_bipush, e_sipush, e_istore_n, e_istore, e_astore_n, e_astore, e_iadd, e_isub, e_imul, e_iand, e_ishr, e_idiv, e_i2c, e_dup_i, e_dup_r, e_dup2, e_pop, e_goto, e_nop, e_if_eq, e_if_ne, e_if_lt, e_if_ge, e_if_gt, e_if_le, e_icmp_eq, e_icmp_ne, e_icmp_lt, e_icmp_ge, e_icmp_gt, e_icmp_le, e_tsw, e_ret0, e_ret1, e_retn, e_getI, e_getZ, e_getV, e_getC, e_putI, e_putZ, e_putF, e_gst0, e_gst1, e_sld, e_iald, e_cald, e_bald, e_iast, e_cast, e_aald, e_aast, e_alen, e_slen, e_blen, e_newa, e_newq, e_new, e_oinit, e_ctor, e_virt, e_stat, e_min, e_copy, e_ldc, f_al0, f_il0, f_ii0, f_al1, f_il1, f_ii1, f_al2, f_il2, f_ii2, f_al3, f_il3, f_ii3, f_al4, f_il4, f_ii4, f_al5, f_il5, f_ii5, f_al6, f_il6, f_ii6, f_al7, f_il7, f_ii7, f_al8, f_il8, f_ii8, f_al9, f_il9, f_ii9, f_getR, List.cons_append, List.nil_append, List.append_nil, List.length_cons, List.length_nil, List.replicate_succ, List.replicate_zero, List.getElem?_cons_zero, List.getElem?_cons_succ, List.set_cons_zero, List.set_cons_succ, List.take_succ_cons, List.take_zero, List.drop_succ_cons, List.drop_zero, List.reverse_cons, List.reverse_nil, Option.toList_some, Option.toList_none, Nat.reduceSub, Nat.reduceAdd, Nat.reduceLeDiff, true_and, and_true, and_self, Option.some.injEq, exists_eq_left', Nat.zero_add, Value.int.injEq, Value.ref.injEq, List.cons.injEq, exists_and_left, and_assoc, exists_eq_left, List.all_cons, List.all_nil, m1_i, m1_r, Bool.and_self, Bool.and_true, h0_6, n6, t_lt, o_eq, not_true_eq_false, not_false_eq_true, or_true, true_or, or_false, false_or, false_and, and_false, Nat.reduceEqDiff, Nat.reduceLT, Nat.reduceMul, Nat.not_lt_zero, Nat.zero_le, Nat.le_refl, ne_eq, ↓reduceIte, reduceCtorEq]
  refine EvM_mono ?_ (i_reader (a := 188) rfl (by omega) rfl )
  rintro v h ⟨rfl, K7, R7, I7, rfl, n7, c7, ⟨s7, k7, r7⟩, z7⟩
  have e7K : ∀ x, x < 188 → K7.2.2.1 x = K6.2.2.1 x := fun x hx => by rw [k7 x (by omega)]; exact sh_ne (by omega)
  have e7R : ∀ x, x < 188 → x ≠ 0 → R7 x = R6 x := fun x hx h0 => by rw [(r7 x hx).1]; funext j; show (if x = 188 then none else mSetR R6 0 6 (some 186) x j) = _; rw [if_neg (by omega), sR_nj (by omega)]
  have e7Q : ∀ j, R7 0 j = if j = 6 then some 186 else R6 0 j := fun j => by
    rw [(r7 0 (by omega)).1]; show (if 0 = 188 then none else mSetR R6 0 6 (some 186) 0 j) = _; rw [if_neg (by omega)]; unfold mSetR; by_cases e : j = 6
    · rw [if_pos ⟨rfl, e⟩, if_pos e]
    · rw [if_neg (fun q => e q.2), if_neg e]
  have e7I : ∀ x, x < 188 → I7 x = I6 x := fun x hx => by rw [(r7 x hx).2]; funext j; exact if_neg (by omega)
  have h0_7 : K7.2.2.1 0 = (1, 7) := by rw [e7K 0 (by omega)]; exact h0_6
  simp (disch := omega) only [e_iconst, e_bipush, e_sipush, e_istore_n, e_istore, e_astore_n, e_astore, e_iadd, e_isub, e_imul, e_iand, e_ishr, e_idiv, e_i2c, e_dup_i, e_dup_r, e_dup2, e_pop, e_goto, e_nop, e_if_eq, e_if_ne, e_if_lt, e_if_ge, e_if_gt, e_if_le, e_icmp_eq, e_icmp_ne, e_icmp_lt, e_icmp_ge, e_icmp_gt, e_icmp_le, e_tsw, e_ret0, e_ret1, e_retn, e_getI, e_getZ, e_getV, e_getC, e_putI, e_putZ, e_putF, e_gst0, e_gst1, e_sld, e_iald, e_cald, e_bald, e_iast, e_cast, e_aald, e_aast, e_alen, e_slen, e_blen, e_newa, e_newq, e_new, e_oinit, e_ctor, e_virt, e_stat, e_min, e_copy, e_ldc, f_al0, f_il0, f_ii0, f_al1, f_il1, f_ii1, f_al2, f_il2, f_ii2, f_al3, f_il3, f_ii3, f_al4, f_il4, f_ii4, f_al5, f_il5, f_ii5, f_al6, f_il6, f_ii6, f_al7, f_il7, f_ii7, f_al8, f_il8, f_ii8, f_al9, f_il9, f_ii9, f_getR, List.cons_append, List.nil_append, List.append_nil, List.length_cons, List.length_nil, List.replicate_succ, List.replicate_zero, List.getElem?_cons_zero, List.getElem?_cons_succ, List.set_cons_zero, List.set_cons_succ, List.take_succ_cons, List.take_zero, List.drop_succ_cons, List.drop_zero, List.reverse_cons, List.reverse_nil, Option.toList_some, Option.toList_none, Nat.reduceSub, Nat.reduceAdd, Nat.reduceLeDiff, true_and, and_true, and_self, Option.some.injEq, exists_eq_left', Nat.zero_add, Value.int.injEq, Value.ref.injEq, List.cons.injEq, exists_and_left, and_assoc, exists_eq_left, List.all_cons, List.all_nil, m1_i, m1_r, Bool.and_self, Bool.and_true, h0_7, n7, t_lt, o_eq, not_true_eq_false, not_false_eq_true, or_true, true_or, or_false, false_or, false_and, and_false, Nat.reduceEqDiff, Nat.reduceLT, Nat.reduceMul, Nat.not_lt_zero, Nat.zero_le, Nat.le_refl, ne_eq, ↓reduceIte, reduceCtorEq]
  refine EvM_mono ?_ (i_wire (a := 190) rfl (by omega) rfl (fun j => if_pos rfl))
  rintro v h ⟨rfl, K8, R8, I8, rfl, n8, c8, ⟨s8, k8, r8⟩, z8, v8⟩
  have e8K : ∀ x, x < 190 → K8.2.2.1 x = K7.2.2.1 x := fun x hx => by rw [k8 x (by omega)]; exact sh_ne (by omega)
  have e8R : ∀ x, x < 190 → x ≠ 0 → R8 x = R7 x := fun x hx h0 => by rw [(r8 x hx).1]; funext j; show (if x = 190 then none else mSetR R7 0 7 (some 188) x j) = _; rw [if_neg (by omega), sR_nj (by omega)]
  have e8Q : ∀ j, R8 0 j = if j = 7 then some 188 else R7 0 j := fun j => by
    rw [(r8 0 (by omega)).1]; show (if 0 = 190 then none else mSetR R7 0 7 (some 188) 0 j) = _; rw [if_neg (by omega)]; unfold mSetR; by_cases e : j = 7
    · rw [if_pos ⟨rfl, e⟩, if_pos e]
    · rw [if_neg (fun q => e q.2), if_neg e]
  have e8I : ∀ x, x < 190 → I8 x = I7 x := fun x hx => by rw [(r8 x hx).2]; funext j; exact if_neg (by omega)
  have h0_8 : K8.2.2.1 0 = (1, 7) := by rw [e8K 0 (by omega)]; exact h0_7
  simp (disch := omega) only [e_iconst, e_bipush, e_sipush, e_istore_n, e_istore, e_astore_n, e_astore, e_iadd, e_isub, e_imul, e_iand, e_ishr, e_idiv, e_i2c, e_dup_i, e_dup_r, e_dup2, e_pop, e_goto, e_nop, e_if_eq, e_if_ne, e_if_lt, e_if_ge, e_if_gt, e_if_le, e_icmp_eq, e_icmp_ne, e_icmp_lt, e_icmp_ge, e_icmp_gt, e_icmp_le, e_tsw, e_ret0, e_ret1, e_retn, e_getI, e_getZ, e_getV, e_getC, e_putI, e_putZ, e_putF, e_gst0, e_gst1, e_sld, e_iald, e_cald, e_bald, e_iast, e_cast, e_aald, e_aast, e_alen, e_slen, e_blen, e_newa, e_newq, e_new, e_oinit, e_ctor, e_virt, e_stat, e_min, e_copy, e_ldc, f_al0, f_il0, f_ii0, f_al1, f_il1, f_ii1, f_al2, f_il2, f_ii2, f_al3, f_il3, f_ii3, f_al4, f_il4, f_ii4, f_al5, f_il5, f_ii5, f_al6, f_il6, f_ii6, f_al7, f_il7, f_ii7, f_al8, f_il8, f_ii8, f_al9, f_il9, f_ii9, f_getR, List.cons_append, List.nil_append, List.append_nil, List.length_cons, List.length_nil, List.replicate_succ, List.replicate_zero, List.getElem?_cons_zero, List.getElem?_cons_succ, List.set_cons_zero, List.set_cons_succ, List.take_succ_cons, List.take_zero, List.drop_succ_cons, List.drop_zero, List.reverse_cons, List.reverse_nil, Option.toList_some, Option.toList_none, Nat.reduceSub, Nat.reduceAdd, Nat.reduceLeDiff, true_and, and_true, and_self, Option.some.injEq, exists_eq_left', Nat.zero_add, Value.int.injEq, Value.ref.injEq, List.cons.injEq, exists_and_left, and_assoc, exists_eq_left, List.all_cons, List.all_nil, m1_i, m1_r, Bool.and_self, Bool.and_true, h0_8, n8, t_lt, o_eq, not_true_eq_false, not_false_eq_true, or_true, true_or, or_false, false_or, false_and, and_false, Nat.reduceEqDiff, Nat.reduceLT, Nat.reduceMul, Nat.not_lt_zero, Nat.zero_le, Nat.le_refl, ne_eq, ↓reduceIte, reduceCtorEq]
  have t2K : ∀ x, x < 183 → K8.2.2.1 x = K3.2.2.1 x := fun x hx => by rw [e8K x (by omega), e7K x (by omega), e6K x (by omega), e5K x (by omega), e4K x (by omega)]
  have t2R : ∀ x, x < 183 → x ≠ 0 → mSetR R8 0 8 (some 190) x = R3 x := fun x hx h0 => by
    have e : mSetR R8 0 8 (some 190) x = R8 x := by funext j; exact sR_nj (by omega)
    rw [e, e8R x (by omega) h0, e7R x (by omega) h0, e6R x (by omega) h0, e5R x (by omega) h0, e4R x (by omega) h0]
  have t3R : ∀ x, x ≠ 0 → mSetR R8 0 8 (some 190) x = R8 x := fun x h0 => by funext j; exact sR_nj (by omega)
  have t3I : ∀ x j, x < 183 → I8 x j = mSet I3 0 3 0 x j := fun x j hx => by rw [e8I x (by omega), e7I x (by omega), e6I x (by omega), e5I x (by omega), e4I x j (by omega)]
  have q0 : ∀ j, j ≠ 8 → mSetR R8 0 8 (some 190) 0 j = R8 0 j := fun j hj => sR_nj (by omega)
  unfold mainPost
  refine ⟨rfl, _, _, _, rfl, n8, ?_, ?_, ⟨?_, ?_, ?_, ?_, ?_, ?_, ⟨?_, ?_, ?_, ?_, ?_, ?_, ?_, ?_, ?_⟩, ⟨?_, ?_, ?_⟩, ?_⟩, fun x j x1 x2 x3 => ?_, ?_, ?_, ?_⟩
  · have d8 : K8.2.1 = K7.2.1 + 7 + 96 := c8
    have d7 : K7.2.1 = K6.2.1 + 4 + 30 := c7
    have d6 : K6.2.1 = K5.2.1 + 4 + 30 := c6
    have d4 : K4.2.1 = K3.2.1 + 2 + 50 := c4
    have d3 : K3.2.1 = K2.2.1 + 9 + 658 := c3
    have d2 : K2.2.1 = K1.2.1 + 2 + 2672 := c2
    have d1 : K1.2.1 = K.2.1 + 9 + 658 := c1
    omega
  · rw [s8]; show K7.2.2.2 = _; rw [s7]; show K6.2.2.2 = _; rw [s6]; show K5.2.2.2 = _; rw [s5, s4]; show K3.2.2.2 = _; rw [s3]; show K2.2.2.2 = _; rw [s2]; show K1.2.2.2 = _; rw [s1]
  · exact zS_ext z1 (fun x x1 x2 => by rw [t2K x (by omega), e3K x (by omega), e2K x (by omega)]) (fun x x1 x2 => by rw [t2R x (by omega) (by omega), e3R x (by omega) (by omega), e2R x (by omega) (by omega)])
  · exact zS_ext z3 (fun x x1 x2 => t2K x (by omega)) (fun x x1 x2 => t2R x (by omega) (by omega))
  · obtain ⟨y0, y1, y2, y3, y4, y5, y6⟩ := z2
    have uK : ∀ x, x < 153 → K8.2.2.1 x = K2.2.2.1 x := fun x hx => by rw [t2K x (by omega), e3K x (by omega)]
    have uR : ∀ x, x < 153 → x ≠ 0 → mSetR R8 0 8 (some 190) x = R2 x := fun x hx h0 => by rw [t2R x (by omega) h0, e3R x (by omega) h0]
    exact ⟨by rw [uK _ (by omega)]; exact y0, by rw [uR _ (by omega) (by omega)]; exact y1, by rw [uK _ (by omega)]; exact y2, fun j hj => by rw [uR _ (by omega) (by omega)]; exact y3 j hj, y4, y5, fun q hq => zS_ext (y6 q hq) (fun x x1 x2 => uK x (by omega)) (fun x x1 x2 => uR x (by omega) (by omega))⟩
  · exact zW_ext z8 (fun x _ _ => rfl) (t3R _ (by omega))
  · exact zR_ext z6 (fun x x1 x2 => by rw [e8K x (by omega), e7K x (by omega)]) (by rw [t3R _ (by omega), e8R _ (by omega) (by omega), e7R _ (by omega) (by omega)])
  · exact zR_ext z7 (fun x x1 x2 => by rw [e8K x (by omega)]) (by rw [t3R _ (by omega), e8R _ (by omega) (by omega)])
  · exact h0_8
  · rw [q0 0 (by omega), e8Q, if_neg (by omega), e7Q, if_neg (by omega), e6Q, if_neg (by omega), e5Q, if_neg (by omega), e4Q, if_neg (by omega), e3Q, if_neg (by omega), e2Q, if_pos rfl]
  · rw [q0 1 (by omega), e8Q, if_neg (by omega), e7Q, if_neg (by omega), e6Q, if_neg (by omega), e5Q, if_neg (by omega), e4Q, if_neg (by omega), e3Q, if_pos rfl]
  · rw [q0 2 (by omega), e8Q, if_neg (by omega), e7Q, if_neg (by omega), e6Q, if_neg (by omega), e5Q, if_neg (by omega), e4Q, if_pos rfl]
  · rw [q0 4 (by omega), e8Q, if_neg (by omega), e7Q, if_neg (by omega), e6Q, if_neg (by omega), e5Q, if_pos rfl]
  · rw [q0 5 (by omega), e8Q, if_neg (by omega), e7Q, if_neg (by omega), e6Q, if_pos rfl]
  · rw [q0 6 (by omega), e8Q, if_neg (by omega), e7Q, if_pos rfl]
  · rw [q0 7 (by omega), e8Q, if_pos rfl]
  · exact sR_eq
  · rw [e8K _ (by omega), e7K _ (by omega), e6K _ (by omega), e5K _ (by omega), k4 _ (by omega)]; rfl
  · rw [t3R _ (by omega), e8R _ (by omega) (by omega), e7R _ (by omega) (by omega), e6R _ (by omega) (by omega), e5R _ (by omega) (by omega)]; exact z4
  · rw [e8K _ (by omega), e7K _ (by omega), e6K _ (by omega), e5K _ (by omega)]; exact y4
  · rw [e8K _ (by omega), e7K _ (by omega), e6K _ (by omega)]; exact z5
  · rw [t3I x j (by omega), s_ne (by omega), e3I x (by omega), e2I x (by omega)]; exact v1 x j x1 x2 x3
  · rw [t3I 31 1 (by omega), s_ne (by omega), e3I 31 (by omega)]; exact v2
  · rw [t3I 0 3 (by omega)]; exact s_eq
  · rw [e8I _ (by omega), e7I _ (by omega), e6I _ (by omega), e5I _ (by omega)]; exact v4
