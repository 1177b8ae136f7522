/-! errorsAfter, safeRewinds -/
theorem m_oneI {y : Int32} {h : mH} {Q : Option Value → mH → Prop} (c : ¬ (y < 0 ∨ 1 < y)) : EvM 84 [.int y] h Q ↔ Q (some (.int 1)) h := by
  obtain ⟨k, hk, rfl⟩ := in_rng (n := 1) (by omega) (fun q => c (Or.inl q)) (fun q => c (Or.inr q))
  rw [m_isWayOfOneEnd]
  rcases (show k = 0 ∨ k = 1 by omega) with rfl | rfl
  · rw [if_pos (show nI 0 = 0 from rfl)]
  · rw [if_neg (by decide), if_pos (show nI 1 = 1 from rfl)]
theorem m_pullI {y : Int32} {h : mH} {Q : Option Value → mH → Prop} (c : ¬ (y < 0 ∨ 9 < y)) : EvM 82 [.int y] h Q ↔ Q (some (.int 1)) h := by
  rw [m_isPull, if_neg (fun q => c (Or.inl q)), if_neg (fun q => c (Or.inr q))]
/-- the row behind d rewinds, or behind the one that breaks the wire -/
noncomputable def wAft (s u : Nat) : Nat → (Nat → Int32) → Nat → Int32
  | 0, v => v
  | d + 1, v => @ite _ (gOk v s u) (Classical.propDecidable _) (wAft s u d (gR1 v s u)) (gR2 v s u)
theorem wAft_ok {s u d : Nat} {v : Nat → Int32} (h : gOk v s u) : wAft s u (d + 1) v = wAft s u d (gR1 v s u) := if_pos h
theorem wAft_no {s u d : Nat} {v : Nat → Int32} (h : ¬ gOk v s u) : wAft s u (d + 1) v = gR2 v s u := if_neg h
set_option maxHeartbeats 8000000 in
theorem ea_loop {K : mK} {R : Nat → Nat → Option Nat} {s cl ru lm u T a : Nat} {y : Int32} (gw : zW K R 190) (hs : s < 6) (hru : ru ≤ 2) (hlm : lm ≤ 200) (hu : u ≤ 9) (hT : T ≤ 30) (a0 : K.2.2.1 0 = (1, 7)) (a1 : R 0 0 = some 1) (a8 : R 0 8 = some 190) (gs0 : K.2.2.1 1 = (1, 4)) :
    ∀ (d t : Nat), t + d = T → ∀ (X : Nat → Nat → Int32) (v : Nat → Int32) (c : Nat) (l8 : Value), tI X v s cl c ru lm → X 1 2 = nI ru → X 1 3 = nI lm → ∃ X' c', c' ≤ c ∧ rFin X' (wAft s u d v) s c' ∧ (∀ x, x ≠ 190 ∧ x ≠ 191 → X' x = X x) ∧
      (∀ Q, (∀ l6 l7 l8, Ev 77 (mB 77 135) [.ref 0, .int (nI s), .int y, .int (nI u), .int (nI T), .ref a, l6, l7, l8] [] (K, R, X') Q) → Ev 77 (mB 77 75) [.ref 0, .int (nI s), .int y, .int (nI u), .int (nI T), .ref a, .int 1, .int (nI t), l8] [] (K, R, X) Q) := by
  have gz := gw.1
  intro d
  induction d with
  | zero =>
    intro t ht X v c l8 h e2 e3
    have hte : t = T := by omega
    subst hte
    refine ⟨X, c, Nat.le_refl _, tI_fin h, fun _ _ => rfl, fun Q hQ => ?_⟩
    rw [B_77_75]
    simp (disch := omega) only [e_iconst, e_bipush, e_sipush, e_iload_n, e_iload, e_aload_n, e_aload, e_istore_n, e_istore, e_astore_n, e_astore, e_iinc, e_iadd, e_isub, e_imul, e_iand, e_ishr, e_idiv, e_i2c, e_dup_i, e_dup_r, e_dup2, e_pop, e_goto, e_nop, e_if_eq, e_if_ne, e_if_lt, e_if_ge, e_if_gt, e_if_le, e_icmp_eq, e_icmp_ne, e_icmp_lt, e_icmp_ge, e_icmp_gt, e_icmp_le, e_tsw, e_ret0, e_ret1, e_retn, e_getI, e_getZ, e_getR, e_getV, e_getC, e_putI, e_putZ, e_putF, e_gst0, e_gst1, e_sld, e_iald, e_cald, e_bald, e_iast, e_cast, e_aald, e_aast, e_alen, e_slen, e_blen, e_newa, e_newq, e_new, e_oinit, e_ctor, e_virt, e_stat, e_min, e_copy, e_ldc, List.cons_append, List.nil_append, List.append_nil, List.length_cons, List.length_nil, List.replicate_succ, List.replicate_zero, List.getElem?_cons_zero, List.getElem?_cons_succ, List.set_cons_zero, List.set_cons_succ, List.take_succ_cons, List.take_zero, List.drop_succ_cons, List.drop_zero, List.reverse_cons, List.reverse_nil, Option.toList_some, Option.toList_none, Nat.reduceSub, Nat.reduceAdd, Nat.reduceLeDiff, true_and, and_true, and_self, Option.some.injEq, exists_eq_left', Nat.zero_add, Value.int.injEq, Value.ref.injEq, List.cons.injEq, exists_and_left, and_assoc, exists_eq_left, List.all_cons, List.all_nil, m1_i, m1_r, Bool.and_self, Bool.and_true, bk_77_75, n_le, if_pos, Nat.le_refl, if_pos, if_neg, not_true_eq_false, not_false_eq_true, or_true, true_or, or_false, false_or, false_and, and_false, Nat.reduceEqDiff, Nat.reduceLT, Nat.reduceMul, Nat.not_lt_zero, Nat.zero_le, Nat.le_refl, ne_eq, reduceIte, reduceCtorEq]
    exact hQ _ _ _
  | succ d ih =>
    intro t ht X v c l8 h e2 e3
    have hle : ¬ T ≤ t := by omega
    obtain ⟨X1, x1, x3⟩ := tr_turn gw hs hru hlm hu h
    rcases x3 with ⟨ok, y1, y2⟩ | ⟨ok, f, Y, c', f1, f2, y1, y2, y3, y4⟩
    · obtain ⟨X', c', z1, z2, z3, z5⟩ := ih (t + 1) (by omega) X1 _ c (.int (-1)) y2 (by rw [x1 1 (by omega)]; exact e2) (by rw [x1 1 (by omega)]; exact e3)
      refine ⟨X', c', z1, by rw [wAft_ok ok]; exact z2, fun x hx => by rw [z3 x hx, x1 x hx], fun Q hQ => ?_⟩
      have q := z5 Q hQ
      rw [B_77_75]
      simp (disch := omega) only [e_iconst, e_bipush, e_sipush, e_iload_n, e_iload, e_aload_n, e_aload, e_istore_n, e_istore, e_astore_n, e_astore, e_iinc, e_iadd, e_isub, e_imul, e_iand, e_ishr, e_idiv, e_i2c, e_dup_i, e_dup_r, e_dup2, e_pop, e_goto, e_nop, e_if_eq, e_if_ne, e_if_lt, e_if_ge, e_if_gt, e_if_le, e_icmp_eq, e_icmp_ne, e_icmp_lt, e_icmp_ge, e_icmp_gt, e_icmp_le, e_tsw, e_ret0, e_ret1, e_retn, e_getI, e_getZ, e_getR, e_getV, e_getC, e_putI, e_putZ, e_putF, e_gst0, e_gst1, e_sld, e_iald, e_cald, e_bald, e_iast, e_cast, e_aald, e_aast, e_alen, e_slen, e_blen, e_newa, e_newq, e_new, e_oinit, e_ctor, e_virt, e_stat, e_min, e_copy, e_ldc, List.cons_append, List.nil_append, List.append_nil, List.length_cons, List.length_nil, List.replicate_succ, List.replicate_zero, List.getElem?_cons_zero, List.getElem?_cons_succ, List.set_cons_zero, List.set_cons_succ, List.take_succ_cons, List.take_zero, List.drop_succ_cons, List.drop_zero, List.reverse_cons, List.reverse_nil, Option.toList_some, Option.toList_none, Nat.reduceSub, Nat.reduceAdd, Nat.reduceLeDiff, true_and, and_true, and_self, Option.some.injEq, exists_eq_left', Nat.zero_add, Value.int.injEq, Value.ref.injEq, List.cons.injEq, exists_and_left, and_assoc, exists_eq_left, List.all_cons, List.all_nil, m1_i, m1_r, Bool.and_self, Bool.and_true, bk_77_75, n_le, hle, if_neg, a0, a1, a8, gs0, gz, e2, e3, C_51, y1, o_eq, if_pos, if_neg, not_true_eq_false, not_false_eq_true, or_true, true_or, or_false, false_or, false_and, and_false, Nat.reduceEqDiff, Nat.reduceLT, Nat.reduceMul, Nat.not_lt_zero, Nat.zero_le, Nat.le_refl, ne_eq, reduceIte, reduceCtorEq]
      rw [B_77_129]
      simp (disch := omega) only [e_iconst, e_bipush, e_sipush, e_iload_n, e_iload, e_aload_n, e_aload, e_istore_n, e_istore, e_astore_n, e_astore, e_iinc, e_iadd, e_isub, e_imul, e_iand, e_ishr, e_idiv, e_i2c, e_dup_i, e_dup_r, e_dup2, e_pop, e_goto, e_nop, e_if_eq, e_if_ne, e_if_lt, e_if_ge, e_if_gt, e_if_le, e_icmp_eq, e_icmp_ne, e_icmp_lt, e_icmp_ge, e_icmp_gt, e_icmp_le, e_tsw, e_ret0, e_ret1, e_retn, e_getI, e_getZ, e_getR, e_getV, e_getC, e_putI, e_putZ, e_putF, e_gst0, e_gst1, e_sld, e_iald, e_cald, e_bald, e_iast, e_cast, e_aald, e_aast, e_alen, e_slen, e_blen, e_newa, e_newq, e_new, e_oinit, e_ctor, e_virt, e_stat, e_min, e_copy, e_ldc, List.cons_append, List.nil_append, List.append_nil, List.length_cons, List.length_nil, List.replicate_succ, List.replicate_zero, List.getElem?_cons_zero, List.getElem?_cons_succ, List.set_cons_zero, List.set_cons_succ, List.take_succ_cons, List.take_zero, List.drop_succ_cons, List.drop_zero, List.reverse_cons, List.reverse_nil, Option.toList_some, Option.toList_none, Nat.reduceSub, Nat.reduceAdd, Nat.reduceLeDiff, true_and, and_true, and_self, Option.some.injEq, exists_eq_left', Nat.zero_add, Value.int.injEq, Value.ref.injEq, List.cons.injEq, exists_and_left, and_assoc, exists_eq_left, List.all_cons, List.all_nil, m1_i, m1_r, Bool.and_self, Bool.and_true, bk_77_129, o_add_l, if_pos, if_neg, not_true_eq_false, not_false_eq_true, or_true, true_or, or_false, false_or, false_and, and_false, Nat.reduceEqDiff, Nat.reduceLT, Nat.reduceMul, Nat.not_lt_zero, Nat.zero_le, Nat.le_refl, ne_eq, reduceIte, reduceCtorEq]
      exact q
    · refine ⟨X1, c', y3, by rw [wAft_no ok]; exact y4, x1, fun Q hQ => ?_⟩
      rw [B_77_75]
      simp (disch := omega) only [e_iconst, e_bipush, e_sipush, e_iload_n, e_iload, e_aload_n, e_aload, e_istore_n, e_istore, e_astore_n, e_astore, e_iinc, e_iadd, e_isub, e_imul, e_iand, e_ishr, e_idiv, e_i2c, e_dup_i, e_dup_r, e_dup2, e_pop, e_goto, e_nop, e_if_eq, e_if_ne, e_if_lt, e_if_ge, e_if_gt, e_if_le, e_icmp_eq, e_icmp_ne, e_icmp_lt, e_icmp_ge, e_icmp_gt, e_icmp_le, e_tsw, e_ret0, e_ret1, e_retn, e_getI, e_getZ, e_getR, e_getV, e_getC, e_putI, e_putZ, e_putF, e_gst0, e_gst1, e_sld, e_iald, e_cald, e_bald, e_iast, e_cast, e_aald, e_aast, e_alen, e_slen, e_blen, e_newa, e_newq, e_new, e_oinit, e_ctor, e_virt, e_stat, e_min, e_copy, e_ldc, List.cons_append, List.nil_append, List.append_nil, List.length_cons, List.length_nil, List.replicate_succ, List.replicate_zero, List.getElem?_cons_zero, List.getElem?_cons_succ, List.set_cons_zero, List.set_cons_succ, List.take_succ_cons, List.take_zero, List.drop_succ_cons, List.drop_zero, List.reverse_cons, List.reverse_nil, Option.toList_some, Option.toList_none, Nat.reduceSub, Nat.reduceAdd, Nat.reduceLeDiff, true_and, and_true, and_self, Option.some.injEq, exists_eq_left', Nat.zero_add, Value.int.injEq, Value.ref.injEq, List.cons.injEq, exists_and_left, and_assoc, exists_eq_left, List.all_cons, List.all_nil, m1_i, m1_r, Bool.and_self, Bool.and_true, bk_77_75, n_le, hle, if_neg, a0, a1, a8, gs0, gz, e2, e3, C_51, C_52, y1, y2, n_m1, o_eq, if_pos, if_neg, not_true_eq_false, not_false_eq_true, or_true, true_or, or_false, false_or, false_and, and_false, Nat.reduceEqDiff, Nat.reduceLT, Nat.reduceMul, Nat.not_lt_zero, Nat.zero_le, Nat.le_refl, ne_eq, reduceIte, reduceCtorEq]
      rw [B_77_129]
      simp (disch := omega) only [e_iconst, e_bipush, e_sipush, e_iload_n, e_iload, e_aload_n, e_aload, e_istore_n, e_istore, e_astore_n, e_astore, e_iinc, e_iadd, e_isub, e_imul, e_iand, e_ishr, e_idiv, e_i2c, e_dup_i, e_dup_r, e_dup2, e_pop, e_goto, e_nop, e_if_eq, e_if_ne, e_if_lt, e_if_ge, e_if_gt, e_if_le, e_icmp_eq, e_icmp_ne, e_icmp_lt, e_icmp_ge, e_icmp_gt, e_icmp_le, e_tsw, e_ret0, e_ret1, e_retn, e_getI, e_getZ, e_getR, e_getV, e_getC, e_putI, e_putZ, e_putF, e_gst0, e_gst1, e_sld, e_iald, e_cald, e_bald, e_iast, e_cast, e_aald, e_aast, e_alen, e_slen, e_blen, e_newa, e_newq, e_new, e_oinit, e_ctor, e_virt, e_stat, e_min, e_copy, e_ldc, List.cons_append, List.nil_append, List.append_nil, List.length_cons, List.length_nil, List.replicate_succ, List.replicate_zero, List.getElem?_cons_zero, List.getElem?_cons_succ, List.set_cons_zero, List.set_cons_succ, List.take_succ_cons, List.take_zero, List.drop_succ_cons, List.drop_zero, List.reverse_cons, List.reverse_nil, Option.toList_some, Option.toList_none, Nat.reduceSub, Nat.reduceAdd, Nat.reduceLeDiff, true_and, and_true, and_self, Option.some.injEq, exists_eq_left', Nat.zero_add, Value.int.injEq, Value.ref.injEq, List.cons.injEq, exists_and_left, and_assoc, exists_eq_left, List.all_cons, List.all_nil, m1_i, m1_r, Bool.and_self, Bool.and_true, bk_77_129, o_add_l, if_pos, if_neg, not_true_eq_false, not_false_eq_true, or_true, true_or, or_false, false_or, false_and, and_false, Nat.reduceEqDiff, Nat.reduceLT, Nat.reduceMul, Nat.not_lt_zero, Nat.zero_le, Nat.le_refl, ne_eq, reduceIte, reduceCtorEq]
      rw [B_77_75]
      simp (disch := omega) only [e_iconst, e_bipush, e_sipush, e_iload_n, e_iload, e_aload_n, e_aload, e_istore_n, e_istore, e_astore_n, e_astore, e_iinc, e_iadd, e_isub, e_imul, e_iand, e_ishr, e_idiv, e_i2c, e_dup_i, e_dup_r, e_dup2, e_pop, e_goto, e_nop, e_if_eq, e_if_ne, e_if_lt, e_if_ge, e_if_gt, e_if_le, e_icmp_eq, e_icmp_ne, e_icmp_lt, e_icmp_ge, e_icmp_gt, e_icmp_le, e_tsw, e_ret0, e_ret1, e_retn, e_getI, e_getZ, e_getR, e_getV, e_getC, e_putI, e_putZ, e_putF, e_gst0, e_gst1, e_sld, e_iald, e_cald, e_bald, e_iast, e_cast, e_aald, e_aast, e_alen, e_slen, e_blen, e_newa, e_newq, e_new, e_oinit, e_ctor, e_virt, e_stat, e_min, e_copy, e_ldc, List.cons_append, List.nil_append, List.append_nil, List.length_cons, List.length_nil, List.replicate_succ, List.replicate_zero, List.getElem?_cons_zero, List.getElem?_cons_succ, List.set_cons_zero, List.set_cons_succ, List.take_succ_cons, List.take_zero, List.drop_succ_cons, List.drop_zero, List.reverse_cons, List.reverse_nil, Option.toList_some, Option.toList_none, Nat.reduceSub, Nat.reduceAdd, Nat.reduceLeDiff, true_and, and_true, and_self, Option.some.injEq, exists_eq_left', Nat.zero_add, Value.int.injEq, Value.ref.injEq, List.cons.injEq, exists_and_left, and_assoc, exists_eq_left, List.all_cons, List.all_nil, m1_i, m1_r, Bool.and_self, Bool.and_true, bk_77_75, n_le, o_eq, if_pos, if_neg, not_true_eq_false, not_false_eq_true, or_true, true_or, or_false, false_or, false_and, and_false, Nat.reduceEqDiff, Nat.reduceLT, Nat.reduceMul, Nat.not_lt_zero, Nat.zero_le, Nat.le_refl, ne_eq, reduceIte, reduceCtorEq]
      split
      · exact hQ _ _ _
      · exact hQ _ _ _
theorem SCR_tri {I X : Nat → Nat → Int32} (h : ∀ x, x < 185 → X x = I x) : SCR I X := h
/-- what errorsAfter answers -/
noncomputable def aAfter (v : Nat → Int32) (s w u T : Nat) : Int32 := if gp v s = 0 then -4 else nI (gc v s - gc (wAft s u T v) s + gTot (wAft s u T v) s w)
theorem one_rng {w : Nat} (h : w ≤ 1) : ¬ (nI w < 0 ∨ 1 < nI w) := by
  rintro (e | e)
  · exact n_ne0 (by omega) e
  · rw [show (1 : Int32) = nI 1 from rfl, n_lt (by omega) (by omega)] at e; omega
theorem pull_rng {w : Nat} (h : w ≤ 9) : ¬ (nI w < 0 ∨ 9 < nI w) := by
  rintro (e | e)
  · exact n_ne0 (by omega) e
  · rw [show (9 : Int32) = nI 9 from rfl, n_lt (by omega) (by omega)] at e; omega
theorem one_n2 {w : Nat} (h : w ≤ 1) : nI w ≠ 2 := by
  intro e
  rw [show (2 : Int32) = nI 2 from rfl, n_eq (by omega) (by omega)] at e; omega
set_option maxHeartbeats 8000000 in
theorem q_after {K : mK} {R : Nat → Nat → Option Nat} {I : Nat → Nat → Int32} {v H : Nat → Int32} {TT : Nat → Nat} {n tt : Nat} (hrel : REL K R I v n H tt TT) (s w u T : Nat) (hs : s < 6) (hw0 : w ≤ 1) (hu : u ≤ 9) (hT30 : T ≤ 30) : QO 77 [.int (nI s), .int (nI w), .int (nI u), .int (nI T)] K R I (aAfter v s w u T) := by
  obtain ⟨f, g, hv, hn2, hn, hH, hP, hT⟩ := id hrel
  have q4 := qTu_lt g hn2
  obtain ⟨gs, -, gh, gw, gr, gr', ⟨a0, a1, a2, a3, a4, a5, a6, a7, a8⟩, ⟨b0, b1, b2⟩, cc0⟩ := id g
  have gs0 : K.2.2.1 1 = (1, 4) := gs.1
  have gs1 : R 1 0 = some 2 := gs.2.1
  have gs2 : K.2.2.1 2 = (4, 6) := gs.2.2.1
  have gs3 : R 1 1 = some 3 := gs.2.2.2.1
  have gs4 : zL K R 3 := gs.2.2.2.2.1
  have gW : ∀ s, s < 6 → zW K R (7 + 4 * s) := fun s hs => (gs.2.2.2.2.2.2 s hs).2
  have gR : ∀ s, s < 6 → R 2 s = some (7 + 4 * s) := fun s hs => (gs.2.2.2.2.2.2 s hs).1
  have gh0 := gh.1
  have gsl : K.2.2.1 3 = (1, 2) := gs4.1
  have gT := zG_tu (n := n) g
  have gst : zS K (RTu R n) 1 := gT.1
  have gt1 : RTu R n 1 0 = some 2 := gst.2.1
  have gt3 : RTu R n 1 1 = some 3 := gst.2.2.2.1
  have gt4 : zL K (RTu R n) 3 := gst.2.2.2.2.1
  have gWt : ∀ s, s < 6 → zW K (RTu R n) (7 + 4 * s) := fun s hs => (gst.2.2.2.2.2.2 s hs).2
  have gRt : ∀ s, s < 6 → RTu R n 2 s = some (7 + 4 * s) := fun s hs => (gst.2.2.2.2.2.2 s hs).1
  obtain ⟨-, a1t, a2t, a3t, a4t, a5t, a6t, a7t, a8t⟩ := gT.2.2.2.2.2.2.1
  have c1 := one_rng hw0
  have c2 := pull_rng hu
  have hy := one_n2 hw0
  obtain ⟨pA, clA, cA, hwA⟩ := hv.1 s hs
  rw [show 1 + 6 + 4 * s = 7 + 4 * s by omega] at hwA
  obtain ⟨wfA, vfA, k0A, k1A, k2A, k3A, k4A, k5A⟩ := id hwA
  obtain ⟨f1A, f2A, f3A, f4A, f5A, f6A⟩ := id wfA
  obtain ⟨v1A, v2A, v3A, -⟩ := id vfA
  have zwA := gW s hs
  have zwtA := gWt s hs
  have rwA := gR s hs
  have rwtA := gRt s hs
  have zw0A : K.2.2.1 (7 + 4 * s) = (1, 6) := zwA.1
  obtain ⟨g1, g2, g3⟩ := g_vF vfA
  unfold aAfter
  rw [g1, g3]
  rcases (show pA = 0 ∨ pA = 1 by omega) with rfl | rfl
  · rw [if_pos rfl]
    refine ⟨I, ?_, SCR_id⟩
    simp (disch := omega) only [e_iconst, e_bipush, e_sipush, e_iload_n, e_iload, e_aload_n, e_aload, e_istore_n, e_istore, e_astore_n, e_astore, e_iinc, e_iadd, e_isub, e_imul, e_iand, e_ishr, e_idiv, e_i2c, e_dup_i, e_dup_r, e_dup2, e_pop, e_goto, e_nop, e_if_eq, e_if_ne, e_if_lt, e_if_ge, e_if_gt, e_if_le, e_icmp_eq, e_icmp_ne, e_icmp_lt, e_icmp_ge, e_icmp_gt, e_icmp_le, e_tsw, e_ret0, e_ret1, e_retn, e_getI, e_getZ, e_getR, e_getV, e_getC, e_putI, e_putZ, e_putF, e_gst0, e_gst1, e_sld, e_iald, e_cald, e_bald, e_iast, e_cast, e_aald, e_aast, e_alen, e_slen, e_blen, e_newa, e_newq, e_new, e_oinit, e_ctor, e_virt, e_stat, e_min, e_copy, e_ldc, List.cons_append, List.nil_append, List.append_nil, List.length_cons, List.length_nil, List.replicate_succ, List.replicate_zero, List.getElem?_cons_zero, List.getElem?_cons_succ, List.set_cons_zero, List.set_cons_succ, List.take_succ_cons, List.take_zero, List.drop_succ_cons, List.drop_zero, List.reverse_cons, List.reverse_nil, Option.toList_some, Option.toList_none, Nat.reduceSub, Nat.reduceAdd, Nat.reduceLeDiff, true_and, and_true, and_self, Option.some.injEq, exists_eq_left', Nat.zero_add, Value.int.injEq, Value.ref.injEq, List.cons.injEq, exists_and_left, and_assoc, exists_eq_left, List.all_cons, List.all_nil, m1_i, m1_r, Bool.and_self, Bool.and_true, E_in 77, N_77, B_77_0, bk_77_0, B_77_9, bk_77_9, B_77_38, bk_77_38, C_81, C_84, C_82, m_isSp hs, m_oneI c1, m_pullI c2, n_ne0, o_le_l, if_pos, a0, a1, gs0, gs1, gs2, zw0A, rwA, n_in, n_cl, true_or, or_true, f1A, o_eq_l, o_eq, if_pos, if_neg, not_true_eq_false, not_false_eq_true, or_true, true_or, or_false, false_or, false_and, and_false, Nat.reduceEqDiff, Nat.reduceLT, Nat.reduceMul, Nat.not_lt_zero, Nat.zero_le, Nat.le_refl, ne_eq, reduceIte, reduceCtorEq]
  rw [if_neg (by omega)]
  obtain ⟨e2, e3, e4, e5, e6, e7, e8, ⟨ru, ru1, ru2⟩, ⟨lm, lm0, lm1, lm2⟩, ln, l1, l2, l3, l4⟩ := id hv.2
  have grz := gr'.1
  have gz := gw.1
  -- the trial wire
  have wc : ∀ x, x ≠ 190 ∧ x ≠ 191 ∧ x ≠ 192 ∧ x ≠ 193 → wCp I 190 (7 + 4 * s) x = I x := fun x hx => by
    funext j
    unfold wCp
    rw [if_neg (by omega), if_neg (by omega), if_neg (by omega), if_neg (by omega)]
  have hti : tI (wCp I 190 (7 + 4 * s)) v s clA cA ru lm := by
    refine ⟨⟨wCp I 190 (7 + 4 * s), rW_cong hwA (fun d j hd hd0 hj => ?_) (fun _ _ _ => rfl), fun _ _ _ => rfl⟩, ru2, lm2, ln, l1, l3⟩
    unfold wCp
    rcases (show d = 0 ∨ d = 1 ∨ d = 2 ∨ d = 3 by omega) with rfl | rfl | rfl | rfl
    · rw [if_pos ⟨rfl, (hd0 rfl).1, (hd0 rfl).2⟩]; rfl
    · rw [if_neg (by omega), if_pos ⟨rfl, hj⟩]
    · rw [if_neg (by omega), if_neg (by omega), if_pos ⟨rfl, hj⟩]
    · rw [if_neg (by omega), if_neg (by omega), if_neg (by omega), if_pos ⟨rfl, hj⟩]
  obtain ⟨X', c', z1, z2, z3, z5⟩ := ea_loop (y := nI w) (a := 7 + 4 * s) gw hs ru1 lm1 hu hT30 a0 a1 a8 gs0 T 0 (by omega) (wCp I 190 (7 + 4 * s)) v cA .null hti (by rw [wc _ (by omega), e2, ru2]) (by rw [wc _ (by omega), e3, lm2])
  generalize wAft s u T v = v' at z2 ⊢
  have X5 : X' (7 + 4 * s) 5 = nI cA := by rw [z3 _ (by omega), wc _ (by omega)]; exact f3A
  have X190 := z2
  obtain ⟨pf, clf, pf1, clf1, -, x5, xc, xvF, -⟩ := X190
  obtain ⟨-, -, g5⟩ := g_vF xvF
  unfold gTot
  rw [g5]
  have rc := fun Q => rFin_c (Q := Q) z2 hy gr' gw
  obtain ⟨-, -, rc2, rc3⟩ := rc (fun _ _ => True)
  have rc1 := fun Q => (rc Q).1
  have eqn : cnt (pMi (nbR v' s c' (nI w)) (trR v' s)) c' + cnt (pUn (nbR v' s c' (nI w)) (trR v' s)) c' + cA - c' = cA - c' + tot (nbR v' s c' (nI w)) (trR v' s) c' := by unfold tot; omega
  have cnl1 := cnt_le (pMi (nbR v' s c' (nI w)) (trR v' s)) c'
  have cnl2 := cnt_le (pUn (nbR v' s c' (nI w)) (trR v' s)) c'
  refine ⟨rdS X' 188 190 c' (nI w), ?_, SCR_tri (fun x hx => by rw [rdS_o (by omega), z3 _ (by omega), wc _ (by omega)])⟩
  simp (disch := omega) only [e_iconst, e_bipush, e_sipush, e_iload_n, e_iload, e_aload_n, e_aload, e_istore_n, e_istore, e_astore_n, e_astore, e_iinc, e_iadd, e_isub, e_imul, e_iand, e_ishr, e_idiv, e_i2c, e_dup_i, e_dup_r, e_dup2, e_pop, e_goto, e_nop, e_if_eq, e_if_ne, e_if_lt, e_if_ge, e_if_gt, e_if_le, e_icmp_eq, e_icmp_ne, e_icmp_lt, e_icmp_ge, e_icmp_gt, e_icmp_le, e_tsw, e_ret0, e_ret1, e_retn, e_getI, e_getZ, e_getR, e_getV, e_getC, e_putI, e_putZ, e_putF, e_gst0, e_gst1, e_sld, e_iald, e_cald, e_bald, e_iast, e_cast, e_aald, e_aast, e_alen, e_slen, e_blen, e_newa, e_newq, e_new, e_oinit, e_ctor, e_virt, e_stat, e_min, e_copy, e_ldc, List.cons_append, List.nil_append, List.append_nil, List.length_cons, List.length_nil, List.replicate_succ, List.replicate_zero, List.getElem?_cons_zero, List.getElem?_cons_succ, List.set_cons_zero, List.set_cons_succ, List.take_succ_cons, List.take_zero, List.drop_succ_cons, List.drop_zero, List.reverse_cons, List.reverse_nil, Option.toList_some, Option.toList_none, Nat.reduceSub, Nat.reduceAdd, Nat.reduceLeDiff, true_and, and_true, and_self, Option.some.injEq, exists_eq_left', Nat.zero_add, Value.int.injEq, Value.ref.injEq, List.cons.injEq, exists_and_left, and_assoc, exists_eq_left, List.all_cons, List.all_nil, m1_i, m1_r, Bool.and_self, Bool.and_true, E_in 77, N_77, B_77_0, bk_77_0, B_77_9, bk_77_9, B_77_38, bk_77_38, C_81, C_84, C_82, m_isSp hs, m_oneI c1, m_pullI c2, n_ne0, o_le_l, if_pos, if_neg, a0, a1, gs0, gs1, gs2, zw0A, rwA, n_in, n_cl, true_or, or_true, f1A, o_eq_l, o_eq, if_pos, if_neg, not_true_eq_false, not_false_eq_true, or_true, true_or, or_false, false_or, false_and, and_false, Nat.reduceEqDiff, Nat.reduceLT, Nat.reduceMul, Nat.not_lt_zero, Nat.zero_le, Nat.le_refl, ne_eq, reduceIte, reduceCtorEq]
  simp (disch := omega) only [e_iconst, e_bipush, e_sipush, e_iload_n, e_iload, e_aload_n, e_aload, e_istore_n, e_istore, e_astore_n, e_astore, e_iinc, e_iadd, e_isub, e_imul, e_iand, e_ishr, e_idiv, e_i2c, e_dup_i, e_dup_r, e_dup2, e_pop, e_goto, e_nop, e_if_eq, e_if_ne, e_if_lt, e_if_ge, e_if_gt, e_if_le, e_icmp_eq, e_icmp_ne, e_icmp_lt, e_icmp_ge, e_icmp_gt, e_icmp_le, e_tsw, e_ret0, e_ret1, e_retn, e_getI, e_getZ, e_getR, e_getV, e_getC, e_putI, e_putZ, e_putF, e_gst0, e_gst1, e_sld, e_iald, e_cald, e_bald, e_iast, e_cast, e_aald, e_aast, e_alen, e_slen, e_blen, e_newa, e_newq, e_new, e_oinit, e_ctor, e_virt, e_stat, e_min, e_copy, e_ldc, List.cons_append, List.nil_append, List.append_nil, List.length_cons, List.length_nil, List.replicate_succ, List.replicate_zero, List.getElem?_cons_zero, List.getElem?_cons_succ, List.set_cons_zero, List.set_cons_succ, List.take_succ_cons, List.take_zero, List.drop_succ_cons, List.drop_zero, List.reverse_cons, List.reverse_nil, Option.toList_some, Option.toList_none, Nat.reduceSub, Nat.reduceAdd, Nat.reduceLeDiff, true_and, and_true, and_self, Option.some.injEq, exists_eq_left', Nat.zero_add, Value.int.injEq, Value.ref.injEq, List.cons.injEq, exists_and_left, and_assoc, exists_eq_left, List.all_cons, List.all_nil, m1_i, m1_r, Bool.and_self, Bool.and_true, B_77_60, bk_77_60, a0, a8, gz, true_or, or_true, C_36, m_wcopy gw zwA (by omega) f1A f4A f2A f5A, if_pos, if_neg, not_true_eq_false, not_false_eq_true, or_true, true_or, or_false, false_or, false_and, and_false, Nat.reduceEqDiff, Nat.reduceLT, Nat.reduceMul, Nat.not_lt_zero, Nat.zero_le, Nat.le_refl, ne_eq, reduceIte, reduceCtorEq]
  refine z5 _ (fun l6 l7 l8 => ?_)
  rw [B_77_135]
  simp (disch := omega) only [e_iconst, e_bipush, e_sipush, e_iload_n, e_iload, e_aload_n, e_aload, e_istore_n, e_istore, e_astore_n, e_astore, e_iinc, e_iadd, e_isub, e_imul, e_iand, e_ishr, e_idiv, e_i2c, e_dup_i, e_dup_r, e_dup2, e_pop, e_goto, e_nop, e_if_eq, e_if_ne, e_if_lt, e_if_ge, e_if_gt, e_if_le, e_icmp_eq, e_icmp_ne, e_icmp_lt, e_icmp_ge, e_icmp_gt, e_icmp_le, e_tsw, e_ret0, e_ret1, e_retn, e_getI, e_getZ, e_getR, e_getV, e_getC, e_putI, e_putZ, e_putF, e_gst0, e_gst1, e_sld, e_iald, e_cald, e_bald, e_iast, e_cast, e_aald, e_aast, e_alen, e_slen, e_blen, e_newa, e_newq, e_new, e_oinit, e_ctor, e_virt, e_stat, e_min, e_copy, e_ldc, List.cons_append, List.nil_append, List.append_nil, List.length_cons, List.length_nil, List.replicate_succ, List.replicate_zero, List.getElem?_cons_zero, List.getElem?_cons_succ, List.set_cons_zero, List.set_cons_succ, List.take_succ_cons, List.take_zero, List.drop_succ_cons, List.drop_zero, List.reverse_cons, List.reverse_nil, Option.toList_some, Option.toList_none, Nat.reduceSub, Nat.reduceAdd, Nat.reduceLeDiff, true_and, and_true, and_self, Option.some.injEq, exists_eq_left', Nat.zero_add, Value.int.injEq, Value.ref.injEq, List.cons.injEq, exists_and_left, and_assoc, exists_eq_left, List.all_cons, List.all_nil, m1_i, m1_r, Bool.and_self, Bool.and_true, bk_77_135, a0, a7, a8, grz, gz, zw0A, true_or, or_true, C_18, C_22, rc1, m_errorCount gr', rc2, rc3, rdS_o, X5, x5, n_add, n_sub, eqn, if_pos, if_neg, not_true_eq_false, not_false_eq_true, or_true, true_or, or_false, false_or, false_and, and_false, Nat.reduceEqDiff, Nat.reduceLT, Nat.reduceMul, Nat.not_lt_zero, Nat.zero_le, Nat.le_refl, ne_eq, reduceIte, reduceCtorEq]
theorem tI_out {X X' : Nat → Nat → Int32} {v : Nat → Int32} {s cl c ru lm : Nat} (h : tI X v s cl c ru lm) (hX : ∀ x, 190 ≤ x → x < 194 → X' x = X x) : tI X' v s cl c ru lm := by
  obtain ⟨⟨I0, hw, h0⟩, h1⟩ := h
  refine ⟨⟨fun x j => if x = 190 ∧ j = 6 then I0 x j else X' x j, rW_cong hw (fun d j hd _ _ => ?_) (fun _ _ _ => rfl), fun x j hx => (if_neg hx).symm⟩, h1⟩
  by_cases e : 190 + d = 190 ∧ j = 6
  · exact if_pos e
  · rw [← h0 _ _ e, ← hX (190 + d) (by omega) (by omega)]
    exact if_neg e
def dF (a b : Nat → Int32) (k : Nat) : Bool := !(a k == b k)
/-- how many rewinds are safe, t of them done, at most d more -/
noncomputable def wSafe (s u c : Nat) (y : Int32) (nb : Nat → Int32) : Nat → Nat → (Nat → Int32) → Nat
  | 0, t, _ => t
  | d + 1, t, v => @ite _ (gOk v s u) (Classical.propDecidable _) (if fB (dF (nbR (gR1 v s u) s c y) nb) c c = c then wSafe s u c y nb d (t + 1) (gR1 v s u) else t) t
set_option maxHeartbeats 8000000 in
theorem sr_loop {K : mK} {R : Nat → Nat → Option Nat} {s cl c ru lm u : Nat} {y : Int32} {nb : Nat → Int32} (gw : zW K R 190) (gr : zR K R 186) (gr' : zR K R 188) (hs : s < 6) (hru : ru ≤ 2) (hlm : lm ≤ 200) (hu : u ≤ 9) (hy : y ≠ 2) (hc : c ≤ 30)
    (a0 : K.2.2.1 0 = (1, 7)) (a1 : R 0 0 = some 1) (a6 : R 0 6 = some 186) (a7 : R 0 7 = some 188) (a8 : R 0 8 = some 190) (gs0 : K.2.2.1 1 = (1, 4)) (za : K.2.2.1 (7 + 4 * s) = (1, 6)) :
    ∀ (d t : Nat), t + d = 30 → ∀ (X : Nat → Nat → Int32) (v : Nat → Int32), tI X v s cl c ru lm → X 1 2 = nI ru → X 1 3 = nI lm → X (7 + 4 * s) 5 = nI c → (∀ i, i < c → X 187 i = nb i) → ∃ X', (∀ x, x < 188 ∨ 191 < x → X' x = X x) ∧
      Ev 78 (mB 78 70) [.ref 0, .int (nI s), .int y, .int (nI u), .ref (7 + 4 * s), .int (nI t)] [] (K, R, X) (fun w k => w = some (.int (nI (wSafe s u c y nb d t v))) ∧ k = (K, R, X')) := by
  have gz := gw.1
  have grz := gr.1
  have grz' := gr'.1
  intro d
  induction d with
  | zero =>
    intro t ht X v h e2 e3 e5 e7
    have hte : t = 30 := by omega
    subst hte
    refine ⟨X, fun _ _ => rfl, ?_⟩
    rw [B_78_70]
    simp (disch := omega) only [e_iconst, e_bipush, e_sipush, e_iload_n, e_iload, e_aload_n, e_aload, e_istore_n, e_istore, e_astore_n, e_astore, e_iinc, e_iadd, e_isub, e_imul, e_iand, e_ishr, e_idiv, e_i2c, e_dup_i, e_dup_r, e_dup2, e_pop, e_goto, e_nop, e_if_eq, e_if_ne, e_if_lt, e_if_ge, e_if_gt, e_if_le, e_icmp_eq, e_icmp_ne, e_icmp_lt, e_icmp_ge, e_icmp_gt, e_icmp_le, e_tsw, e_ret0, e_ret1, e_retn, e_getI, e_getZ, e_getR, e_getV, e_getC, e_putI, e_putZ, e_putF, e_gst0, e_gst1, e_sld, e_iald, e_cald, e_bald, e_iast, e_cast, e_aald, e_aast, e_alen, e_slen, e_blen, e_newa, e_newq, e_new, e_oinit, e_ctor, e_virt, e_stat, e_min, e_copy, e_ldc, List.cons_append, List.nil_append, List.append_nil, List.length_cons, List.length_nil, List.replicate_succ, List.replicate_zero, List.getElem?_cons_zero, List.getElem?_cons_succ, List.set_cons_zero, List.set_cons_succ, List.take_succ_cons, List.take_zero, List.drop_succ_cons, List.drop_zero, List.reverse_cons, List.reverse_nil, Option.toList_some, Option.toList_none, Nat.reduceSub, Nat.reduceAdd, Nat.reduceLeDiff, true_and, and_true, and_self, Option.some.injEq, exists_eq_left', Nat.zero_add, Value.int.injEq, Value.ref.injEq, List.cons.injEq, exists_and_left, and_assoc, exists_eq_left, List.all_cons, List.all_nil, m1_i, m1_r, Bool.and_self, Bool.and_true, bk_78_70, o_le_r, if_pos, Nat.le_refl, B_78_146, bk_78_146, if_pos, if_neg, not_true_eq_false, not_false_eq_true, or_true, true_or, or_false, false_or, false_and, and_false, Nat.reduceEqDiff, Nat.reduceLT, Nat.reduceMul, Nat.not_lt_zero, Nat.zero_le, Nat.le_refl, ne_eq, reduceIte, reduceCtorEq]
    rfl
  | succ d ih =>
    intro t ht X v h e2 e3 e5 e7
    have hle : ¬ 30 ≤ t := by omega
    obtain ⟨X1, x1, x3⟩ := tr_turn gw hs hru hlm hu h
    unfold wSafe
    rcases x3 with ⟨ok, y1, y2⟩ | ⟨ok, f, Y, c', f1, f2, y1, y2, y3, y4⟩
    rotate_left
    · rw [if_neg ok]
      refine ⟨Y, fun x hx => f2 x (by omega), ?_⟩
      rw [B_78_70]
      simp (disch := omega) only [e_iconst, e_bipush, e_sipush, e_iload_n, e_iload, e_aload_n, e_aload, e_istore_n, e_istore, e_astore_n, e_astore, e_iinc, e_iadd, e_isub, e_imul, e_iand, e_ishr, e_idiv, e_i2c, e_dup_i, e_dup_r, e_dup2, e_pop, e_goto, e_nop, e_if_eq, e_if_ne, e_if_lt, e_if_ge, e_if_gt, e_if_le, e_icmp_eq, e_icmp_ne, e_icmp_lt, e_icmp_ge, e_icmp_gt, e_icmp_le, e_tsw, e_ret0, e_ret1, e_retn, e_getI, e_getZ, e_getR, e_getV, e_getC, e_putI, e_putZ, e_putF, e_gst0, e_gst1, e_sld, e_iald, e_cald, e_bald, e_iast, e_cast, e_aald, e_aast, e_alen, e_slen, e_blen, e_newa, e_newq, e_new, e_oinit, e_ctor, e_virt, e_stat, e_min, e_copy, e_ldc, List.cons_append, List.nil_append, List.append_nil, List.length_cons, List.length_nil, List.replicate_succ, List.replicate_zero, List.getElem?_cons_zero, List.getElem?_cons_succ, List.set_cons_zero, List.set_cons_succ, List.take_succ_cons, List.take_zero, List.drop_succ_cons, List.drop_zero, List.reverse_cons, List.reverse_nil, Option.toList_some, Option.toList_none, Nat.reduceSub, Nat.reduceAdd, Nat.reduceLeDiff, true_and, and_true, and_self, Option.some.injEq, exists_eq_left', Nat.zero_add, Value.int.injEq, Value.ref.injEq, List.cons.injEq, exists_and_left, and_assoc, exists_eq_left, List.all_cons, List.all_nil, m1_i, m1_r, Bool.and_self, Bool.and_true, bk_78_70, o_le_r, hle, if_neg, a0, a1, a8, gs0, gz, e2, e3, C_51, y1, n_m1, if_pos, if_neg, not_true_eq_false, not_false_eq_true, or_true, true_or, or_false, false_or, false_and, and_false, Nat.reduceEqDiff, Nat.reduceLT, Nat.reduceMul, Nat.not_lt_zero, Nat.zero_le, Nat.le_refl, ne_eq, reduceIte, reduceCtorEq]
    · rw [if_pos ok]
      have hfin := tI_fin y2
      obtain ⟨-, b2, b3, b4⟩ := rFin_c (Q := fun _ _ => True) hfin hy gr' gw
      have b1 := fun Q => (rFin_c (Q := Q) hfin hy gr' gw).1
      have b5 : rdS X1 188 190 c y (7 + 4 * s) 5 = nI c := by rw [rdS_o (by omega), x1 _ (by omega)]; exact e5
      have b6 : fB (fun k => !(rdS X1 188 190 c y (188 + 1) k == rdS X1 188 190 c y (186 + 1) k)) c c = fB (dF (nbR (gR1 v s u) s c y) nb) c c := fB_cg c (Nat.le_refl _) (fun k hk => by
        show (!(rdS X1 188 190 c y 189 k == rdS X1 188 190 c y 187 k)) = _
        rw [b2 k hk, rdS_o (by omega), x1 187 (by omega), e7 k hk]; rfl)
      have b7 := fun Q => m_readTheSame (I := rdS X1 188 190 c y) (Q := Q) gr' gr hc
      rw [b6] at b7
      by_cases e : fB (dF (nbR (gR1 v s u) s c y) nb) c c = c
      · simp only [if_pos e] at b7
        rw [if_pos e]
        obtain ⟨X', z1, z3⟩ := ih (t + 1) (by omega) (rdS X1 188 190 c y) (gR1 v s u) (tI_out y2 (fun x p q => rdS_o (by omega))) (by rw [rdS_o (by omega), x1 1 (by omega)]; exact e2) (by rw [rdS_o (by omega), x1 1 (by omega)]; exact e3) b5 (fun i hi => by rw [rdS_o (by omega), x1 187 (by omega)]; exact e7 i hi)
        refine ⟨X', fun x hx => by rw [z1 x hx, rdS_o (by omega), x1 x (by omega)], ?_⟩
        rw [B_78_70]
        simp (disch := omega) only [e_iconst, e_bipush, e_sipush, e_iload_n, e_iload, e_aload_n, e_aload, e_istore_n, e_istore, e_astore_n, e_astore, e_iinc, e_iadd, e_isub, e_imul, e_iand, e_ishr, e_idiv, e_i2c, e_dup_i, e_dup_r, e_dup2, e_pop, e_goto, e_nop, e_if_eq, e_if_ne, e_if_lt, e_if_ge, e_if_gt, e_if_le, e_icmp_eq, e_icmp_ne, e_icmp_lt, e_icmp_ge, e_icmp_gt, e_icmp_le, e_tsw, e_ret0, e_ret1, e_retn, e_getI, e_getZ, e_getR, e_getV, e_getC, e_putI, e_putZ, e_putF, e_gst0, e_gst1, e_sld, e_iald, e_cald, e_bald, e_iast, e_cast, e_aald, e_aast, e_alen, e_slen, e_blen, e_newa, e_newq, e_new, e_oinit, e_ctor, e_virt, e_stat, e_min, e_copy, e_ldc, List.cons_append, List.nil_append, List.append_nil, List.length_cons, List.length_nil, List.replicate_succ, List.replicate_zero, List.getElem?_cons_zero, List.getElem?_cons_succ, List.set_cons_zero, List.set_cons_succ, List.take_succ_cons, List.take_zero, List.drop_succ_cons, List.drop_zero, List.reverse_cons, List.reverse_nil, Option.toList_some, Option.toList_none, Nat.reduceSub, Nat.reduceAdd, Nat.reduceLeDiff, true_and, and_true, and_self, Option.some.injEq, exists_eq_left', Nat.zero_add, Value.int.injEq, Value.ref.injEq, List.cons.injEq, exists_and_left, and_assoc, exists_eq_left, List.all_cons, List.all_nil, m1_i, m1_r, Bool.and_self, Bool.and_true, bk_78_70, o_le_r, hle, if_neg, a0, a1, a8, gs0, gz, e2, e3, C_51, y1, o_eq, if_pos, if_neg, not_true_eq_false, not_false_eq_true, or_true, true_or, or_false, false_or, false_and, and_false, Nat.reduceEqDiff, Nat.reduceLT, Nat.reduceMul, Nat.not_lt_zero, Nat.zero_le, Nat.le_refl, ne_eq, reduceIte, reduceCtorEq]
        rw [B_78_106]
        simp (disch := omega) only [e_iconst, e_bipush, e_sipush, e_iload_n, e_iload, e_aload_n, e_aload, e_istore_n, e_istore, e_astore_n, e_astore, e_iinc, e_iadd, e_isub, e_imul, e_iand, e_ishr, e_idiv, e_i2c, e_dup_i, e_dup_r, e_dup2, e_pop, e_goto, e_nop, e_if_eq, e_if_ne, e_if_lt, e_if_ge, e_if_gt, e_if_le, e_icmp_eq, e_icmp_ne, e_icmp_lt, e_icmp_ge, e_icmp_gt, e_icmp_le, e_tsw, e_ret0, e_ret1, e_retn, e_getI, e_getZ, e_getR, e_getV, e_getC, e_putI, e_putZ, e_putF, e_gst0, e_gst1, e_sld, e_iald, e_cald, e_bald, e_iast, e_cast, e_aald, e_aast, e_alen, e_slen, e_blen, e_newa, e_newq, e_new, e_oinit, e_ctor, e_virt, e_stat, e_min, e_copy, e_ldc, List.cons_append, List.nil_append, List.append_nil, List.length_cons, List.length_nil, List.replicate_succ, List.replicate_zero, List.getElem?_cons_zero, List.getElem?_cons_succ, List.set_cons_zero, List.set_cons_succ, List.take_succ_cons, List.take_zero, List.drop_succ_cons, List.drop_zero, List.reverse_cons, List.reverse_nil, Option.toList_some, Option.toList_none, Nat.reduceSub, Nat.reduceAdd, Nat.reduceLeDiff, true_and, and_true, and_self, Option.some.injEq, exists_eq_left', Nat.zero_add, Value.int.injEq, Value.ref.injEq, List.cons.injEq, exists_and_left, and_assoc, exists_eq_left, List.all_cons, List.all_nil, m1_i, m1_r, Bool.and_self, Bool.and_true, bk_78_106, a0, a6, a7, a8, grz, grz', gz, za, C_18, C_23, b1, b5, b7, o_eq, if_pos, if_neg, not_true_eq_false, not_false_eq_true, or_true, true_or, or_false, false_or, false_and, and_false, Nat.reduceEqDiff, Nat.reduceLT, Nat.reduceMul, Nat.not_lt_zero, Nat.zero_le, Nat.le_refl, ne_eq, reduceIte, reduceCtorEq]
        rw [B_78_140]
        simp (disch := omega) only [e_iconst, e_bipush, e_sipush, e_iload_n, e_iload, e_aload_n, e_aload, e_istore_n, e_istore, e_astore_n, e_astore, e_iinc, e_iadd, e_isub, e_imul, e_iand, e_ishr, e_idiv, e_i2c, e_dup_i, e_dup_r, e_dup2, e_pop, e_goto, e_nop, e_if_eq, e_if_ne, e_if_lt, e_if_ge, e_if_gt, e_if_le, e_icmp_eq, e_icmp_ne, e_icmp_lt, e_icmp_ge, e_icmp_gt, e_icmp_le, e_tsw, e_ret0, e_ret1, e_retn, e_getI, e_getZ, e_getR, e_getV, e_getC, e_putI, e_putZ, e_putF, e_gst0, e_gst1, e_sld, e_iald, e_cald, e_bald, e_iast, e_cast, e_aald, e_aast, e_alen, e_slen, e_blen, e_newa, e_newq, e_new, e_oinit, e_ctor, e_virt, e_stat, e_min, e_copy, e_ldc, List.cons_append, List.nil_append, List.append_nil, List.length_cons, List.length_nil, List.replicate_succ, List.replicate_zero, List.getElem?_cons_zero, List.getElem?_cons_succ, List.set_cons_zero, List.set_cons_succ, List.take_succ_cons, List.take_zero, List.drop_succ_cons, List.drop_zero, List.reverse_cons, List.reverse_nil, Option.toList_some, Option.toList_none, Nat.reduceSub, Nat.reduceAdd, Nat.reduceLeDiff, true_and, and_true, and_self, Option.some.injEq, exists_eq_left', Nat.zero_add, Value.int.injEq, Value.ref.injEq, List.cons.injEq, exists_and_left, and_assoc, exists_eq_left, List.all_cons, List.all_nil, m1_i, m1_r, Bool.and_self, Bool.and_true, bk_78_140, o_add_l, if_pos, if_neg, not_true_eq_false, not_false_eq_true, or_true, true_or, or_false, false_or, false_and, and_false, Nat.reduceEqDiff, Nat.reduceLT, Nat.reduceMul, Nat.not_lt_zero, Nat.zero_le, Nat.le_refl, ne_eq, reduceIte, reduceCtorEq]
        exact z3
      · simp only [if_neg e] at b7
        rw [if_neg e]
        refine ⟨rdS X1 188 190 c y, fun x hx => by rw [rdS_o (by omega), x1 x (by omega)], ?_⟩
        rw [B_78_70]
        simp (disch := omega) only [e_iconst, e_bipush, e_sipush, e_iload_n, e_iload, e_aload_n, e_aload, e_istore_n, e_istore, e_astore_n, e_astore, e_iinc, e_iadd, e_isub, e_imul, e_iand, e_ishr, e_idiv, e_i2c, e_dup_i, e_dup_r, e_dup2, e_pop, e_goto, e_nop, e_if_eq, e_if_ne, e_if_lt, e_if_ge, e_if_gt, e_if_le, e_icmp_eq, e_icmp_ne, e_icmp_lt, e_icmp_ge, e_icmp_gt, e_icmp_le, e_tsw, e_ret0, e_ret1, e_retn, e_getI, e_getZ, e_getR, e_getV, e_getC, e_putI, e_putZ, e_putF, e_gst0, e_gst1, e_sld, e_iald, e_cald, e_bald, e_iast, e_cast, e_aald, e_aast, e_alen, e_slen, e_blen, e_newa, e_newq, e_new, e_oinit, e_ctor, e_virt, e_stat, e_min, e_copy, e_ldc, List.cons_append, List.nil_append, List.append_nil, List.length_cons, List.length_nil, List.replicate_succ, List.replicate_zero, List.getElem?_cons_zero, List.getElem?_cons_succ, List.set_cons_zero, List.set_cons_succ, List.take_succ_cons, List.take_zero, List.drop_succ_cons, List.drop_zero, List.reverse_cons, List.reverse_nil, Option.toList_some, Option.toList_none, Nat.reduceSub, Nat.reduceAdd, Nat.reduceLeDiff, true_and, and_true, and_self, Option.some.injEq, exists_eq_left', Nat.zero_add, Value.int.injEq, Value.ref.injEq, List.cons.injEq, exists_and_left, and_assoc, exists_eq_left, List.all_cons, List.all_nil, m1_i, m1_r, Bool.and_self, Bool.and_true, bk_78_70, o_le_r, hle, if_neg, a0, a1, a8, gs0, gz, e2, e3, C_51, y1, o_eq, if_pos, if_neg, not_true_eq_false, not_false_eq_true, or_true, true_or, or_false, false_or, false_and, and_false, Nat.reduceEqDiff, Nat.reduceLT, Nat.reduceMul, Nat.not_lt_zero, Nat.zero_le, Nat.le_refl, ne_eq, reduceIte, reduceCtorEq]
        rw [B_78_106]
        simp (disch := omega) only [e_iconst, e_bipush, e_sipush, e_iload_n, e_iload, e_aload_n, e_aload, e_istore_n, e_istore, e_astore_n, e_astore, e_iinc, e_iadd, e_isub, e_imul, e_iand, e_ishr, e_idiv, e_i2c, e_dup_i, e_dup_r, e_dup2, e_pop, e_goto, e_nop, e_if_eq, e_if_ne, e_if_lt, e_if_ge, e_if_gt, e_if_le, e_icmp_eq, e_icmp_ne, e_icmp_lt, e_icmp_ge, e_icmp_gt, e_icmp_le, e_tsw, e_ret0, e_ret1, e_retn, e_getI, e_getZ, e_getR, e_getV, e_getC, e_putI, e_putZ, e_putF, e_gst0, e_gst1, e_sld, e_iald, e_cald, e_bald, e_iast, e_cast, e_aald, e_aast, e_alen, e_slen, e_blen, e_newa, e_newq, e_new, e_oinit, e_ctor, e_virt, e_stat, e_min, e_copy, e_ldc, List.cons_append, List.nil_append, List.append_nil, List.length_cons, List.length_nil, List.replicate_succ, List.replicate_zero, List.getElem?_cons_zero, List.getElem?_cons_succ, List.set_cons_zero, List.set_cons_succ, List.take_succ_cons, List.take_zero, List.drop_succ_cons, List.drop_zero, List.reverse_cons, List.reverse_nil, Option.toList_some, Option.toList_none, Nat.reduceSub, Nat.reduceAdd, Nat.reduceLeDiff, true_and, and_true, and_self, Option.some.injEq, exists_eq_left', Nat.zero_add, Value.int.injEq, Value.ref.injEq, List.cons.injEq, exists_and_left, and_assoc, exists_eq_left, List.all_cons, List.all_nil, m1_i, m1_r, Bool.and_self, Bool.and_true, bk_78_106, a0, a6, a7, a8, grz, grz', gz, za, C_18, C_23, b1, b5, b7, o_eq, if_pos, if_neg, not_true_eq_false, not_false_eq_true, or_true, true_or, or_false, false_or, false_and, and_false, Nat.reduceEqDiff, Nat.reduceLT, Nat.reduceMul, Nat.not_lt_zero, Nat.zero_le, Nat.le_refl, ne_eq, reduceIte, reduceCtorEq]
theorem wCp_o {I : Nat → Nat → Int32} {a b x : Nat} (hx : x ≠ a ∧ x ≠ a + 1 ∧ x ≠ a + 2 ∧ x ≠ a + 3) : wCp I a b x = I x := by
  funext j
  unfold wCp
  rw [if_neg (by omega), if_neg (by omega), if_neg (by omega), if_neg (by omega)]
theorem wCp_rW {I : Nat → Nat → Int32} {a b s p cl c : Nat} {v : Nat → Int32} (h : rW I b v s p cl c) : rW (wCp I a b) a v s p cl c := by
  refine rW_cong h (fun d j hd hd0 hj => ?_) (fun _ _ _ => rfl)
  unfold wCp
  rcases (show d = 0 ∨ d = 1 ∨ d = 2 ∨ d = 3 by omega) with rfl | rfl | rfl | rfl
  · rw [if_pos ⟨rfl, (hd0 rfl).1, (hd0 rfl).2⟩]; rfl
  · rw [if_neg (by omega), if_pos ⟨rfl, hj⟩]
  · rw [if_neg (by omega), if_neg (by omega), if_pos ⟨rfl, hj⟩]
  · rw [if_neg (by omega), if_neg (by omega), if_neg (by omega), if_pos ⟨rfl, hj⟩]
/-- what safeRewinds answers -/
noncomputable def aSafe (v : Nat → Int32) (s w u : Nat) : Int32 := if gp v s = 0 then -4 else nI (wSafe s u (gc v s) (nI w) (nbR v s (gc v s) (nI w)) 30 0 v)
set_option maxHeartbeats 8000000 in
theorem q_safe {K : mK} {R : Nat → Nat → Option Nat} {I : Nat → Nat → Int32} {v H : Nat → Int32} {T : Nat → Nat} {n t : Nat} (hrel : REL K R I v n H t T) (s w u : Nat) (hs : s < 6) (hw0 : w ≤ 1) (hu : u ≤ 9) : QO 78 [.int (nI s), .int (nI w), .int (nI u)] K R I (aSafe v s w u) := by
  obtain ⟨f, g, hv, hn2, hn, hH, hP, hT⟩ := id hrel
  have q4 := qTu_lt g hn2
  obtain ⟨gs, -, gh, gw, gr, gr', ⟨a0, a1, a2, a3, a4, a5, a6, a7, a8⟩, ⟨b0, b1, b2⟩, cc0⟩ := id g
  have gs0 : K.2.2.1 1 = (1, 4) := gs.1
  have gs1 : R 1 0 = some 2 := gs.2.1
  have gs2 : K.2.2.1 2 = (4, 6) := gs.2.2.1
  have gs3 : R 1 1 = some 3 := gs.2.2.2.1
  have gs4 : zL K R 3 := gs.2.2.2.2.1
  have gW : ∀ s, s < 6 → zW K R (7 + 4 * s) := fun s hs => (gs.2.2.2.2.2.2 s hs).2
  have gR : ∀ s, s < 6 → R 2 s = some (7 + 4 * s) := fun s hs => (gs.2.2.2.2.2.2 s hs).1
  have gh0 := gh.1
  have gsl : K.2.2.1 3 = (1, 2) := gs4.1
  have gT := zG_tu (n := n) g
  have gst : zS K (RTu R n) 1 := gT.1
  have gt1 : RTu R n 1 0 = some 2 := gst.2.1
  have gt3 : RTu R n 1 1 = some 3 := gst.2.2.2.1
  have gt4 : zL K (RTu R n) 3 := gst.2.2.2.2.1
  have gWt : ∀ s, s < 6 → zW K (RTu R n) (7 + 4 * s) := fun s hs => (gst.2.2.2.2.2.2 s hs).2
  have gRt : ∀ s, s < 6 → RTu R n 2 s = some (7 + 4 * s) := fun s hs => (gst.2.2.2.2.2.2 s hs).1
  obtain ⟨-, a1t, a2t, a3t, a4t, a5t, a6t, a7t, a8t⟩ := gT.2.2.2.2.2.2.1
  have c1 := one_rng hw0
  have c2 := pull_rng hu
  have hy := one_n2 hw0
  obtain ⟨pA, clA, cA, hwA⟩ := hv.1 s hs
  rw [show 1 + 6 + 4 * s = 7 + 4 * s by omega] at hwA
  obtain ⟨wfA, vfA, k0A, k1A, k2A, k3A, k4A, k5A⟩ := id hwA
  obtain ⟨f1A, f2A, f3A, f4A, f5A, f6A⟩ := id wfA
  obtain ⟨v1A, v2A, v3A, -⟩ := id vfA
  have zwA := gW s hs
  have zwtA := gWt s hs
  have rwA := gR s hs
  have rwtA := gRt s hs
  have zw0A : K.2.2.1 (7 + 4 * s) = (1, 6) := zwA.1
  obtain ⟨g1, g2, g3⟩ := g_vF vfA
  unfold aSafe
  rw [g1, g3]
  rcases (show pA = 0 ∨ pA = 1 by omega) with rfl | rfl
  · rw [if_pos rfl]
    refine ⟨I, ?_, SCR_id⟩
    simp (disch := omega) only [e_iconst, e_bipush, e_sipush, e_iload_n, e_iload, e_aload_n, e_aload, e_istore_n, e_istore, e_astore_n, e_astore, e_iinc, e_iadd, e_isub, e_imul, e_iand, e_ishr, e_idiv, e_i2c, e_dup_i, e_dup_r, e_dup2, e_pop, e_goto, e_nop, e_if_eq, e_if_ne, e_if_lt, e_if_ge, e_if_gt, e_if_le, e_icmp_eq, e_icmp_ne, e_icmp_lt, e_icmp_ge, e_icmp_gt, e_icmp_le, e_tsw, e_ret0, e_ret1, e_retn, e_getI, e_getZ, e_getR, e_getV, e_getC, e_putI, e_putZ, e_putF, e_gst0, e_gst1, e_sld, e_iald, e_cald, e_bald, e_iast, e_cast, e_aald, e_aast, e_alen, e_slen, e_blen, e_newa, e_newq, e_new, e_oinit, e_ctor, e_virt, e_stat, e_min, e_copy, e_ldc, List.cons_append, List.nil_append, List.append_nil, List.length_cons, List.length_nil, List.replicate_succ, List.replicate_zero, List.getElem?_cons_zero, List.getElem?_cons_succ, List.set_cons_zero, List.set_cons_succ, List.take_succ_cons, List.take_zero, List.drop_succ_cons, List.drop_zero, List.reverse_cons, List.reverse_nil, Option.toList_some, Option.toList_none, Nat.reduceSub, Nat.reduceAdd, Nat.reduceLeDiff, true_and, and_true, and_self, Option.some.injEq, exists_eq_left', Nat.zero_add, Value.int.injEq, Value.ref.injEq, List.cons.injEq, exists_and_left, and_assoc, exists_eq_left, List.all_cons, List.all_nil, m1_i, m1_r, Bool.and_self, Bool.and_true, E_in 78, N_78, B_78_0, bk_78_0, B_78_9, bk_78_9, B_78_26, bk_78_26, C_81, C_84, C_82, m_isSp hs, m_oneI c1, m_pullI c2, a0, a1, gs0, gs1, gs2, zw0A, rwA, n_in, n_cl, true_or, or_true, f1A, o_eq_l, o_eq, if_pos, if_neg, not_true_eq_false, not_false_eq_true, or_true, true_or, or_false, false_or, false_and, and_false, Nat.reduceEqDiff, Nat.reduceLT, Nat.reduceMul, Nat.not_lt_zero, Nat.zero_le, Nat.le_refl, ne_eq, reduceIte, reduceCtorEq]
  rw [if_neg (by omega)]
  obtain ⟨e2, e3, e4, e5, e6, e7, e8, ⟨ru, ru1, ru2⟩, ⟨lm, lm0, lm1, lm2⟩, ln, l1, l2, l3, l4⟩ := id hv.2
  have hw2 : nI w = 2 → clA = 1 := fun e => absurd e hy
  have grz := gr.1
  have gz := gw.1
  obtain ⟨d1, d2, d3, d4, d5⟩ := rd_cls (r := 186) hwA hw2
  have wc : ∀ x, x < 186 ∨ 193 < x → wCp (rdS I 186 (7 + 4 * s) cA (nI w)) 190 (7 + 4 * s) x = I x := fun x hx => by rw [wCp_o (by omega), rdS_o (by omega)]
  have hw0' : rW (rdS I 186 (7 + 4 * s) cA (nI w)) (7 + 4 * s) v s 1 clA cA := rW_out hwA (fun x x1 x2 => rdS_o (by omega))
  obtain ⟨p1, p2, p3, p4, p5, p6⟩ := id hw0'.1
  have hti : tI (wCp (rdS I 186 (7 + 4 * s) cA (nI w)) 190 (7 + 4 * s)) v s clA cA ru lm := ⟨⟨_, wCp_rW hw0', fun _ _ _ => rfl⟩, ru2, lm2, ln, l1, l3⟩
  obtain ⟨X', z1, z3⟩ := sr_loop (y := nI w) (nb := nbR v s cA (nI w)) gw gr gr' hs ru1 lm1 hu hy f6A a0 a1 a6 a7 a8 gs0 zw0A 30 0 (by omega) _ v hti (by rw [wc _ (by omega), e2, ru2]) (by rw [wc _ (by omega), e3, lm2]) (by rw [wc _ (by omega)]; exact f3A) (fun i hi => by rw [wCp_o (by omega)]; exact d2 i hi)
  refine ⟨X', ?_, SCR_tri (fun x hx => by rw [z1 x (by omega), wc x (by omega)])⟩
  simp (disch := omega) only [e_iconst, e_bipush, e_sipush, e_iload_n, e_iload, e_aload_n, e_aload, e_istore_n, e_istore, e_astore_n, e_astore, e_iinc, e_iadd, e_isub, e_imul, e_iand, e_ishr, e_idiv, e_i2c, e_dup_i, e_dup_r, e_dup2, e_pop, e_goto, e_nop, e_if_eq, e_if_ne, e_if_lt, e_if_ge, e_if_gt, e_if_le, e_icmp_eq, e_icmp_ne, e_icmp_lt, e_icmp_ge, e_icmp_gt, e_icmp_le, e_tsw, e_ret0, e_ret1, e_retn, e_getI, e_getZ, e_getR, e_getV, e_getC, e_putI, e_putZ, e_putF, e_gst0, e_gst1, e_sld, e_iald, e_cald, e_bald, e_iast, e_cast, e_aald, e_aast, e_alen, e_slen, e_blen, e_newa, e_newq, e_new, e_oinit, e_ctor, e_virt, e_stat, e_min, e_copy, e_ldc, List.cons_append, List.nil_append, List.append_nil, List.length_cons, List.length_nil, List.replicate_succ, List.replicate_zero, List.getElem?_cons_zero, List.getElem?_cons_succ, List.set_cons_zero, List.set_cons_succ, List.take_succ_cons, List.take_zero, List.drop_succ_cons, List.drop_zero, List.reverse_cons, List.reverse_nil, Option.toList_some, Option.toList_none, Nat.reduceSub, Nat.reduceAdd, Nat.reduceLeDiff, true_and, and_true, and_self, Option.some.injEq, exists_eq_left', Nat.zero_add, Value.int.injEq, Value.ref.injEq, List.cons.injEq, exists_and_left, and_assoc, exists_eq_left, List.all_cons, List.all_nil, m1_i, m1_r, Bool.and_self, Bool.and_true, E_in 78, N_78, B_78_0, bk_78_0, B_78_9, bk_78_9, B_78_26, bk_78_26, C_81, C_84, C_82, m_isSp hs, m_oneI c1, m_pullI c2, a0, a1, gs0, gs1, gs2, zw0A, rwA, n_in, n_cl, true_or, or_true, f1A, o_eq_l, o_eq, if_neg, if_pos, if_neg, not_true_eq_false, not_false_eq_true, or_true, true_or, or_false, false_or, false_and, and_false, Nat.reduceEqDiff, Nat.reduceLT, Nat.reduceMul, Nat.not_lt_zero, Nat.zero_le, Nat.le_refl, ne_eq, reduceIte, reduceCtorEq]
  simp (disch := omega) only [e_iconst, e_bipush, e_sipush, e_iload_n, e_iload, e_aload_n, e_aload, e_istore_n, e_istore, e_astore_n, e_astore, e_iinc, e_iadd, e_isub, e_imul, e_iand, e_ishr, e_idiv, e_i2c, e_dup_i, e_dup_r, e_dup2, e_pop, e_goto, e_nop, e_if_eq, e_if_ne, e_if_lt, e_if_ge, e_if_gt, e_if_le, e_icmp_eq, e_icmp_ne, e_icmp_lt, e_icmp_ge, e_icmp_gt, e_icmp_le, e_tsw, e_ret0, e_ret1, e_retn, e_getI, e_getZ, e_getR, e_getV, e_getC, e_putI, e_putZ, e_putF, e_gst0, e_gst1, e_sld, e_iald, e_cald, e_bald, e_iast, e_cast, e_aald, e_aast, e_alen, e_slen, e_blen, e_newa, e_newq, e_new, e_oinit, e_ctor, e_virt, e_stat, e_min, e_copy, e_ldc, List.cons_append, List.nil_append, List.append_nil, List.length_cons, List.length_nil, List.replicate_succ, List.replicate_zero, List.getElem?_cons_zero, List.getElem?_cons_succ, List.set_cons_zero, List.set_cons_succ, List.take_succ_cons, List.take_zero, List.drop_succ_cons, List.drop_zero, List.reverse_cons, List.reverse_nil, Option.toList_some, Option.toList_none, Nat.reduceSub, Nat.reduceAdd, Nat.reduceLeDiff, true_and, and_true, and_self, Option.some.injEq, exists_eq_left', Nat.zero_add, Value.int.injEq, Value.ref.injEq, List.cons.injEq, exists_and_left, and_assoc, exists_eq_left, List.all_cons, List.all_nil, m1_i, m1_r, Bool.and_self, Bool.and_true, B_78_48, bk_78_48, a0, a6, a8, grz, gz, true_or, or_true, C_18, C_36, m_rd gr zwA (by omega) hwA hw2, m_wcopy gw zwA (by omega) p1 p4 p2 p5, if_pos, if_neg, not_true_eq_false, not_false_eq_true, or_true, true_or, or_false, false_or, false_and, and_false, Nat.reduceEqDiff, Nat.reduceLT, Nat.reduceMul, Nat.not_lt_zero, Nat.zero_le, Nat.le_refl, ne_eq, reduceIte, reduceCtorEq]
  exact z3
