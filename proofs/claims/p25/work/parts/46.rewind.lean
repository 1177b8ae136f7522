/-! rewind -/
theorem RC_wire {I : Nat → Nat → Int32} {v : Nat → Int32} {s : Nat} (h : RC I 1 v) (hs : s < 6) (hp : I (7 + 4 * s) 3 = nI 1) : ∃ cl c, rW I (7 + 4 * s) v s 1 cl c := by
  obtain ⟨p, cl, c, hw⟩ := h.1 s hs
  rw [show 1 + 6 + 4 * s = 7 + 4 * s by omega] at hw
  have h1 := hw.1.1
  have h2 := hw.1.2.2.2.1
  rw [hp, n_eq (by omega) (by omega)] at h1
  subst h1
  exact ⟨cl, c, hw⟩
/-- the ghost behind the rest of a rewinding, d turns more beside the one that comes: how many turns there were in all, ti the number of this one -/
def wWind (s u : Nat) : Nat → Nat → (Nat → Int32) → Nat × (Nat → Int32)
  | 0, ti, v => if fB (vBd v s (nI u) (gn v s)) (gn v s) (gn v s) = gn v s then (ti, vR1 v s (nI u) (gn v s) (gln v)) else (ti, vR2 (vR1 v s (nI u) (gn v s) (gln v)) s (gc v s) (gl v s) (fB (vBd v s (nI u) (gn v s)) (gn v s) (gn v s)) (lnx (gln v)))
  | d + 1, ti, v => if fB (vBd v s (nI u) (gn v s)) (gn v s) (gn v s) = gn v s then wWind s u d (ti + 1) (vR1 v s (nI u) (gn v s) (gln v)) else (ti, vR2 (vR1 v s (nI u) (gn v s) (gln v)) s (gc v s) (gl v s) (fB (vBd v s (nI u) (gn v s)) (gn v s) (gn v s)) (lnx (gln v)))
theorem rW_gn {I : Nat → Nat → Int32} {a s p cl c : Nat} {v : Nat → Int32} (h : rW I a v s p cl c) : gn v s = c + 1 + cl ∧ gc v s = c ∧ gl v s = cl ∧ gp v s = p := by
  obtain ⟨g1, g2, g3⟩ := g_vF h.2.1
  unfold gn
  rw [g2, g3]
  exact ⟨rfl, rfl, rfl, g1⟩
set_option maxHeartbeats 8000000 in
theorem wind_all {K : mK} {R : Nat → Nat → Option Nat} (h : zS K R 1) {s u T : Nat} (hs : s < 6) (hu : u ≤ 9) (hT2 : T ≤ 30) : ∀ (d ti : Nat), ti + d = T → 1 ≤ ti → ∀ (I : Nat → Nat → Int32) (v : Nat → Int32) (l5 : Value), RC I 1 v → (∃ cl c, rW I (7 + 4 * s) v s 1 cl c) →
    ∃ I2, Ev 29 (mB 29 3) [.ref 1, .int (nI s), .int (nI u), .int (nI T), .int (nI ti), l5] [] (K, R, I) (fun w k => w = some (.int (nI (wWind s u d ti v).1)) ∧ k = (K, R, I2)) ∧ RC I2 1 (wWind s u d ti v).2 ∧ (∀ x, x = 0 ∨ 31 ≤ x → I2 x = I x) := by
  intro d
  induction d with
  | zero =>
    intro ti hti ht1 I v l5 hv ⟨cl, c, hw⟩
    obtain ⟨e2, e3, e4, e5, e6, e7, e8, ⟨ru, ru1, ru2⟩, ⟨lm, lm0, lm1, lm2⟩, ln, l1, l2, l3, l4⟩ := id hv.2
    have gl1 : gln v = ln := by unfold gln; rw [l3]; exact n_cl (by omega)
    obtain ⟨g1, g2, g3, g4⟩ := rW_gn hw
    have hf := hw.1
    obtain ⟨x1, x2⟩ := str_eq (lm := lm) (u := u) hw ru2 lm2
    have x3 : fB (wBd I (7 + 4 * s) (I 1 2) (I 1 3) (nI u) (c + 1 + cl)) (c + 1 + cl) (c + 1 + cl) = fB (vBd v s (nI u) (c + 1 + cl)) (c + 1 + cl) (c + 1 + cl) := by rw [e2, e3, ru2, lm2]; exact x2
    have hrl : rLn I v ln := ⟨l1, l2, l3, l4⟩
    have fle := (fB_le (vBd v s (nI u) (c + 1 + cl)) (c + 1 + cl) (c + 1 + cl) (Nat.le_refl _)).1
    have hT : ti = T := by omega
    unfold wWind
    rw [g1, g2, g3, gl1]
    by_cases e : fB (vBd v s (nI u) (c + 1 + cl)) (c + 1 + cl) (c + 1 + cl) = c + 1 + cl
    · have w1 := W1_rel hv hs hu hw hrl e
      rw [if_pos e]
      refine ⟨cW1 I s u (c + 1 + cl) ln, ?_, w1, fun x hx => ?_⟩
      · rw [c_turn h hs hf l2 l1 (by omega) hT2 x3, if_pos e, B_29_3]
        simp (disch := omega) only [e_iconst, e_bipush, e_sipush, e_iload_n, e_iload, e_aload_n, e_aload, e_istore_n, e_istore, e_astore_n, e_astore, e_iinc, e_iadd, e_isub, e_imul, e_iand, e_ishr, e_idiv, e_i2c, e_dup_i, e_dup_r, e_dup2, e_pop, e_goto, e_nop, e_if_eq, e_if_ne, e_if_lt, e_if_ge, e_if_gt, e_if_le, e_icmp_eq, e_icmp_ne, e_icmp_lt, e_icmp_ge, e_icmp_gt, e_icmp_le, e_tsw, e_ret0, e_ret1, e_retn, e_getI, e_getZ, e_getR, e_getV, e_getC, e_putI, e_putZ, e_putF, e_gst0, e_gst1, e_sld, e_iald, e_cald, e_bald, e_iast, e_cast, e_aald, e_aast, e_alen, e_slen, e_blen, e_newa, e_newq, e_new, e_oinit, e_ctor, e_virt, e_stat, e_min, e_copy, e_ldc, List.cons_append, List.nil_append, List.append_nil, List.length_cons, List.length_nil, List.replicate_succ, List.replicate_zero, List.getElem?_cons_zero, List.getElem?_cons_succ, List.set_cons_zero, List.set_cons_succ, List.take_succ_cons, List.take_zero, List.drop_succ_cons, List.drop_zero, List.reverse_cons, List.reverse_nil, Option.toList_some, Option.toList_none, Nat.reduceSub, Nat.reduceAdd, Nat.reduceLeDiff, true_and, and_true, and_self, Option.some.injEq, exists_eq_left', Nat.zero_add, Value.int.injEq, Value.ref.injEq, List.cons.injEq, exists_and_left, and_assoc, exists_eq_left, List.all_cons, List.all_nil, m1_i, m1_r, Bool.and_self, Bool.and_true, bk_29_3, n_lt, if_pos, B_29_99, bk_29_99, hT, if_pos, if_neg, not_true_eq_false, not_false_eq_true, or_true, true_or, or_false, false_or, false_and, and_false, Nat.reduceEqDiff, Nat.reduceLT, Nat.reduceMul, Nat.not_lt_zero, Nat.zero_le, Nat.le_refl, ne_eq, reduceIte, reduceCtorEq]
      · funext j; unfold cW1; simp (disch := omega) only [lAd_o, s_ne, wSt_o]
    · have w2 := W2_rel hv hs hu hw hrl rfl (by omega)
      rw [if_neg e]
      refine ⟨_, ?_, w2, fun x hx => ?_⟩
      · rw [c_turn h hs hf l2 l1 (by omega) hT2 x3, if_neg e]
        exact ⟨rfl, rfl⟩
      · funext j; unfold cW2 cW1; simp (disch := omega) only [lAd_o, s_ne, cBr_o, wSt_o]
  | succ d ih =>
    intro ti hti ht1 I v l5 hv ⟨cl, c, hw⟩
    obtain ⟨e2, e3, e4, e5, e6, e7, e8, ⟨ru, ru1, ru2⟩, ⟨lm, lm0, lm1, lm2⟩, ln, l1, l2, l3, l4⟩ := id hv.2
    have gl1 : gln v = ln := by unfold gln; rw [l3]; exact n_cl (by omega)
    obtain ⟨g1, g2, g3, g4⟩ := rW_gn hw
    have hf := hw.1
    obtain ⟨x1, x2⟩ := str_eq (lm := lm) (u := u) hw ru2 lm2
    have x3 : fB (wBd I (7 + 4 * s) (I 1 2) (I 1 3) (nI u) (c + 1 + cl)) (c + 1 + cl) (c + 1 + cl) = fB (vBd v s (nI u) (c + 1 + cl)) (c + 1 + cl) (c + 1 + cl) := by rw [e2, e3, ru2, lm2]; exact x2
    have hrl : rLn I v ln := ⟨l1, l2, l3, l4⟩
    have fle := (fB_le (vBd v s (nI u) (c + 1 + cl)) (c + 1 + cl) (c + 1 + cl) (Nat.le_refl _)).1
    unfold wWind
    rw [g1, g2, g3, gl1]
    by_cases e : fB (vBd v s (nI u) (c + 1 + cl)) (c + 1 + cl) (c + 1 + cl) = c + 1 + cl
    · have w1 := W1_rel hv hs hu hw hrl e
      rw [if_pos e]
      obtain ⟨I2, y1, y2, y3⟩ := ih (ti + 1) (by omega) (by omega) (cW1 I s u (c + 1 + cl) ln) (vR1 v s (nI u) (c + 1 + cl) ln) (.int (-1)) w1 (RC_wire w1 hs (by
        unfold cW1; simp (disch := omega) only [lAd_o, s_ne, wSt_o]; exact hf.1))
      refine ⟨I2, ?_, y2, fun x hx => ?_⟩
      · rw [c_turn h hs hf l2 l1 (by omega) hT2 x3, if_pos e]
        exact y1
      · rw [y3 x hx]; funext j; unfold cW1; simp (disch := omega) only [lAd_o, s_ne, wSt_o]
    · have w2 := W2_rel hv hs hu hw hrl rfl (by omega)
      rw [if_neg e]
      refine ⟨_, ?_, w2, fun x hx => ?_⟩
      · rw [c_turn h hs hf l2 l1 (by omega) hT2 x3, if_neg e]
        exact ⟨rfl, rfl⟩
      · funext j; unfold cW2 cW1; simp (disch := omega) only [lAd_o, s_ne, cBr_o, wSt_o]
theorem m_isPu {u : Nat} {h : mH} {Q : Option Value → mH → Prop} (hu : u ≤ 9) : EvM 82 [.int (nI u)] h Q ↔ Q (some (.int 1)) h := by
  rw [m_isPull, if_neg (n_ne0 (by omega)), if_neg (by rw [show (9 : Int32) = nI 9 from rfl, n_lt (by omega) (by omega)]; omega)]
set_option maxHeartbeats 8000000 in
theorem q_rewind {K : mK} {R : Nat → Nat → Option Nat} {I : Nat → Nat → Int32} {v H : Nat → Int32} {TT : Nat → Nat} {n tt : Nat} (hrel : REL K R I v n H tt TT) (s u T : Nat) (hs : s < 6) (hu : u ≤ 9) (hT1 : 1 ≤ T) (hT2 : T ≤ 30) : if gp v s = 0 then QO 61 [.int (nI s), .int (nI u), .int (nI T)] K R I (-4) else AO 61 [.int (nI s), .int (nI u), .int (nI T)] K R I (nI (wWind s u (T - 1) 1 v).1) (wWind s u (T - 1) 1 v).2 (nTu n) (vRec H v n) tt TT := by
  obtain ⟨f, g, hv, hn2, hn, hH, hP, hT⟩ := id hrel
  have q4 := qTu_lt g hn2
  obtain ⟨gs, -, gh, gw, gr, gr', ⟨a0, a1, a2, a3, a4, a5, a6, a7, a8⟩, ⟨b0, b1, b2⟩, cc0⟩ := id g
  have gs0 : K.2.2.1 1 = (1, 4) := gs.1
  have gs1 : R 1 0 = some 2 := gs.2.1
  have gs2 : K.2.2.1 2 = (4, 6) := gs.2.2.1
  have gs3 : R 1 1 = some 3 := gs.2.2.2.1
  have gs4 : zL K R 3 := gs.2.2.2.2.1
  have gW : ∀ s, s < 6 → zW K R (7 + 4 * s) := fun s hs => (gs.2.2.2.2.2.2 s hs).2
  have gR : ∀ s, s < 6 → R 2 s = some (7 + 4 * s) := fun s hs => (gs.2.2.2.2.2.2 s hs).1
  have gh0 := gh.1
  have gsl : K.2.2.1 3 = (1, 2) := gs4.1
  have gT := zG_tu (n := n) g
  have gst : zS K (RTu R n) 1 := gT.1
  have gt1 : RTu R n 1 0 = some 2 := gst.2.1
  have gt3 : RTu R n 1 1 = some 3 := gst.2.2.2.1
  have gt4 : zL K (RTu R n) 3 := gst.2.2.2.2.1
  have gWt : ∀ s, s < 6 → zW K (RTu R n) (7 + 4 * s) := fun s hs => (gst.2.2.2.2.2.2 s hs).2
  have gRt : ∀ s, s < 6 → RTu R n 2 s = some (7 + 4 * s) := fun s hs => (gst.2.2.2.2.2.2 s hs).1
  obtain ⟨-, a1t, a2t, a3t, a4t, a5t, a6t, a7t, a8t⟩ := gT.2.2.2.2.2.2.1
  obtain ⟨pA, clA, cA, hwA⟩ := hv.1 s hs
  rw [show 1 + 6 + 4 * s = 7 + 4 * s by omega] at hwA
  obtain ⟨wfA, vfA, k0A, k1A, k2A, k3A, k4A, k5A⟩ := id hwA
  obtain ⟨f1A, f2A, f3A, f4A, f5A, f6A⟩ := id wfA
  obtain ⟨v1A, v2A, v3A, -⟩ := id vfA
  have zwA := gW s hs
  have zwtA := gWt s hs
  have rwA := gR s hs
  have rwtA := gRt s hs
  have zw0A : K.2.2.1 (7 + 4 * s) = (1, 6) := zwA.1
  obtain ⟨g1A, g2A, g3A⟩ := g_vF vfA
  rw [g1A]
  rcases (show pA = 0 ∨ pA = 1 by omega) with rfl | rfl
  · rw [if_pos rfl]
    refine ⟨I, ?_, SCR_id⟩
    simp (disch := omega) only [e_iconst, e_bipush, e_sipush, e_iload_n, e_iload, e_aload_n, e_aload, e_istore_n, e_istore, e_astore_n, e_astore, e_iinc, e_iadd, e_isub, e_imul, e_iand, e_ishr, e_idiv, e_i2c, e_dup_i, e_dup_r, e_dup2, e_pop, e_goto, e_nop, e_if_eq, e_if_ne, e_if_lt, e_if_ge, e_if_gt, e_if_le, e_icmp_eq, e_icmp_ne, e_icmp_lt, e_icmp_ge, e_icmp_gt, e_icmp_le, e_tsw, e_ret0, e_ret1, e_retn, e_getI, e_getZ, e_getR, e_getV, e_getC, e_putI, e_putZ, e_putF, e_gst0, e_gst1, e_sld, e_iald, e_cald, e_bald, e_iast, e_cast, e_aald, e_aast, e_alen, e_slen, e_blen, e_newa, e_newq, e_new, e_oinit, e_ctor, e_virt, e_stat, e_min, e_copy, e_ldc, List.cons_append, List.nil_append, List.append_nil, List.length_cons, List.length_nil, List.replicate_succ, List.replicate_zero, List.getElem?_cons_zero, List.getElem?_cons_succ, List.set_cons_zero, List.set_cons_succ, List.take_succ_cons, List.take_zero, List.drop_succ_cons, List.drop_zero, List.reverse_cons, List.reverse_nil, Option.toList_some, Option.toList_none, Nat.reduceSub, Nat.reduceAdd, Nat.reduceLeDiff, true_and, and_true, and_self, Option.some.injEq, exists_eq_left', Nat.zero_add, Value.int.injEq, Value.ref.injEq, List.cons.injEq, exists_and_left, and_assoc, exists_eq_left, List.all_cons, List.all_nil, m1_i, m1_r, Bool.and_self, Bool.and_true, E_in 61, N_61, B_61_0, bk_61_0, B_61_9, bk_61_9, B_61_30, bk_61_30, C_81, C_82, m_isSp hs, m_isPu hu, o_lt_l, o_le_l, if_neg, if_pos, o_eq, a0, a1, gs0, gs1, gs2, zw0A, rwA, n_in, n_cl, true_or, or_true, f1A, o_eq_l, if_pos, if_neg, not_true_eq_false, not_false_eq_true, or_true, true_or, or_false, false_or, false_and, and_false, Nat.reduceEqDiff, Nat.reduceLT, Nat.reduceMul, Nat.not_lt_zero, Nat.zero_le, Nat.le_refl, ne_eq, reduceIte, reduceCtorEq]
  rw [if_neg (by omega)]
  have hv1 : RC (hRm I (qTu f n) n) 1 v := RC_out hv (fun x x1 x2 => hRm_l (by omega))
  obtain ⟨I2, y1, y2, y3⟩ := wind_all gst hs hu hT2 (T - 1) 1 (by omega) (by omega) (hRm I (qTu f n) n) v .null hv1 (RC_wire hv1 hs (by rw [hRm_l (by omega)]; exact f1A))
  have y1' : EvM 29 [.ref 1, .int (nI s), .int (nI u), .int (nI T)] (K, RTu R n, hRm I (qTu f n) n) (fun w k => w = some (.int (nI (wWind s u (T - 1) 1 v).1)) ∧ k = (K, RTu R n, I2)) := by
    rw [E_in 29, B_29_0]
    simp (disch := omega) only [e_iconst, e_bipush, e_sipush, e_iload_n, e_iload, e_aload_n, e_aload, e_istore_n, e_istore, e_astore_n, e_astore, e_iinc, e_iadd, e_isub, e_imul, e_iand, e_ishr, e_idiv, e_i2c, e_dup_i, e_dup_r, e_dup2, e_pop, e_goto, e_nop, e_if_eq, e_if_ne, e_if_lt, e_if_ge, e_if_gt, e_if_le, e_icmp_eq, e_icmp_ne, e_icmp_lt, e_icmp_ge, e_icmp_gt, e_icmp_le, e_tsw, e_ret0, e_ret1, e_retn, e_getI, e_getZ, e_getR, e_getV, e_getC, e_putI, e_putZ, e_putF, e_gst0, e_gst1, e_sld, e_iald, e_cald, e_bald, e_iast, e_cast, e_aald, e_aast, e_alen, e_slen, e_blen, e_newa, e_newq, e_new, e_oinit, e_ctor, e_virt, e_stat, e_min, e_copy, e_ldc, List.cons_append, List.nil_append, List.append_nil, List.length_cons, List.length_nil, List.replicate_succ, List.replicate_zero, List.getElem?_cons_zero, List.getElem?_cons_succ, List.set_cons_zero, List.set_cons_succ, List.take_succ_cons, List.take_zero, List.drop_succ_cons, List.drop_zero, List.reverse_cons, List.reverse_nil, Option.toList_some, Option.toList_none, Nat.reduceSub, Nat.reduceAdd, Nat.reduceLeDiff, true_and, and_true, and_self, Option.some.injEq, exists_eq_left', Nat.zero_add, Value.int.injEq, Value.ref.injEq, List.cons.injEq, exists_and_left, and_assoc, exists_eq_left, List.all_cons, List.all_nil, m1_i, m1_r, Bool.and_self, Bool.and_true, N_29, bk_29_0, if_pos, if_neg, not_true_eq_false, not_false_eq_true, or_true, true_or, or_false, false_or, false_and, and_false, Nat.reduceEqDiff, Nat.reduceLT, Nat.reduceMul, Nat.not_lt_zero, Nat.zero_le, Nat.le_refl, ne_eq, reduceIte, reduceCtorEq]
    exact y1
  refine ⟨RTu R n, I2, ?_, REL_act g hv hn2 hH hP hT (fun x x1 x2 => y3 x (by omega)) (by rw [y3 0 (by omega), hRm_l (by omega)]) y2⟩
  simp (disch := omega) only [e_iconst, e_bipush, e_sipush, e_iload_n, e_iload, e_aload_n, e_aload, e_istore_n, e_istore, e_astore_n, e_astore, e_iinc, e_iadd, e_isub, e_imul, e_iand, e_ishr, e_idiv, e_i2c, e_dup_i, e_dup_r, e_dup2, e_pop, e_goto, e_nop, e_if_eq, e_if_ne, e_if_lt, e_if_ge, e_if_gt, e_if_le, e_icmp_eq, e_icmp_ne, e_icmp_lt, e_icmp_ge, e_icmp_gt, e_icmp_le, e_tsw, e_ret0, e_ret1, e_retn, e_getI, e_getZ, e_getR, e_getV, e_getC, e_putI, e_putZ, e_putF, e_gst0, e_gst1, e_sld, e_iald, e_cald, e_bald, e_iast, e_cast, e_aald, e_aast, e_alen, e_slen, e_blen, e_newa, e_newq, e_new, e_oinit, e_ctor, e_virt, e_stat, e_min, e_copy, e_ldc, List.cons_append, List.nil_append, List.append_nil, List.length_cons, List.length_nil, List.replicate_succ, List.replicate_zero, List.getElem?_cons_zero, List.getElem?_cons_succ, List.set_cons_zero, List.set_cons_succ, List.take_succ_cons, List.take_zero, List.drop_succ_cons, List.drop_zero, List.reverse_cons, List.reverse_nil, Option.toList_some, Option.toList_none, Nat.reduceSub, Nat.reduceAdd, Nat.reduceLeDiff, true_and, and_true, and_self, Option.some.injEq, exists_eq_left', Nat.zero_add, Value.int.injEq, Value.ref.injEq, List.cons.injEq, exists_and_left, and_assoc, exists_eq_left, List.all_cons, List.all_nil, m1_i, m1_r, Bool.and_self, Bool.and_true, E_in 61, N_61, B_61_0, bk_61_0, B_61_9, bk_61_9, B_61_30, bk_61_30, C_81, C_82, m_isSp hs, m_isPu hu, o_lt_l, o_le_l, if_neg, if_pos, o_eq, a0, a1, gs0, gs1, gs2, zw0A, rwA, n_in, n_cl, true_or, or_true, f1A, o_eq_l, if_pos, if_neg, not_true_eq_false, not_false_eq_true, or_true, true_or, or_false, false_or, false_and, and_false, Nat.reduceEqDiff, Nat.reduceLT, Nat.reduceMul, Nat.not_lt_zero, Nat.zero_le, Nat.le_refl, ne_eq, reduceIte, reduceCtorEq]
  rw [B_61_48]
  simp (disch := omega) only [e_iconst, e_bipush, e_sipush, e_iload_n, e_iload, e_aload_n, e_aload, e_istore_n, e_istore, e_astore_n, e_astore, e_iinc, e_iadd, e_isub, e_imul, e_iand, e_ishr, e_idiv, e_i2c, e_dup_i, e_dup_r, e_dup2, e_pop, e_goto, e_nop, e_if_eq, e_if_ne, e_if_lt, e_if_ge, e_if_gt, e_if_le, e_icmp_eq, e_icmp_ne, e_icmp_lt, e_icmp_ge, e_icmp_gt, e_icmp_le, e_tsw, e_ret0, e_ret1, e_retn, e_getI, e_getZ, e_getR, e_getV, e_getC, e_putI, e_putZ, e_putF, e_gst0, e_gst1, e_sld, e_iald, e_cald, e_bald, e_iast, e_cast, e_aald, e_aast, e_alen, e_slen, e_blen, e_newa, e_newq, e_new, e_oinit, e_ctor, e_virt, e_stat, e_min, e_copy, e_ldc, List.cons_append, List.nil_append, List.append_nil, List.length_cons, List.length_nil, List.replicate_succ, List.replicate_zero, List.getElem?_cons_zero, List.getElem?_cons_succ, List.set_cons_zero, List.set_cons_succ, List.take_succ_cons, List.take_zero, List.drop_succ_cons, List.drop_zero, List.reverse_cons, List.reverse_nil, Option.toList_some, Option.toList_none, Nat.reduceSub, Nat.reduceAdd, Nat.reduceLeDiff, true_and, and_true, and_self, Option.some.injEq, exists_eq_left', Nat.zero_add, Value.int.injEq, Value.ref.injEq, List.cons.injEq, exists_and_left, and_assoc, exists_eq_left, List.all_cons, List.all_nil, m1_i, m1_r, Bool.and_self, Bool.and_true, bk_61_48, a0, a1, a2, a1t, gs0, gh0, C_9, C_29, a_remember g hv hn hn2, EvM_iff y1', if_pos, if_neg, not_true_eq_false, not_false_eq_true, or_true, true_or, or_false, false_or, false_and, and_false, Nat.reduceEqDiff, Nat.reduceLT, Nat.reduceMul, Nat.not_lt_zero, Nat.zero_le, Nat.le_refl, ne_eq, reduceIte, reduceCtorEq]
