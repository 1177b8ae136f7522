/-! splice -/
/-- the row after m gaps of the wire src from l + 1 on went behind d letters of dst -/
def vCc (v : Nat → Int32) (src l dst d m : Nat) : Nat → Int32 := fun x =>
  if 98 * dst + (4 + (d + 1)) ≤ x ∧ x < 98 * dst + (4 + (d + 1)) + m then v (98 * src + (4 + (l + 1 + (x - (98 * dst + (4 + (d + 1)))))))
  else if 98 * dst + (36 + (d + 1)) ≤ x ∧ x < 98 * dst + (36 + (d + 1)) + m then v (98 * src + (36 + (l + 1 + (x - (98 * dst + (36 + (d + 1))))))) else v x
theorem vCc_o {v : Nat → Int32} {src l dst d m x : Nat} (h : ¬ (98 * dst + (4 + (d + 1)) ≤ x ∧ x < 98 * dst + (4 + (d + 1)) + m) ∧ ¬ (98 * dst + (36 + (d + 1)) ≤ x ∧ x < 98 * dst + (36 + (d + 1)) + m)) : vCc v src l dst d m x = v x := by
  unfold vCc
  rw [if_neg h.1, if_neg h.2]
theorem vCc_l {v : Nat → Int32} {src l dst d m k : Nat} (hk : k < m) : vCc v src l dst d m (98 * dst + (4 + (d + 1 + k))) = v (98 * src + (4 + (l + 1 + k))) := by
  unfold vCc
  rw [if_pos (by omega)]
  congr 2
  omega
theorem vCc_n {v : Nat → Int32} {src l dst d m k : Nat} (hk : k < m) (hm : d + 1 + m ≤ 32) : vCc v src l dst d m (98 * dst + (36 + (d + 1 + k))) = v (98 * src + (36 + (l + 1 + k))) := by
  unfold vCc
  rw [if_neg (by omega), if_pos (by omega)]
  congr 2
  omega
theorem vCc_s {v : Nat → Int32} {src l dst d k : Nat} (h2 : d + 1 + k < 32) : vU (vU (vCc v src l dst d k) (98 * dst + (4 + (d + 1 + k))) (v (98 * src + (4 + (l + 1 + k))))) (98 * dst + (36 + (d + 1 + k))) (v (98 * src + (36 + (l + 1 + k)))) = vCc v src l dst d (k + 1) := by
  funext x
  by_cases c1 : x = 98 * dst + (36 + (d + 1 + k))
  · subst c1; rw [u_eq, vCc_n (by omega) (by omega)]
  · rw [u_ne c1]
    by_cases c2 : x = 98 * dst + (4 + (d + 1 + k))
    · subst c2; rw [u_eq, vCc_l (by omega)]
    · rw [u_ne c2]
      by_cases c3 : 98 * dst + (4 + (d + 1)) ≤ x ∧ x < 98 * dst + (4 + (d + 1)) + k
      · simp (disch := omega) only [vCc, if_pos, if_neg]
      · by_cases c4 : 98 * dst + (36 + (d + 1)) ≤ x ∧ x < 98 * dst + (36 + (d + 1)) + k
        · simp (disch := omega) only [vCc, if_pos, if_neg]
        · simp (disch := omega) only [vCc, if_pos, if_neg]
/-- the row after m letters of src from l on went behind d letters of dst -/
def vTr (v : Nat → Int32) (src l dst d m : Nat) : Nat → Int32 := fun x =>
  if 98 * dst + (68 + d) ≤ x ∧ x < 98 * dst + (68 + d) + m then v (98 * src + (68 + (l + (x - (98 * dst + (68 + d)))))) else v x
theorem vTr_o {v : Nat → Int32} {src l dst d m x : Nat} (h : ¬ (98 * dst + (68 + d) ≤ x ∧ x < 98 * dst + (68 + d) + m)) : vTr v src l dst d m x = v x := if_neg h
theorem vTr_i {v : Nat → Int32} {src l dst d m k : Nat} (hk : k < m) : vTr v src l dst d m (98 * dst + (68 + (d + k))) = v (98 * src + (68 + (l + k))) := by
  unfold vTr
  rw [if_pos (by omega)]
  congr 2
  omega
theorem vTr_s {v : Nat → Int32} {src l dst d k : Nat} : vU (vTr v src l dst d k) (98 * dst + (68 + (d + k))) (v (98 * src + (68 + (l + k)))) = vTr v src l dst d (k + 1) := by
  funext x
  by_cases c1 : x = 98 * dst + (68 + (d + k))
  · subst c1; rw [u_eq, vTr_i (by omega)]
  · rw [u_ne c1]
    unfold vTr
    by_cases c3 : 98 * dst + (68 + d) ≤ x ∧ x < 98 * dst + (68 + d) + k
    · rw [if_pos c3, if_pos (by omega)]
    · rw [if_neg c3, if_neg (by omega)]
theorem vCc_0 {v : Nat → Int32} {src l dst d : Nat} : vCc v src l dst d 0 = v := by funext x; exact vCc_o ⟨by omega, by omega⟩
theorem vTr_0 {v : Nat → Int32} {src l dst d : Nat} : vTr v src l dst d 0 = v := by funext x; exact vTr_o (by omega)
theorem m_join' {K : mK} {R : Nat → Nat → Option Nat} {I : Nat → Nat → Int32} {a b ca cl c : Nat} {Q : Option Value → mH → Prop} (h : zW K R a) (h' : zW K R b) (hab : a + 4 ≤ b ∨ b + 4 ≤ a) (hca : I a 5 = nI ca) (hf : wF I b 1 cl c) (hr : ca + c ≤ 30) :
    EvM 48 [.ref a, .ref b] (K, R, I) Q ↔ Q none (K, R, mSet (mSet (mSet (mSet (mSet (mSet (wAp I a b ca 0 (c + cl)) a 5 (nI (ca + c))) a 4 (nI cl)) b 3 0) b 4 0) b 5 0) b 6 0) := m_join h h' hab hca hf hr
theorem wAp_lo {I : Nat → Nat → Int32} {a b ca l k x j : Nat} (h : j < ca + 1) : wAp I a b ca l k x j = I x j := if_neg (by omega)
theorem wAp_i {I : Nat → Nat → Int32} {a b ca l m d e : Nat} (h : e < m) (hd : 1 ≤ d ∧ d ≤ 3) : wAp I a b ca l m (a + d) (ca + 1 + e) = I (b + d) (l + 1 + e) := by
  unfold wAp
  rw [if_pos ⟨by omega, by omega, by omega⟩, show b + (a + d - a) = b + d by omega, show l + 1 + (ca + 1 + e - (ca + 1)) = l + 1 + e by omega]
theorem rW_empty {I : Nat → Nat → Int32} {a s : Nat} {v : Nat → Int32} (h1 : I a 3 = 0) (h2 : I a 4 = 0) (h3 : I a 5 = 0) (h4 : v (98 * s) = 0) (h5 : v (98 * s + 1) = 0) (h6 : v (98 * s + 2) = 0) : rW I a v s 0 0 0 :=
  ⟨⟨h1, h2, h3, by omega, by omega, by omega⟩, ⟨h4, h5, h6, by omega, by omega, by omega⟩, fun _ => ⟨rfl, rfl⟩, fun q => absurd q (by omega), fun q => absurd q (by omega), fun k hk => absurd hk (by unfold ngp; simp), fun i hi => absurd hi (by omega), fun q => absurd q (by omega)⟩
/-- the ghost behind splice -/
def wSplice (v : Nat → Int32) (s t : Nat) : Nat → Int32 := vTl (vU (vU (vU (vU (vU (vTr (vCc v t 0 s (gc v s) (gc v t + gl v t)) t 0 s (gc v s) (gc v t)) (98 * s + 1) (nI (gl v t))) (98 * s + 2) (nI (gc v s + gc v t))) (98 * t) 0) (98 * t + 1) 0) (98 * t + 2) 0) (gln v) 4 (nI s) (nI (gc v s + gc v t))
set_option maxHeartbeats 8000000 in
theorem q_splice {K : mK} {R : Nat → Nat → Option Nat} {I : Nat → Nat → Int32} {v H : Nat → Int32} {T : Nat → Nat} {n tt : Nat} (hrel : REL K R I v n H tt T) (s t : Nat) (hs : s < 6) (ht : t < 6) : if s = t then QO 63 [.int (nI s), .int (nI t)] K R I (-2) else if gp v s = 0 ∨ gp v t = 0 then QO 63 [.int (nI s), .int (nI t)] K R I (-4) else if 30 < gc v s + gc v t then QO 63 [.int (nI s), .int (nI t)] K R I (-3) else AO 63 [.int (nI s), .int (nI t)] K R I (nI (gc v s + gc v t)) (wSplice v s t) (nTu n) (vRec H v n) tt T := by
  obtain ⟨f, g, hv, hn2, hn, hH, hP, hT⟩ := id hrel
  have q4 := qTu_lt g hn2
  obtain ⟨gs, -, gh, gw, gr, gr', ⟨a0, a1, a2, a3, a4, a5, a6, a7, a8⟩, ⟨b0, b1, b2⟩, cc0⟩ := id g
  have gs0 : K.2.2.1 1 = (1, 4) := gs.1
  have gs1 : R 1 0 = some 2 := gs.2.1
  have gs2 : K.2.2.1 2 = (4, 6) := gs.2.2.1
  have gs3 : R 1 1 = some 3 := gs.2.2.2.1
  have gs4 : zL K R 3 := gs.2.2.2.2.1
  have gW : ∀ s, s < 6 → zW K R (7 + 4 * s) := fun s hs => (gs.2.2.2.2.2.2 s hs).2
  have gR : ∀ s, s < 6 → R 2 s = some (7 + 4 * s) := fun s hs => (gs.2.2.2.2.2.2 s hs).1
  have gh0 := gh.1
  have gsl : K.2.2.1 3 = (1, 2) := gs4.1
  have gT := zG_tu (n := n) g
  have gst : zS K (RTu R n) 1 := gT.1
  have gt1 : RTu R n 1 0 = some 2 := gst.2.1
  have gt3 : RTu R n 1 1 = some 3 := gst.2.2.2.1
  have gt4 : zL K (RTu R n) 3 := gst.2.2.2.2.1
  have gWt : ∀ s, s < 6 → zW K (RTu R n) (7 + 4 * s) := fun s hs => (gst.2.2.2.2.2.2 s hs).2
  have gRt : ∀ s, s < 6 → RTu R n 2 s = some (7 + 4 * s) := fun s hs => (gst.2.2.2.2.2.2 s hs).1
  obtain ⟨-, a1t, a2t, a3t, a4t, a5t, a6t, a7t, a8t⟩ := gT.2.2.2.2.2.2.1
  by_cases hne : s = t
  · rw [if_pos hne]
    subst hne
    refine ⟨I, ?_, SCR_id⟩
    simp (disch := omega) only [e_iconst, e_bipush, e_sipush, e_iload_n, e_iload, e_aload_n, e_aload, e_istore_n, e_istore, e_astore_n, e_astore, e_iinc, e_iadd, e_isub, e_imul, e_iand, e_ishr, e_idiv, e_i2c, e_dup_i, e_dup_r, e_dup2, e_pop, e_goto, e_nop, e_if_eq, e_if_ne, e_if_lt, e_if_ge, e_if_gt, e_if_le, e_icmp_eq, e_icmp_ne, e_icmp_lt, e_icmp_ge, e_icmp_gt, e_icmp_le, e_tsw, e_ret0, e_ret1, e_retn, e_getI, e_getZ, e_getR, e_getV, e_getC, e_putI, e_putZ, e_putF, e_gst0, e_gst1, e_sld, e_iald, e_cald, e_bald, e_iast, e_cast, e_aald, e_aast, e_alen, e_slen, e_blen, e_newa, e_newq, e_new, e_oinit, e_ctor, e_virt, e_stat, e_min, e_copy, e_ldc, List.cons_append, List.nil_append, List.append_nil, List.length_cons, List.length_nil, List.replicate_succ, List.replicate_zero, List.getElem?_cons_zero, List.getElem?_cons_succ, List.set_cons_zero, List.set_cons_succ, List.take_succ_cons, List.take_zero, List.drop_succ_cons, List.drop_zero, List.reverse_cons, List.reverse_nil, Option.toList_some, Option.toList_none, Nat.reduceSub, Nat.reduceAdd, Nat.reduceLeDiff, true_and, and_true, and_self, Option.some.injEq, exists_eq_left', Nat.zero_add, Value.int.injEq, Value.ref.injEq, List.cons.injEq, exists_and_left, and_assoc, exists_eq_left, List.all_cons, List.all_nil, m1_i, m1_r, Bool.and_self, Bool.and_true, E_in 63, N_63, B_63_0, bk_63_0, B_63_16, bk_63_16, C_81, m_isSp hs, o_eq, if_pos, if_neg, not_true_eq_false, not_false_eq_true, or_true, true_or, or_false, false_or, false_and, and_false, Nat.reduceEqDiff, Nat.reduceLT, Nat.reduceMul, Nat.not_lt_zero, Nat.zero_le, Nat.le_refl, ne_eq, reduceIte, reduceCtorEq]
  rw [if_neg hne]
  obtain ⟨pA, clA, cA, hwA⟩ := hv.1 s hs
  rw [show 1 + 6 + 4 * s = 7 + 4 * s by omega] at hwA
  obtain ⟨wfA, vfA, k0A, k1A, k2A, k3A, k4A, k5A⟩ := id hwA
  obtain ⟨f1A, f2A, f3A, f4A, f5A, f6A⟩ := id wfA
  obtain ⟨v1A, v2A, v3A, -⟩ := id vfA
  have zwA := gW s hs
  have zwtA := gWt s hs
  have rwA := gR s hs
  have rwtA := gRt s hs
  have zw0A : K.2.2.1 (7 + 4 * s) = (1, 6) := zwA.1
  obtain ⟨pB, clB, cB, hwB⟩ := hv.1 t ht
  rw [show 1 + 6 + 4 * t = 7 + 4 * t by omega] at hwB
  obtain ⟨wfB, vfB, k0B, k1B, k2B, k3B, k4B, k5B⟩ := id hwB
  obtain ⟨f1B, f2B, f3B, f4B, f5B, f6B⟩ := id wfB
  obtain ⟨v1B, v2B, v3B, -⟩ := id vfB
  have zwB := gW t ht
  have zwtB := gWt t ht
  have rwB := gR t ht
  have rwtB := gRt t ht
  have zw0B : K.2.2.1 (7 + 4 * t) = (1, 6) := zwB.1
  obtain ⟨e2, e3, e4, e5, e6, e7, e8, e9, e10, ln, l1, l2, l3, l4⟩ := id hv.2
  have gl1 : gln v = ln := by unfold gln; rw [l3]; exact n_cl (by omega)
  obtain ⟨g1A, g2A, g3A⟩ := g_vF vfA
  obtain ⟨g1B, g2B, g3B⟩ := g_vF vfB
  unfold wSplice
  rw [g1A, g3A, g1B, g2B, g3B, gl1]
  rcases (show pA = 0 ∨ pA = 1 by omega) with rfl | rfl
  · rw [if_pos (Or.inl rfl)]
    refine ⟨I, ?_, SCR_id⟩
    simp (disch := omega) only [e_iconst, e_bipush, e_sipush, e_iload_n, e_iload, e_aload_n, e_aload, e_istore_n, e_istore, e_astore_n, e_astore, e_iinc, e_iadd, e_isub, e_imul, e_iand, e_ishr, e_idiv, e_i2c, e_dup_i, e_dup_r, e_dup2, e_pop, e_goto, e_nop, e_if_eq, e_if_ne, e_if_lt, e_if_ge, e_if_gt, e_if_le, e_icmp_eq, e_icmp_ne, e_icmp_lt, e_icmp_ge, e_icmp_gt, e_icmp_le, e_tsw, e_ret0, e_ret1, e_retn, e_getI, e_getZ, e_getR, e_getV, e_getC, e_putI, e_putZ, e_putF, e_gst0, e_gst1, e_sld, e_iald, e_cald, e_bald, e_iast, e_cast, e_aald, e_aast, e_alen, e_slen, e_blen, e_newa, e_newq, e_new, e_oinit, e_ctor, e_virt, e_stat, e_min, e_copy, e_ldc, List.cons_append, List.nil_append, List.append_nil, List.length_cons, List.length_nil, List.replicate_succ, List.replicate_zero, List.getElem?_cons_zero, List.getElem?_cons_succ, List.set_cons_zero, List.set_cons_succ, List.take_succ_cons, List.take_zero, List.drop_succ_cons, List.drop_zero, List.reverse_cons, List.reverse_nil, Option.toList_some, Option.toList_none, Nat.reduceSub, Nat.reduceAdd, Nat.reduceLeDiff, true_and, and_true, and_self, Option.some.injEq, exists_eq_left', Nat.zero_add, Value.int.injEq, Value.ref.injEq, List.cons.injEq, exists_and_left, and_assoc, exists_eq_left, List.all_cons, List.all_nil, m1_i, m1_r, Bool.and_self, Bool.and_true, E_in 63, N_63, B_63_0, bk_63_0, B_63_16, bk_63_16, C_81, m_isSp hs, m_isSp ht, n_eq, hne, o_eq, if_pos, if_neg, not_true_eq_false, not_false_eq_true, or_true, true_or, or_false, false_or, false_and, and_false, Nat.reduceEqDiff, Nat.reduceLT, Nat.reduceMul, Nat.not_lt_zero, Nat.zero_le, Nat.le_refl, ne_eq, reduceIte, reduceCtorEq]
    simp (disch := omega) only [e_iconst, e_bipush, e_sipush, e_iload_n, e_iload, e_aload_n, e_aload, e_istore_n, e_istore, e_astore_n, e_astore, e_iinc, e_iadd, e_isub, e_imul, e_iand, e_ishr, e_idiv, e_i2c, e_dup_i, e_dup_r, e_dup2, e_pop, e_goto, e_nop, e_if_eq, e_if_ne, e_if_lt, e_if_ge, e_if_gt, e_if_le, e_icmp_eq, e_icmp_ne, e_icmp_lt, e_icmp_ge, e_icmp_gt, e_icmp_le, e_tsw, e_ret0, e_ret1, e_retn, e_getI, e_getZ, e_getR, e_getV, e_getC, e_putI, e_putZ, e_putF, e_gst0, e_gst1, e_sld, e_iald, e_cald, e_bald, e_iast, e_cast, e_aald, e_aast, e_alen, e_slen, e_blen, e_newa, e_newq, e_new, e_oinit, e_ctor, e_virt, e_stat, e_min, e_copy, e_ldc, List.cons_append, List.nil_append, List.append_nil, List.length_cons, List.length_nil, List.replicate_succ, List.replicate_zero, List.getElem?_cons_zero, List.getElem?_cons_succ, List.set_cons_zero, List.set_cons_succ, List.take_succ_cons, List.take_zero, List.drop_succ_cons, List.drop_zero, List.reverse_cons, List.reverse_nil, Option.toList_some, Option.toList_none, Nat.reduceSub, Nat.reduceAdd, Nat.reduceLeDiff, true_and, and_true, and_self, Option.some.injEq, exists_eq_left', Nat.zero_add, Value.int.injEq, Value.ref.injEq, List.cons.injEq, exists_and_left, and_assoc, exists_eq_left, List.all_cons, List.all_nil, m1_i, m1_r, Bool.and_self, Bool.and_true, B_63_24, bk_63_24, B_63_60, bk_63_60, a0, a1, gs0, gs1, gs2, zw0A, zw0B, rwA, rwB, n_in, n_cl, true_or, or_true, f1A, o_eq_l, if_pos, if_neg, not_true_eq_false, not_false_eq_true, or_true, true_or, or_false, false_or, false_and, and_false, Nat.reduceEqDiff, Nat.reduceLT, Nat.reduceMul, Nat.not_lt_zero, Nat.zero_le, Nat.le_refl, ne_eq, reduceIte, reduceCtorEq]
  rcases (show pB = 0 ∨ pB = 1 by omega) with rfl | rfl
  · rw [if_pos (Or.inr rfl)]
    refine ⟨I, ?_, SCR_id⟩
    simp (disch := omega) only [e_iconst, e_bipush, e_sipush, e_iload_n, e_iload, e_aload_n, e_aload, e_istore_n, e_istore, e_astore_n, e_astore, e_iinc, e_iadd, e_isub, e_imul, e_iand, e_ishr, e_idiv, e_i2c, e_dup_i, e_dup_r, e_dup2, e_pop, e_goto, e_nop, e_if_eq, e_if_ne, e_if_lt, e_if_ge, e_if_gt, e_if_le, e_icmp_eq, e_icmp_ne, e_icmp_lt, e_icmp_ge, e_icmp_gt, e_icmp_le, e_tsw, e_ret0, e_ret1, e_retn, e_getI, e_getZ, e_getR, e_getV, e_getC, e_putI, e_putZ, e_putF, e_gst0, e_gst1, e_sld, e_iald, e_cald, e_bald, e_iast, e_cast, e_aald, e_aast, e_alen, e_slen, e_blen, e_newa, e_newq, e_new, e_oinit, e_ctor, e_virt, e_stat, e_min, e_copy, e_ldc, List.cons_append, List.nil_append, List.append_nil, List.length_cons, List.length_nil, List.replicate_succ, List.replicate_zero, List.getElem?_cons_zero, List.getElem?_cons_succ, List.set_cons_zero, List.set_cons_succ, List.take_succ_cons, List.take_zero, List.drop_succ_cons, List.drop_zero, List.reverse_cons, List.reverse_nil, Option.toList_some, Option.toList_none, Nat.reduceSub, Nat.reduceAdd, Nat.reduceLeDiff, true_and, and_true, and_self, Option.some.injEq, exists_eq_left', Nat.zero_add, Value.int.injEq, Value.ref.injEq, List.cons.injEq, exists_and_left, and_assoc, exists_eq_left, List.all_cons, List.all_nil, m1_i, m1_r, Bool.and_self, Bool.and_true, E_in 63, N_63, B_63_0, bk_63_0, B_63_16, bk_63_16, C_81, m_isSp hs, m_isSp ht, n_eq, hne, o_eq, if_pos, if_neg, not_true_eq_false, not_false_eq_true, or_true, true_or, or_false, false_or, false_and, and_false, Nat.reduceEqDiff, Nat.reduceLT, Nat.reduceMul, Nat.not_lt_zero, Nat.zero_le, Nat.le_refl, ne_eq, reduceIte, reduceCtorEq]
    simp (disch := omega) only [e_iconst, e_bipush, e_sipush, e_iload_n, e_iload, e_aload_n, e_aload, e_istore_n, e_istore, e_astore_n, e_astore, e_iinc, e_iadd, e_isub, e_imul, e_iand, e_ishr, e_idiv, e_i2c, e_dup_i, e_dup_r, e_dup2, e_pop, e_goto, e_nop, e_if_eq, e_if_ne, e_if_lt, e_if_ge, e_if_gt, e_if_le, e_icmp_eq, e_icmp_ne, e_icmp_lt, e_icmp_ge, e_icmp_gt, e_icmp_le, e_tsw, e_ret0, e_ret1, e_retn, e_getI, e_getZ, e_getR, e_getV, e_getC, e_putI, e_putZ, e_putF, e_gst0, e_gst1, e_sld, e_iald, e_cald, e_bald, e_iast, e_cast, e_aald, e_aast, e_alen, e_slen, e_blen, e_newa, e_newq, e_new, e_oinit, e_ctor, e_virt, e_stat, e_min, e_copy, e_ldc, List.cons_append, List.nil_append, List.append_nil, List.length_cons, List.length_nil, List.replicate_succ, List.replicate_zero, List.getElem?_cons_zero, List.getElem?_cons_succ, List.set_cons_zero, List.set_cons_succ, List.take_succ_cons, List.take_zero, List.drop_succ_cons, List.drop_zero, List.reverse_cons, List.reverse_nil, Option.toList_some, Option.toList_none, Nat.reduceSub, Nat.reduceAdd, Nat.reduceLeDiff, true_and, and_true, and_self, Option.some.injEq, exists_eq_left', Nat.zero_add, Value.int.injEq, Value.ref.injEq, List.cons.injEq, exists_and_left, and_assoc, exists_eq_left, List.all_cons, List.all_nil, m1_i, m1_r, Bool.and_self, Bool.and_true, B_63_24, bk_63_24, B_63_60, bk_63_60, a0, a1, gs0, gs1, gs2, zw0A, zw0B, rwA, rwB, n_in, n_cl, true_or, or_true, f1A, f1B, o_eq_l, if_neg, if_pos, if_neg, not_true_eq_false, not_false_eq_true, or_true, true_or, or_false, false_or, false_and, and_false, Nat.reduceEqDiff, Nat.reduceLT, Nat.reduceMul, Nat.not_lt_zero, Nat.zero_le, Nat.le_refl, ne_eq, reduceIte, reduceCtorEq]
  rw [if_neg (by omega)]
  by_cases hfu : 30 < cA + cB
  · rw [if_pos hfu]
    refine ⟨I, ?_, SCR_id⟩
    simp (disch := omega) only [e_iconst, e_bipush, e_sipush, e_iload_n, e_iload, e_aload_n, e_aload, e_istore_n, e_istore, e_astore_n, e_astore, e_iinc, e_iadd, e_isub, e_imul, e_iand, e_ishr, e_idiv, e_i2c, e_dup_i, e_dup_r, e_dup2, e_pop, e_goto, e_nop, e_if_eq, e_if_ne, e_if_lt, e_if_ge, e_if_gt, e_if_le, e_icmp_eq, e_icmp_ne, e_icmp_lt, e_icmp_ge, e_icmp_gt, e_icmp_le, e_tsw, e_ret0, e_ret1, e_retn, e_getI, e_getZ, e_getR, e_getV, e_getC, e_putI, e_putZ, e_putF, e_gst0, e_gst1, e_sld, e_iald, e_cald, e_bald, e_iast, e_cast, e_aald, e_aast, e_alen, e_slen, e_blen, e_newa, e_newq, e_new, e_oinit, e_ctor, e_virt, e_stat, e_min, e_copy, e_ldc, List.cons_append, List.nil_append, List.append_nil, List.length_cons, List.length_nil, List.replicate_succ, List.replicate_zero, List.getElem?_cons_zero, List.getElem?_cons_succ, List.set_cons_zero, List.set_cons_succ, List.take_succ_cons, List.take_zero, List.drop_succ_cons, List.drop_zero, List.reverse_cons, List.reverse_nil, Option.toList_some, Option.toList_none, Nat.reduceSub, Nat.reduceAdd, Nat.reduceLeDiff, true_and, and_true, and_self, Option.some.injEq, exists_eq_left', Nat.zero_add, Value.int.injEq, Value.ref.injEq, List.cons.injEq, exists_and_left, and_assoc, exists_eq_left, List.all_cons, List.all_nil, m1_i, m1_r, Bool.and_self, Bool.and_true, E_in 63, N_63, B_63_0, bk_63_0, B_63_16, bk_63_16, C_81, m_isSp hs, m_isSp ht, n_eq, hne, o_eq, if_pos, if_neg, not_true_eq_false, not_false_eq_true, or_true, true_or, or_false, false_or, false_and, and_false, Nat.reduceEqDiff, Nat.reduceLT, Nat.reduceMul, Nat.not_lt_zero, Nat.zero_le, Nat.le_refl, ne_eq, reduceIte, reduceCtorEq]
    simp (disch := omega) only [e_iconst, e_bipush, e_sipush, e_iload_n, e_iload, e_aload_n, e_aload, e_istore_n, e_istore, e_astore_n, e_astore, e_iinc, e_iadd, e_isub, e_imul, e_iand, e_ishr, e_idiv, e_i2c, e_dup_i, e_dup_r, e_dup2, e_pop, e_goto, e_nop, e_if_eq, e_if_ne, e_if_lt, e_if_ge, e_if_gt, e_if_le, e_icmp_eq, e_icmp_ne, e_icmp_lt, e_icmp_ge, e_icmp_gt, e_icmp_le, e_tsw, e_ret0, e_ret1, e_retn, e_getI, e_getZ, e_getR, e_getV, e_getC, e_putI, e_putZ, e_putF, e_gst0, e_gst1, e_sld, e_iald, e_cald, e_bald, e_iast, e_cast, e_aald, e_aast, e_alen, e_slen, e_blen, e_newa, e_newq, e_new, e_oinit, e_ctor, e_virt, e_stat, e_min, e_copy, e_ldc, List.cons_append, List.nil_append, List.append_nil, List.length_cons, List.length_nil, List.replicate_succ, List.replicate_zero, List.getElem?_cons_zero, List.getElem?_cons_succ, List.set_cons_zero, List.set_cons_succ, List.take_succ_cons, List.take_zero, List.drop_succ_cons, List.drop_zero, List.reverse_cons, List.reverse_nil, Option.toList_some, Option.toList_none, Nat.reduceSub, Nat.reduceAdd, Nat.reduceLeDiff, true_and, and_true, and_self, Option.some.injEq, exists_eq_left', Nat.zero_add, Value.int.injEq, Value.ref.injEq, List.cons.injEq, exists_and_left, and_assoc, exists_eq_left, List.all_cons, List.all_nil, m1_i, m1_r, Bool.and_self, Bool.and_true, B_63_24, bk_63_24, B_63_63, bk_63_63, a0, a1, gs0, gs1, gs2, zw0A, zw0B, rwA, rwB, n_in, n_cl, true_or, or_true, f1A, f1B, f3A, f3B, n_add, o_le_l, o_eq_l, if_neg, if_pos, if_neg, not_true_eq_false, not_false_eq_true, or_true, true_or, or_false, false_or, false_and, and_false, Nat.reduceEqDiff, Nat.reduceLT, Nat.reduceMul, Nat.not_lt_zero, Nat.zero_le, Nat.le_refl, ne_eq, reduceIte, reduceCtorEq]
  rw [if_neg hfu]
  have hab : 7 + 4 * s + 4 ≤ 7 + 4 * t ∨ 7 + 4 * t + 4 ≤ 7 + 4 * s := by omega
  have hfB : wF (hRm I (qTu f n) n) (7 + 4 * t) 1 clB cB := by
    unfold wF
    rw [hRm_l (by omega)]
    exact wfB
  have hcA : hRm I (qTu f n) n (7 + 4 * s) 5 = nI cA := by rw [hRm_l (by omega)]; exact f3A
  refine ⟨RTu R n, lAd (mSet (mSet (mSet (mSet (mSet (mSet (wAp (hRm I (qTu f n) n) (7 + 4 * s) (7 + 4 * t) cA 0 (cB + clB)) (7 + 4 * s) 5 (nI (cA + cB))) (7 + 4 * s) 4 (nI clB)) (7 + 4 * t) 3 0) (7 + 4 * t) 4 0) (7 + 4 * t) 5 0) (7 + 4 * t) 6 0) 3 ln 4 (nI s) (nI (cA + cB)), ?_, ?_⟩
  · simp (disch := omega) only [e_iconst, e_bipush, e_sipush, e_iload_n, e_iload, e_aload_n, e_aload, e_istore_n, e_istore, e_astore_n, e_astore, e_iinc, e_iadd, e_isub, e_imul, e_iand, e_ishr, e_idiv, e_i2c, e_dup_i, e_dup_r, e_dup2, e_pop, e_goto, e_nop, e_if_eq, e_if_ne, e_if_lt, e_if_ge, e_if_gt, e_if_le, e_icmp_eq, e_icmp_ne, e_icmp_lt, e_icmp_ge, e_icmp_gt, e_icmp_le, e_tsw, e_ret0, e_ret1, e_retn, e_getI, e_getZ, e_getR, e_getV, e_getC, e_putI, e_putZ, e_putF, e_gst0, e_gst1, e_sld, e_iald, e_cald, e_bald, e_iast, e_cast, e_aald, e_aast, e_alen, e_slen, e_blen, e_newa, e_newq, e_new, e_oinit, e_ctor, e_virt, e_stat, e_min, e_copy, e_ldc, List.cons_append, List.nil_append, List.append_nil, List.length_cons, List.length_nil, List.replicate_succ, List.replicate_zero, List.getElem?_cons_zero, List.getElem?_cons_succ, List.set_cons_zero, List.set_cons_succ, List.take_succ_cons, List.take_zero, List.drop_succ_cons, List.drop_zero, List.reverse_cons, List.reverse_nil, Option.toList_some, Option.toList_none, Nat.reduceSub, Nat.reduceAdd, Nat.reduceLeDiff, true_and, and_true, and_self, Option.some.injEq, exists_eq_left', Nat.zero_add, Value.int.injEq, Value.ref.injEq, List.cons.injEq, exists_and_left, and_assoc, exists_eq_left, List.all_cons, List.all_nil, m1_i, m1_r, Bool.and_self, Bool.and_true, E_in 63, N_63, B_63_0, bk_63_0, B_63_16, bk_63_16, C_81, m_isSp hs, m_isSp ht, n_eq, hne, o_eq, if_pos, if_neg, not_true_eq_false, not_false_eq_true, or_true, true_or, or_false, false_or, false_and, and_false, Nat.reduceEqDiff, Nat.reduceLT, Nat.reduceMul, Nat.not_lt_zero, Nat.zero_le, Nat.le_refl, ne_eq, reduceIte, reduceCtorEq]
    simp (disch := omega) only [e_iconst, e_bipush, e_sipush, e_iload_n, e_iload, e_aload_n, e_aload, e_istore_n, e_istore, e_astore_n, e_astore, e_iinc, e_iadd, e_isub, e_imul, e_iand, e_ishr, e_idiv, e_i2c, e_dup_i, e_dup_r, e_dup2, e_pop, e_goto, e_nop, e_if_eq, e_if_ne, e_if_lt, e_if_ge, e_if_gt, e_if_le, e_icmp_eq, e_icmp_ne, e_icmp_lt, e_icmp_ge, e_icmp_gt, e_icmp_le, e_tsw, e_ret0, e_ret1, e_retn, e_getI, e_getZ, e_getR, e_getV, e_getC, e_putI, e_putZ, e_putF, e_gst0, e_gst1, e_sld, e_iald, e_cald, e_bald, e_iast, e_cast, e_aald, e_aast, e_alen, e_slen, e_blen, e_newa, e_newq, e_new, e_oinit, e_ctor, e_virt, e_stat, e_min, e_copy, e_ldc, List.cons_append, List.nil_append, List.append_nil, List.length_cons, List.length_nil, List.replicate_succ, List.replicate_zero, List.getElem?_cons_zero, List.getElem?_cons_succ, List.set_cons_zero, List.set_cons_succ, List.take_succ_cons, List.take_zero, List.drop_succ_cons, List.drop_zero, List.reverse_cons, List.reverse_nil, Option.toList_some, Option.toList_none, Nat.reduceSub, Nat.reduceAdd, Nat.reduceLeDiff, true_and, and_true, and_self, Option.some.injEq, exists_eq_left', Nat.zero_add, Value.int.injEq, Value.ref.injEq, List.cons.injEq, exists_and_left, and_assoc, exists_eq_left, List.all_cons, List.all_nil, m1_i, m1_r, Bool.and_self, Bool.and_true, B_63_24, bk_63_24, B_63_63, bk_63_63, a0, a1, gs0, gs1, gs2, zw0A, zw0B, rwA, rwB, n_in, n_cl, true_or, or_true, f1A, f1B, f3A, f3B, n_add, o_le_l, o_eq_l, if_neg, if_pos, if_pos, if_neg, not_true_eq_false, not_false_eq_true, or_true, true_or, or_false, false_or, false_and, and_false, Nat.reduceEqDiff, Nat.reduceLT, Nat.reduceMul, Nat.not_lt_zero, Nat.zero_le, Nat.le_refl, ne_eq, reduceIte, reduceCtorEq]
    rw [B_63_81]
    simp (disch := omega) only [e_iconst, e_bipush, e_sipush, e_iload_n, e_iload, e_aload_n, e_aload, e_istore_n, e_istore, e_astore_n, e_astore, e_iinc, e_iadd, e_isub, e_imul, e_iand, e_ishr, e_idiv, e_i2c, e_dup_i, e_dup_r, e_dup2, e_pop, e_goto, e_nop, e_if_eq, e_if_ne, e_if_lt, e_if_ge, e_if_gt, e_if_le, e_icmp_eq, e_icmp_ne, e_icmp_lt, e_icmp_ge, e_icmp_gt, e_icmp_le, e_tsw, e_ret0, e_ret1, e_retn, e_getI, e_getZ, e_getR, e_getV, e_getC, e_putI, e_putZ, e_putF, e_gst0, e_gst1, e_sld, e_iald, e_cald, e_bald, e_iast, e_cast, e_aald, e_aast, e_alen, e_slen, e_blen, e_newa, e_newq, e_new, e_oinit, e_ctor, e_virt, e_stat, e_min, e_copy, e_ldc, List.cons_append, List.nil_append, List.append_nil, List.length_cons, List.length_nil, List.replicate_succ, List.replicate_zero, List.getElem?_cons_zero, List.getElem?_cons_succ, List.set_cons_zero, List.set_cons_succ, List.take_succ_cons, List.take_zero, List.drop_succ_cons, List.drop_zero, List.reverse_cons, List.reverse_nil, Option.toList_some, Option.toList_none, Nat.reduceSub, Nat.reduceAdd, Nat.reduceLeDiff, true_and, and_true, and_self, Option.some.injEq, exists_eq_left', Nat.zero_add, Value.int.injEq, Value.ref.injEq, List.cons.injEq, exists_and_left, and_assoc, exists_eq_left, List.all_cons, List.all_nil, m1_i, m1_r, Bool.and_self, Bool.and_true, bk_63_81, a0, a1, a2, gs0, gh0, zw0A, C_9, C_48, C_14, a_remember g hv hn hn2, m_join' zwtA zwtB hab hcA hfB (by omega), a1t, gt3, gsl, s_ne, s_eq, if_pos, if_neg, not_true_eq_false, not_false_eq_true, or_true, true_or, or_false, false_or, false_and, and_false, Nat.reduceEqDiff, Nat.reduceLT, Nat.reduceMul, Nat.not_lt_zero, Nat.zero_le, Nat.le_refl, ne_eq, reduceIte, reduceCtorEq]
    rw [m_logAdd gt4 (n := ln) ?_ l1]
    · simp (disch := omega) only [e_iconst, e_bipush, e_sipush, e_iload_n, e_iload, e_aload_n, e_aload, e_istore_n, e_istore, e_astore_n, e_astore, e_iinc, e_iadd, e_isub, e_imul, e_iand, e_ishr, e_idiv, e_i2c, e_dup_i, e_dup_r, e_dup2, e_pop, e_goto, e_nop, e_if_eq, e_if_ne, e_if_lt, e_if_ge, e_if_gt, e_if_le, e_icmp_eq, e_icmp_ne, e_icmp_lt, e_icmp_ge, e_icmp_gt, e_icmp_le, e_tsw, e_ret0, e_ret1, e_retn, e_getI, e_getZ, e_getR, e_getV, e_getC, e_putI, e_putZ, e_putF, e_gst0, e_gst1, e_sld, e_iald, e_cald, e_bald, e_iast, e_cast, e_aald, e_aast, e_alen, e_slen, e_blen, e_newa, e_newq, e_new, e_oinit, e_ctor, e_virt, e_stat, e_min, e_copy, e_ldc, List.cons_append, List.nil_append, List.append_nil, List.length_cons, List.length_nil, List.replicate_succ, List.replicate_zero, List.getElem?_cons_zero, List.getElem?_cons_succ, List.set_cons_zero, List.set_cons_succ, List.take_succ_cons, List.take_zero, List.drop_succ_cons, List.drop_zero, List.reverse_cons, List.reverse_nil, Option.toList_some, Option.toList_none, Nat.reduceSub, Nat.reduceAdd, Nat.reduceLeDiff, true_and, and_true, and_self, Option.some.injEq, exists_eq_left', Nat.zero_add, Value.int.injEq, Value.ref.injEq, List.cons.injEq, exists_and_left, and_assoc, exists_eq_left, List.all_cons, List.all_nil, m1_i, m1_r, Bool.and_self, Bool.and_true, zw0A, s_ne, s_eq, lAd_o, if_pos, if_neg, not_true_eq_false, not_false_eq_true, or_true, true_or, or_false, false_or, false_and, and_false, Nat.reduceEqDiff, Nat.reduceLT, Nat.reduceMul, Nat.not_lt_zero, Nat.zero_le, Nat.le_refl, ne_eq, reduceIte, reduceCtorEq]
    · simp (disch := omega) only [s_ne, wAp_o, hRm_o]; exact l2
  · refine REL_act g hv hn2 hH hP hT (fun x x1 x2 => by funext j; simp (disch := omega) only [lAd_o, s_ne, wAp_o]) (by funext j; simp (disch := omega) only [lAd_o, s_ne, wAp_o, hRm_o]) ?_
    refine RC_upd (fun z => z = s ∨ z = t) hv (fun z _ hz => ?_) (fun z hz1 hz2 => ⟨fun d hd => ?_, fun x x1 x2 => ?_⟩) ?_
    · rcases hz with rfl | rfl
      · have hng : ngp 1 clA cA = cA + 1 + clA := rfl
        have hng2 : ngp 1 clB cB = cB + 1 + clB := rfl
        rw [hng] at k3A
        rw [hng2] at k3B
        refine ⟨1, clB, cA + cB, ⟨?_, ?_, ?_, by omega, by omega, by omega⟩, ⟨?_, ?_, ?_, by omega, by omega, by omega⟩, fun q => absurd q (by omega), fun _ => ?_, fun _ => ?_, fun k hk => ?_, fun i hi => ?_, fun q => ?_⟩
        · simp (disch := omega) only [lAd_o, s_ne, wAp_o, hRm_o]; exact f1A
        · simp (disch := omega) only [lAd_o, s_ne, s_eq]
        · simp (disch := omega) only [lAd_o, s_ne, s_eq]
        · simp (disch := omega) only [vTl_o, u_ne, vTr_o, vCc_o]; exact v1A
        · simp (disch := omega) only [vTl_o, u_ne, u_eq]
        · simp (disch := omega) only [vTl_o, u_ne, u_eq]
        · simp (disch := omega) only [lAd_o, s_ne, wAp_o, hRm_o, vTl_o, u_ne, vTr_o, vCc_o]; exact k1A rfl
        · simp (disch := omega) only [lAd_o, s_ne, wAp_lo, hRm_o]; exact k2A rfl
        · have hk2 : k < cA + cB + 1 + clB := hk
          by_cases c1 : k < cA + 1
          · simp (disch := omega) only [lAd_o, s_ne, wAp_lo, hRm_o, vTl_o, u_ne, vTr_o, vCc_o]
            exact k3A k (by omega)
          · obtain ⟨e, rfl⟩ : ∃ e, k = cA + 1 + e := ⟨k - (cA + 1), by omega⟩
            simp (disch := omega) only [lAd_o, s_ne, wAp_i, hRm_o, vTl_o, u_ne, vTr_o, vCc_l, vCc_n]
            exact k3B (0 + 1 + e) (by omega)
        · by_cases c1 : i < cA
          · simp (disch := omega) only [lAd_o, s_ne, wAp_lo, hRm_o, vTl_o, u_ne, vTr_o, vCc_o]
            exact k4A i c1
          · obtain ⟨e, rfl⟩ : ∃ e, i = cA + e := ⟨i - cA, by omega⟩
            rw [show cA + e + 1 = cA + 1 + e by omega]
            simp (disch := omega) only [lAd_o, s_ne, wAp_i, hRm_o, vTl_o, u_ne, vTr_i, vCc_o]
            have := k4B e (by omega)
            rw [show 0 + 1 + e = e + 1 by omega, show 0 + e = e by omega]
            exact this
        · rw [show cA + cB + 1 = cA + 1 + cB by omega]
          simp (disch := omega) only [lAd_o, s_ne, wAp_i, hRm_o]
          rw [show 0 + 1 + cB = cB + 1 by omega]
          exact k5B q
      · refine ⟨0, 0, 0, rW_empty ?_ ?_ ?_ ?_ ?_ ?_⟩ <;> simp (disch := omega) only [lAd_o, s_ne, s_eq, vTl_o, u_ne, u_eq]
    · funext j; simp (disch := omega) only [lAd_o, s_ne, wAp_o, hRm_o]
    · simp (disch := omega) only [vTl_o, u_ne, vTr_o, vCc_o]
    · refine rE_mk ?_ ?_ ?_ ?_ ?_ ?_ ?_ ?_ ?_ (rL_add l1 ?_ ?_ (fun e he => ?_)) <;> simp (disch := omega) only [lAd_o, s_ne, s_eq, wAp_o, hRm_o, vTl_o, u_ne, u_eq, vTr_o, vCc_o, e2, e3, e4, e5, e6, e7, e8]
      · exact e9
      · exact e10
      · exact l2
      · exact l3
      · exact l4 e he
