/-! WHAT STANDS in a good ghost -/
def Good (K : mK) (G : gS) : Prop := ∃ R I, RELG K R I G
def GW (v : Nat → Int32) (s : Nat) : Prop := v (98 * s) = nI (gp v s) ∧ v (98 * s + 1) = nI (gl v s) ∧ v (98 * s + 2) = nI (gc v s) ∧ gp v s ≤ 1 ∧ gl v s ≤ 1 ∧ gc v s ≤ 30 ∧ (gp v s = 0 → gl v s = 0 ∧ gc v s = 0) ∧ (gp v s = 1 → ∀ k, k < gn v s → okG (v (98 * s + (4 + k))) (v (98 * s + (36 + k)))) ∧ (∀ i, i < gc v s → ∃ t, t < 8 ∧ v (98 * s + (68 + i)) = nI t)
section GOOD
variable {K : mK} {G G' : gS}
theorem gd_K (h : Good K G) : K.2.2.1 0 = (1, 7) := by
  obtain ⟨R, I, f, g, -⟩ := h
  exact g.2.2.2.2.2.2.1.1
theorem gd_w (h : Good K G) {s : Nat} (hs : s < 6) : GW G.1 s := by
  obtain ⟨R, I, f, g, hv, -⟩ := h
  obtain ⟨p, cl, c, hw⟩ := hv.1 s hs
  obtain ⟨e1, e2, e3, e4⟩ := rW_gn hw
  obtain ⟨h1, ⟨v1, v2, v3, v4, v5, v6⟩, h3, h4, h5, h6, h7, h8⟩ := hw
  unfold GW
  rw [e1, e2, e3, e4]
  refine ⟨v1, v2, v3, v4, v5, v6, h3, fun q k hk => (h6 k ?_).2.2, fun i hi => (h7 i hi).2⟩
  unfold ngp
  rw [if_neg (by omega)]
  exact hk
theorem gd_r (h : Good K G) : ∃ ru, ru ≤ 2 ∧ G.1 588 = nI ru := by
  obtain ⟨R, I, f, g, hv, -⟩ := h
  exact hv.2.2.2.2.2.2.2.2.1
theorem gd_l (h : Good K G) : ∃ lm, 101 ≤ lm ∧ lm ≤ 200 ∧ G.1 589 = nI lm := by
  obtain ⟨R, I, f, g, hv, -⟩ := h
  exact hv.2.2.2.2.2.2.2.2.2.1
theorem gd_e (h : Good K G) : gln G.1 ≤ 10 ∧ G.1 595 = nI (gln G.1) := by
  obtain ⟨R, I, f, g, hv, -⟩ := h
  obtain ⟨n, h1, h2, h3, -⟩ := hv.2.2.2.2.2.2.2.2.2.2
  have e : gln G.1 = n := by unfold gln; rw [h3]; exact n_cl (by omega)
  rw [e]
  exact ⟨h1, h3⟩
theorem gd_n (h : Good K G) : G.2.1 ≤ 4 := by
  obtain ⟨R, I, f, g, hv, hn, -⟩ := h
  exact hn
theorem gd_V (h : Good K G) {s : Nat} (hs : s < 6) (hp : gp G.1 s = 1) : okV G.1 s (gl G.1 s) (gc G.1 s) := by
  obtain ⟨w1, w2, w3, w4, w5, w6, w7, w8, w9⟩ := gd_w h hs
  exact ⟨fun j hj => okL_G (w8 hp j hj), w9, w6⟩
theorem gd_of {c : Nat} {as : List Value} {R : Nat → Nat → Option Nat} {I : Nat → Nat → Int32} {x : Int32} (h : AOG c as K R I x G) : Good K G := by
  obtain ⟨f, r, h1, h2, R', I', h3, h4⟩ := h
  exact ⟨R', I', h4⟩
theorem gd_c {z : Nat} {as : List Value} {x : Int32} (h : Good K G) (hc : gCall z as G = some (x, G')) : Good K G' := by
  obtain ⟨R, I, h⟩ := h
  obtain ⟨f, r, h1, h2, R', I', h3, h4⟩ := call_sound h hc
  exact ⟨R', I', h4⟩
theorem gd_rule (h : Good K G) {k : Nat} (hk : k ≤ 3) : Good K (nRule G k) := by obtain ⟨R, I, h⟩ := h; exact gd_of (s_rule h hk)
theorem gd_lim (h : Good K G) {k : Nat} (hk0 : 100 ≤ k) (hk : k ≤ 201) : Good K (nLim G k) := by obtain ⟨R, I, h⟩ := h; exact gd_of (s_lim h hk0 hk)
theorem gd_rew (h : Good K G) {s u T : Nat} (hs : s < 6) (hu : u ≤ 9) (hT1 : 1 ≤ T) (hT2 : T ≤ 30) : Good K (nRew G s u T) := by obtain ⟨R, I, h⟩ := h; exact gd_of (s_rew h hs hu hT1 hT2)
theorem gd_cut (h : Good K G) {s l : Nat} (hs : s < 6) (hl : l ≤ 1000) : Good K (nCut G s l) := by obtain ⟨R, I, h⟩ := h; exact gd_of (s_cut h hs hl)
theorem gd_splice (h : Good K G) {s t : Nat} (hs : s < 6) (ht : t < 6) : Good K (nSplice G s t) := by obtain ⟨R, I, h⟩ := h; exact gd_of (s_splice h hs ht)
theorem gd_close (h : Good K G) {s : Nat} (hs : s < 6) : Good K (nClose G s) := by obtain ⟨R, I, h⟩ := h; exact gd_of (s_close h hs)
theorem gd_punch (h : Good K G) {s y : Nat} (hs : s < 6) (hy : y ≤ 2) : Good K (nPunch G s y) := by obtain ⟨R, I, h⟩ := h; exact gd_of (s_punch h hs hy)
theorem gd_undo (h : Good K G) : Good K (nUndo G) := by obtain ⟨R, I, h⟩ := h; exact gd_of (s_undo h)
theorem gd_perf (h : Good K G) (ht : G.2.2.2.1 = 0 ∨ txW G.2.2.2.1 G.2.2.2.2 (gSp G)) : Good K (nPerf G) := by obtain ⟨R, I, h⟩ := h; exact gd_of (s_perf h ht)
theorem gd_clear (h : Good K G) : Good K (nClear G) := by obtain ⟨R, I, h⟩ := h; exact gd_of (AOG_a (q_clearText h) rfl)
theorem gd_type (h : Good K G) {c : Nat} (hc : c < 65536) (ht : G.2.2.2.1 < 50) : Good K (nType G c) := by obtain ⟨R, I, h⟩ := h; exact gd_of (AOG_a (q_type h c hc ht) rfl)
end GOOD
/-! THE LAW's small methods over the ghost -/
/-- v & 0x7fffffff % n -/
def lowN (x : Int32) (n : Nat) : Nat := (x &&& 2147483647).toNatClampNeg % n
theorem lowN_lt {x : Int32} {n : Nat} (h : 0 < n) : lowN x n < n := Nat.mod_lt _ h
theorem and_low (x : Int32) : x &&& 2147483647 = nI (x &&& 2147483647).toNatClampNeg ∧ (x &&& 2147483647).toNatClampNeg < 2147483648 := by
  have h : 0 ≤ (x &&& 2147483647).toInt := by
    rw [← Int32.toInt_toBitVec, Int32.toBitVec_and]
    refine BitVec.toInt_nonneg_of_msb_false ?_
    rw [BitVec.msb_and]
    rw [show (Int32.toBitVec 2147483647).msb = false by decide]
    exact Bool.and_false _
  generalize x &&& 2147483647 = y at h ⊢
  have h3 := y.toInt_lt
  have h4 : y.toNatClampNeg < 2147483648 := by show y.toInt.toNat < _; omega
  refine ⟨?_, h4⟩
  apply Int32.toInt_inj.mp
  rw [nI_toInt h4]
  show _ = ((y.toInt.toNat : Nat) : Int)
  omega
theorem n_irem {a b : Nat} (ha : a < 2147483648) (hb : b < 2147483648) : nI a - nI a / nI b * nI b = nI (a % b) := by
  rw [n_div ha hb, n_mul, n_sub (Nat.div_mul_le_self a b), Nat.mod_eq_sub_div_mul]
theorem irem_low {x : Int32} {n : Nat} (hn : n < 2147483648) : (x &&& 2147483647) - (x &&& 2147483647) / nI n * nI n = nI (lowN x n) := by
  obtain ⟨e1, e2⟩ := and_low x
  unfold lowN
  generalize x &&& 2147483647 = y at e1 e2 ⊢
  generalize y.toNatClampNeg = m at e1 e2 ⊢
  rw [e1]
  exact n_irem e2 hn
section LMETH
variable {K : mK} {G : gS} {Q : Option Value → gS → Prop}
theorem l_low {x : Int32} {n : Nat} (h0 : 0 < n) (hn : n < 1000000) : EgM K 95 [.int x, .int (nI n)] G Q ↔ Q (some (.int (nI (lowN x n)))) G := by
  have e : ¬ nI n = 0 := by rw [show (0 : Int32) = nI 0 from rfl, n_eq (by omega) (by omega)]; omega
  have e2 : nI 2147483647 = 2147483647 := rfl
  unfold EgM
  simp (disch := omega) only [g_iconst, g_iconstN, g_bipush, g_bipushN, g_sipush, g_sipushN, g_ldc, g_ldc2, g_al0, g_il0, g_ii0, g_ll0, g_al1, g_il1, g_ii1, g_ll1, g_al2, g_il2, g_ii2, g_ll2, g_al3, g_il3, g_ii3, g_ll3, g_al4, g_il4, g_ii4, g_ll4, g_al5, g_il5, g_ii5, g_ll5, g_al6, g_il6, g_ii6, g_ll6, g_al7, g_il7, g_ii7, g_ll7, g_al8, g_il8, g_ii8, g_ll8, g_al9, g_il9, g_ii9, g_ll9, g_al10, g_il10, g_ii10, g_ll10, g_al11, g_il11, g_ii11, g_ll11, g_al12, g_il12, g_ii12, g_ll12, g_al13, g_il13, g_ii13, g_ll13, g_al14, g_il14, g_ii14, g_ll14, g_al15, g_il15, g_ii15, g_ll15, g_al16, g_il16, g_ii16, g_ll16, g_al17, g_il17, g_ii17, g_ll17, g_al18, g_il18, g_ii18, g_ll18, g_istore_n, g_istore, g_lstore_n, g_lstore, g_iadd, g_isub, g_imul, g_iand, g_ishr, g_idiv, g_irem, g_i2c, g_i2l, g_ladd, g_lmul, g_lcmp, g_pop, g_goto, g_nop, g_if_eq, g_if_ne, g_if_lt, g_if_ge, g_if_gt, g_if_le, g_icmp_eq, g_icmp_ne, g_icmp_lt, g_icmp_ge, g_icmp_gt, g_icmp_le, g_ret0, g_ret1, g_retn, g_retl, g_sld, g_slen, g_stat, List.cons_append, List.nil_append, List.append_nil, List.length_cons, List.length_nil, List.replicate_succ, List.replicate_zero, List.getElem?_cons_zero, List.getElem?_cons_succ, List.set_cons_zero, List.set_cons_succ, List.take_succ_cons, List.take_zero, List.drop_succ_cons, List.drop_zero, List.reverse_cons, List.reverse_nil, Option.toList_some, Option.toList_none, Nat.reduceSub, Nat.reduceAdd, Nat.reduceLeDiff, true_and, and_true, and_self, Option.some.injEq, exists_eq_left', Nat.zero_add, Value.int.injEq, Value.ref.injEq, List.cons.injEq, exists_and_left, and_assoc, exists_eq_left, List.all_cons, List.all_nil, m1_i, m1_r, Bool.and_self, Bool.and_true, g_stat, N_95, C_95, B_95_0, bk_95_0, if_pos, if_neg, not_true_eq_false, not_false_eq_true, or_true, true_or, or_false, false_or, false_and, and_false, Nat.reduceEqDiff, Nat.reduceLT, Nat.reduceMul, Nat.not_lt_zero, Nat.zero_le, Nat.le_refl, ne_eq, reduceIte, reduceCtorEq]
  rw [show (nI (OfNat.ofNat 2147483647) : Int32) = 2147483647 from rfl, irem_low (by omega)]
  simp only [e, not_false_eq_true, true_and]
theorem l_cell {k : Nat} (hk : k < 1000) (hL : K.2.2.2.1 < 1000000) : ∃ x : Int32, ∀ Q, EgM K 94 [.ref 2000000, .int (nI k)] G Q ↔ Q (some (.int x)) G := by
  by_cases c : k < K.2.2.2.1
  · refine ⟨K.2.2.2.2 k, fun Q => ?_⟩
    unfold EgM
    simp (disch := omega) only [g_iconst, g_iconstN, g_bipush, g_bipushN, g_sipush, g_sipushN, g_ldc, g_ldc2, g_al0, g_il0, g_ii0, g_ll0, g_al1, g_il1, g_ii1, g_ll1, g_al2, g_il2, g_ii2, g_ll2, g_al3, g_il3, g_ii3, g_ll3, g_al4, g_il4, g_ii4, g_ll4, g_al5, g_il5, g_ii5, g_ll5, g_al6, g_il6, g_ii6, g_ll6, g_al7, g_il7, g_ii7, g_ll7, g_al8, g_il8, g_ii8, g_ll8, g_al9, g_il9, g_ii9, g_ll9, g_al10, g_il10, g_ii10, g_ll10, g_al11, g_il11, g_ii11, g_ll11, g_al12, g_il12, g_ii12, g_ll12, g_al13, g_il13, g_ii13, g_ll13, g_al14, g_il14, g_ii14, g_ll14, g_al15, g_il15, g_ii15, g_ll15, g_al16, g_il16, g_ii16, g_ll16, g_al17, g_il17, g_ii17, g_ll17, g_al18, g_il18, g_ii18, g_ll18, g_istore_n, g_istore, g_lstore_n, g_lstore, g_iadd, g_isub, g_imul, g_iand, g_ishr, g_idiv, g_irem, g_i2c, g_i2l, g_ladd, g_lmul, g_lcmp, g_pop, g_goto, g_nop, g_if_eq, g_if_ne, g_if_lt, g_if_ge, g_if_gt, g_if_le, g_icmp_eq, g_icmp_ne, g_icmp_lt, g_icmp_ge, g_icmp_gt, g_icmp_le, g_ret0, g_ret1, g_retn, g_retl, g_sld, g_slen, g_stat, List.cons_append, List.nil_append, List.append_nil, List.length_cons, List.length_nil, List.replicate_succ, List.replicate_zero, List.getElem?_cons_zero, List.getElem?_cons_succ, List.set_cons_zero, List.set_cons_succ, List.take_succ_cons, List.take_zero, List.drop_succ_cons, List.drop_zero, List.reverse_cons, List.reverse_nil, Option.toList_some, Option.toList_none, Nat.reduceSub, Nat.reduceAdd, Nat.reduceLeDiff, true_and, and_true, and_self, Option.some.injEq, exists_eq_left', Nat.zero_add, Value.int.injEq, Value.ref.injEq, List.cons.injEq, exists_and_left, and_assoc, exists_eq_left, List.all_cons, List.all_nil, m1_i, m1_r, Bool.and_self, Bool.and_true, g_stat, N_94, C_94, B_94_0, bk_94_0, B_94_12, bk_94_12, B_94_20, bk_94_20, n_le, n_in, n_cl, if_neg, if_pos, if_neg, not_true_eq_false, not_false_eq_true, or_true, true_or, or_false, false_or, false_and, and_false, Nat.reduceEqDiff, Nat.reduceLT, Nat.reduceMul, Nat.not_lt_zero, Nat.zero_le, Nat.le_refl, ne_eq, reduceIte, reduceCtorEq]
  · refine ⟨nI (2450023) * nI k + nI 1171, fun Q => ?_⟩
    unfold EgM
    simp (disch := omega) only [g_iconst, g_iconstN, g_bipush, g_bipushN, g_sipush, g_sipushN, g_ldc, g_ldc2, g_al0, g_il0, g_ii0, g_ll0, g_al1, g_il1, g_ii1, g_ll1, g_al2, g_il2, g_ii2, g_ll2, g_al3, g_il3, g_ii3, g_ll3, g_al4, g_il4, g_ii4, g_ll4, g_al5, g_il5, g_ii5, g_ll5, g_al6, g_il6, g_ii6, g_ll6, g_al7, g_il7, g_ii7, g_ll7, g_al8, g_il8, g_ii8, g_ll8, g_al9, g_il9, g_ii9, g_ll9, g_al10, g_il10, g_ii10, g_ll10, g_al11, g_il11, g_ii11, g_ll11, g_al12, g_il12, g_ii12, g_ll12, g_al13, g_il13, g_ii13, g_ll13, g_al14, g_il14, g_ii14, g_ll14, g_al15, g_il15, g_ii15, g_ll15, g_al16, g_il16, g_ii16, g_ll16, g_al17, g_il17, g_ii17, g_ll17, g_al18, g_il18, g_ii18, g_ll18, g_istore_n, g_istore, g_lstore_n, g_lstore, g_iadd, g_isub, g_imul, g_iand, g_ishr, g_idiv, g_irem, g_i2c, g_i2l, g_ladd, g_lmul, g_lcmp, g_pop, g_goto, g_nop, g_if_eq, g_if_ne, g_if_lt, g_if_ge, g_if_gt, g_if_le, g_icmp_eq, g_icmp_ne, g_icmp_lt, g_icmp_ge, g_icmp_gt, g_icmp_le, g_ret0, g_ret1, g_retn, g_retl, g_sld, g_slen, g_stat, List.cons_append, List.nil_append, List.append_nil, List.length_cons, List.length_nil, List.replicate_succ, List.replicate_zero, List.getElem?_cons_zero, List.getElem?_cons_succ, List.set_cons_zero, List.set_cons_succ, List.take_succ_cons, List.take_zero, List.drop_succ_cons, List.drop_zero, List.reverse_cons, List.reverse_nil, Option.toList_some, Option.toList_none, Nat.reduceSub, Nat.reduceAdd, Nat.reduceLeDiff, true_and, and_true, and_self, Option.some.injEq, exists_eq_left', Nat.zero_add, Value.int.injEq, Value.ref.injEq, List.cons.injEq, exists_and_left, and_assoc, exists_eq_left, List.all_cons, List.all_nil, m1_i, m1_r, Bool.and_self, Bool.and_true, g_stat, N_94, C_94, B_94_0, bk_94_0, B_94_12, bk_94_12, B_94_20, bk_94_20, n_le, n_in, n_cl, if_pos, if_pos, if_neg, not_true_eq_false, not_false_eq_true, or_true, true_or, or_false, false_or, false_and, and_false, Nat.reduceEqDiff, Nat.reduceLT, Nat.reduceMul, Nat.not_lt_zero, Nat.zero_le, Nat.le_refl, ne_eq, reduceIte, reduceCtorEq]
theorem l_types {v H : Nat → Int32} {n t c : Nat} {T : Nat → Nat} (hK : K.2.2.1 0 = (1, 7)) (hc : c < 65536) (ht : t < 50) : EgM K 97 [.ref 0, .int (nI c)] (v, n, H, t, T) Q ↔ Q none (v, n, H, t + 1, tU T t c) := by
  unfold EgM
  simp (disch := first | assumption | omega) only [g_iconst, g_iconstN, g_bipush, g_bipushN, g_sipush, g_sipushN, g_ldc, g_ldc2, g_al0, g_il0, g_ii0, g_ll0, g_al1, g_il1, g_ii1, g_ll1, g_al2, g_il2, g_ii2, g_ll2, g_al3, g_il3, g_ii3, g_ll3, g_al4, g_il4, g_ii4, g_ll4, g_al5, g_il5, g_ii5, g_ll5, g_al6, g_il6, g_ii6, g_ll6, g_al7, g_il7, g_ii7, g_ll7, g_al8, g_il8, g_ii8, g_ll8, g_al9, g_il9, g_ii9, g_ll9, g_al10, g_il10, g_ii10, g_ll10, g_al11, g_il11, g_ii11, g_ll11, g_al12, g_il12, g_ii12, g_ll12, g_al13, g_il13, g_ii13, g_ll13, g_al14, g_il14, g_ii14, g_ll14, g_al15, g_il15, g_ii15, g_ll15, g_al16, g_il16, g_ii16, g_ll16, g_al17, g_il17, g_ii17, g_ll17, g_al18, g_il18, g_ii18, g_ll18, g_istore_n, g_istore, g_lstore_n, g_lstore, g_iadd, g_isub, g_imul, g_iand, g_ishr, g_idiv, g_irem, g_i2c, g_i2l, g_ladd, g_lmul, g_lcmp, g_pop, g_goto, g_nop, g_if_eq, g_if_ne, g_if_lt, g_if_ge, g_if_gt, g_if_le, g_icmp_eq, g_icmp_ne, g_icmp_lt, g_icmp_ge, g_icmp_gt, g_icmp_le, g_ret0, g_ret1, g_retn, g_retl, g_sld, g_slen, g_stat, List.cons_append, List.nil_append, List.append_nil, List.length_cons, List.length_nil, List.replicate_succ, List.replicate_zero, List.getElem?_cons_zero, List.getElem?_cons_succ, List.set_cons_zero, List.set_cons_succ, List.take_succ_cons, List.take_zero, List.drop_succ_cons, List.drop_zero, List.reverse_cons, List.reverse_nil, Option.toList_some, Option.toList_none, Nat.reduceSub, Nat.reduceAdd, Nat.reduceLeDiff, true_and, and_true, and_self, Option.some.injEq, exists_eq_left', Nat.zero_add, Value.int.injEq, Value.ref.injEq, List.cons.injEq, exists_and_left, and_assoc, exists_eq_left, List.all_cons, List.all_nil, m1_i, m1_r, Bool.and_self, Bool.and_true, g_stat, N_97, C_97, B_97_0, bk_97_0, n_16, g_type hK, nType, Nat.zero_le, if_pos, if_neg, not_true_eq_false, not_false_eq_true, or_true, true_or, or_false, false_or, false_and, and_false, Nat.reduceEqDiff, Nat.reduceLT, Nat.reduceMul, Nat.not_lt_zero, Nat.zero_le, Nat.le_refl, ne_eq, reduceIte, reduceCtorEq]
theorem l_word {v H : Nat → Int32} {n t : Nat} {T : Nat → Nat} (hK : K.2.2.1 0 = (1, 7)) : EgM K 98 [.ref 0, .int (nI 119), .int (nI 114), .int (nI 105), .int (nI 116), .int (nI 101), .int (nI 0)] (v, n, H, t, T) Q ↔ Q none (v, n, H, 6, tU (tU (tU (tU (tU (tU T 0 119) 1 114) 2 105) 3 116) 4 101) 5 32) := by
  unfold EgM
  simp (disch := first | assumption | omega) only [g_iconst, g_iconstN, g_bipush, g_bipushN, g_sipush, g_sipushN, g_ldc, g_ldc2, g_al0, g_il0, g_ii0, g_ll0, g_al1, g_il1, g_ii1, g_ll1, g_al2, g_il2, g_ii2, g_ll2, g_al3, g_il3, g_ii3, g_ll3, g_al4, g_il4, g_ii4, g_ll4, g_al5, g_il5, g_ii5, g_ll5, g_al6, g_il6, g_ii6, g_ll6, g_al7, g_il7, g_ii7, g_ll7, g_al8, g_il8, g_ii8, g_ll8, g_al9, g_il9, g_ii9, g_ll9, g_al10, g_il10, g_ii10, g_ll10, g_al11, g_il11, g_ii11, g_ll11, g_al12, g_il12, g_ii12, g_ll12, g_al13, g_il13, g_ii13, g_ll13, g_al14, g_il14, g_ii14, g_ll14, g_al15, g_il15, g_ii15, g_ll15, g_al16, g_il16, g_ii16, g_ll16, g_al17, g_il17, g_ii17, g_ll17, g_al18, g_il18, g_ii18, g_ll18, g_istore_n, g_istore, g_lstore_n, g_lstore, g_iadd, g_isub, g_imul, g_iand, g_ishr, g_idiv, g_irem, g_i2c, g_i2l, g_ladd, g_lmul, g_lcmp, g_pop, g_goto, g_nop, g_if_eq, g_if_ne, g_if_lt, g_if_ge, g_if_gt, g_if_le, g_icmp_eq, g_icmp_ne, g_icmp_lt, g_icmp_ge, g_icmp_gt, g_icmp_le, g_ret0, g_ret1, g_retn, g_retl, g_sld, g_slen, g_stat, List.cons_append, List.nil_append, List.append_nil, List.length_cons, List.length_nil, List.replicate_succ, List.replicate_zero, List.getElem?_cons_zero, List.getElem?_cons_succ, List.set_cons_zero, List.set_cons_succ, List.take_succ_cons, List.take_zero, List.drop_succ_cons, List.drop_zero, List.reverse_cons, List.reverse_nil, Option.toList_some, Option.toList_none, Nat.reduceSub, Nat.reduceAdd, Nat.reduceLeDiff, true_and, and_true, and_self, Option.some.injEq, exists_eq_left', Nat.zero_add, Value.int.injEq, Value.ref.injEq, List.cons.injEq, exists_and_left, and_assoc, exists_eq_left, List.all_cons, List.all_nil, m1_i, m1_r, Bool.and_self, Bool.and_true, g_stat, N_98, C_98, B_98_0, bk_98_0, B_98_37, bk_98_37, B_98_48, bk_98_48, l_types hK, g_clear hK, nClear, n_le, n_lt, o_le_l, o_le_r, o_lt_l, o_lt_r, o_le, o_lt, Nat.zero_le, if_pos, if_neg, not_true_eq_false, not_false_eq_true, or_true, true_or, or_false, false_or, false_and, and_false, Nat.reduceEqDiff, Nat.reduceLT, Nat.reduceMul, Nat.not_lt_zero, Nat.zero_le, Nat.le_refl, ne_eq, reduceIte, reduceCtorEq]
theorem l_number {v H : Nat → Int32} {n t k : Nat} {T : Nat → Nat} (hK : K.2.2.1 0 = (1, 7)) (hk : k ≤ 9) (ht : t < 50) : EgM K 99 [.ref 0, .int (nI k)] (v, n, H, t, T) Q ↔ Q none (v, n, H, t + 1, tU T t (48 + k)) := by
  have e : k % 10 = k := by omega
  unfold EgM
  simp (disch := first | assumption | omega) only [g_iconst, g_iconstN, g_bipush, g_bipushN, g_sipush, g_sipushN, g_ldc, g_ldc2, g_al0, g_il0, g_ii0, g_ll0, g_al1, g_il1, g_ii1, g_ll1, g_al2, g_il2, g_ii2, g_ll2, g_al3, g_il3, g_ii3, g_ll3, g_al4, g_il4, g_ii4, g_ll4, g_al5, g_il5, g_ii5, g_ll5, g_al6, g_il6, g_ii6, g_ll6, g_al7, g_il7, g_ii7, g_ll7, g_al8, g_il8, g_ii8, g_ll8, g_al9, g_il9, g_ii9, g_ll9, g_al10, g_il10, g_ii10, g_ll10, g_al11, g_il11, g_ii11, g_ll11, g_al12, g_il12, g_ii12, g_ll12, g_al13, g_il13, g_ii13, g_ll13, g_al14, g_il14, g_ii14, g_ll14, g_al15, g_il15, g_ii15, g_ll15, g_al16, g_il16, g_ii16, g_ll16, g_al17, g_il17, g_ii17, g_ll17, g_al18, g_il18, g_ii18, g_ll18, g_istore_n, g_istore, g_lstore_n, g_lstore, g_iadd, g_isub, g_imul, g_iand, g_ishr, g_idiv, g_irem, g_i2c, g_i2l, g_ladd, g_lmul, g_lcmp, g_pop, g_goto, g_nop, g_if_eq, g_if_ne, g_if_lt, g_if_ge, g_if_gt, g_if_le, g_icmp_eq, g_icmp_ne, g_icmp_lt, g_icmp_ge, g_icmp_gt, g_icmp_le, g_ret0, g_ret1, g_retn, g_retl, g_sld, g_slen, g_stat, List.cons_append, List.nil_append, List.append_nil, List.length_cons, List.length_nil, List.replicate_succ, List.replicate_zero, List.getElem?_cons_zero, List.getElem?_cons_succ, List.set_cons_zero, List.set_cons_succ, List.take_succ_cons, List.take_zero, List.drop_succ_cons, List.drop_zero, List.reverse_cons, List.reverse_nil, Option.toList_some, Option.toList_none, Nat.reduceSub, Nat.reduceAdd, Nat.reduceLeDiff, true_and, and_true, and_self, Option.some.injEq, exists_eq_left', Nat.zero_add, Value.int.injEq, Value.ref.injEq, List.cons.injEq, exists_and_left, and_assoc, exists_eq_left, List.all_cons, List.all_nil, m1_i, m1_r, Bool.and_self, Bool.and_true, g_stat, N_99, C_99, B_99_0, bk_99_0, B_99_17, bk_99_17, l_types hK, n_irem, n_add, n_le, e, Nat.zero_le, if_pos, if_neg, not_true_eq_false, not_false_eq_true, or_true, true_or, or_false, false_or, false_and, and_false, Nat.reduceEqDiff, Nat.reduceLT, Nat.reduceMul, Nat.not_lt_zero, Nat.zero_le, Nat.le_refl, ne_eq, reduceIte, reduceCtorEq]
  have e10 : ¬ nI (OfNat.ofNat 10) = 0 := by decide
  simp only [e10, not_false_eq_true, true_and]
end LMETH
