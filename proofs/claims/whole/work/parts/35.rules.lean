/-! THE OPS, one by one: class and reference side by side. First the rule and the limit -/
theorem in_rng {x : Int32} {n : Nat} (hn : n + 1 < 1000000) (h1 : ¬ x < 0) (h2 : ¬ nI n < x) : ∃ k, k ≤ n ∧ x = nI k := by
  rcases sp_cases x (n := n + 1) (by omega) with ⟨k, hk, rfl⟩ | q | q
  · exact ⟨k, by omega, rfl⟩
  · exact absurd q h1
  · refine absurd ?_ h2
    rw [Int32.lt_iff_toInt_lt, nI_toInt (by omega)]
    rw [Int32.le_iff_toInt_le, nI_toInt (by omega)] at q
    omega
theorem E_in (z : Nat) {as : List Value} {h : mH} {Q : Option Value → mH → Prop} : EvM z as h Q = Ev z (mB z 0) (as ++ List.replicate (mN z - as.length) .null) [] h Q := rfl
def OPo (K : mK) (v v' : Option Value) (h'' : mH) : Prop := (∃ x, v = some (.int x) ∧ v' = some (.int x)) ∧ ∃ R' I', h'' = (K, R', I') ∧ REL K R' I'
def OP (c r : Nat) (as : List Value) : Prop := ∀ K R I, REL K R I → EvM c (.ref 0 :: as) (K, R, I) (fun v h' => EvM r (.ref 194 :: as) h' (fun v' h'' => OPo K v v' h''))
theorem OPo_same {K : mK} {R : Nat → Nat → Option Nat} {I : Nat → Nat → Int32} {x : Int32} (h : REL K R I) : OPo K (some (.int x)) (some (.int x)) (K, R, I) := ⟨⟨x, rfl, rfl⟩, R, I, rfl, h⟩
theorem rRec_o {I : Nat → Nat → Int32} {n x : Nat} (h : x ≠ 194 ∧ x ≠ 196) : rRec I n x = I x := by
  funext j
  rw [rRec, if_neg (by omega), if_neg (by omega)]
theorem rRec_k {I : Nat → Nat → Int32} {n : Nat} : rRec I n 194 2 = nI (nTu n) := if_pos ⟨rfl, rfl⟩
theorem rRec_4 {I : Nat → Nat → Int32} {n j : Nat} (h : j ≠ 2) : rRec I n 194 j = I 194 j := by
  rw [rRec, if_neg (by omega), if_neg (by omega)]
theorem rRec_h {I : Nat → Nat → Int32} {n : Nat} : rRec I n 196 = vRec (I 196) (I 195) n := by
  funext j
  rw [rRec, if_neg (by omega), if_pos rfl]
/-- the class's state 1 with one number changed -/
theorem RC_num {I : Nat → Nat → Int32} {v : Nat → Int32} {q n k b : Nat} {x : Int32} (hv : RC I 1 v) (hk : (k = 2 ∧ b = 588 ∧ ∃ m, m ≤ 2 ∧ x = nI m) ∨ (k = 3 ∧ b = 589 ∧ ∃ m, 101 ≤ m ∧ m ≤ 200 ∧ x = nI m)) : RC (mSet (hRm I q n) 1 k x) 1 (vU v b x) := by
  have e0 : ∀ y j, y < 31 → hRm I q n y j = I y j := fun y j hy => hRm_o (by omega) (by omega)
  refine ⟨fun s hs => ?_, ?_⟩
  · obtain ⟨p, cl, c, hw⟩ := hv.1 s hs
    exact ⟨p, cl, c, rW_cong hw (fun d j hd _ _ => by rw [s_ne (by omega), e0 _ _ (by omega)]) (fun y y1 y2 => u_ne (by omega))⟩
  · obtain ⟨h1, h2, h3, h4, h5, h6, h7, h8, h9, m, h13, h14, h15, h16⟩ := hv.2
    have fin : ∃ n_1, n_1 ≤ 10 ∧ mSet (hRm I q n) 1 k x (1 + 2) 3 = nI n_1 ∧ vU v b x 595 = nI n_1 ∧ ∀ e, e < n_1 → mSet (hRm I q n) 1 k x (1 + 3) e = vU v b x (596 + 3 * e) ∧ mSet (hRm I q n) 1 k x (1 + 4) e = vU v b x (597 + 3 * e) ∧ mSet (hRm I q n) 1 k x (1 + 5) e = vU v b x (598 + 3 * e) := by
      refine ⟨m, h13, ?_, ?_, fun e he => ?_⟩
      · rw [s_ne (by omega), e0 _ _ (by omega)]; exact h14
      · rw [u_ne (by omega)]; exact h15
      · rw [s_ne (by omega), s_ne (by omega), s_ne (by omega), e0 _ _ (by omega), e0 _ _ (by omega), e0 _ _ (by omega), u_ne (by omega), u_ne (by omega), u_ne (by omega)]
        exact h16 e he
    rcases hk with ⟨rfl, rfl, hx⟩ | ⟨rfl, rfl, hx⟩
    · refine ⟨by rw [s_eq, u_eq], ?_, ?_, ?_, ?_, ?_, ?_, by rw [u_eq]; exact hx, by rw [u_ne (by omega)]; exact h9, fin⟩
      · rw [s_ne (by omega), e0 _ _ (by omega), u_ne (by omega)]; exact h2
      · rw [s_ne (by omega), e0 _ _ (by omega), u_ne (by omega)]; exact h3
      · rw [s_ne (by omega), e0 _ _ (by omega), u_ne (by omega)]; exact h4
      · rw [s_ne (by omega), e0 _ _ (by omega), u_ne (by omega)]; exact h5
      · rw [s_ne (by omega), e0 _ _ (by omega), u_ne (by omega)]; exact h6
      · rw [s_ne (by omega), e0 _ _ (by omega), u_ne (by omega)]; exact h7
    · refine ⟨?_, by rw [s_eq, u_eq], ?_, ?_, ?_, ?_, ?_, by rw [u_ne (by omega)]; exact h8, by rw [u_eq]; exact hx, fin⟩
      · rw [s_ne (by omega), e0 _ _ (by omega), u_ne (by omega)]; exact h1
      · rw [s_ne (by omega), e0 _ _ (by omega), u_ne (by omega)]; exact h3
      · rw [s_ne (by omega), e0 _ _ (by omega), u_ne (by omega)]; exact h4
      · rw [s_ne (by omega), e0 _ _ (by omega), u_ne (by omega)]; exact h5
      · rw [s_ne (by omega), e0 _ _ (by omega), u_ne (by omega)]; exact h6
      · rw [s_ne (by omega), e0 _ _ (by omega), u_ne (by omega)]; exact h7
theorem OPo_act {K : mK} {R : Nat → Nat → Option Nat} {I I2 I3 : Nat → Nat → Int32} {f : Nat → Nat} {n : Nat} {v' : Nat → Int32} {x : Int32} (g : zG K R f) (hv : RC I 1 (I 195)) (hn2 : n ≤ 4) (hH : rH I f n (I 196)) (hP : rP I) (hT : rT I)
    (h2 : ∀ x, 31 ≤ x → x < 186 ∨ x = 0 → I2 x = hRm I (qTu f n) n x) (h20 : I2 0 = I 0) (h2v : RC I2 1 v')
    (h3 : ∀ x, x < 194 → I3 x = I2 x) (h3v : I3 195 = v') (h3h : I3 196 = vRec (I 196) (I 195) n) (h3k : I3 194 2 = nI (nTu n)) (h34 : I3 194 4 = I 194 4) (h37 : I3 194 7 = I 194 7) (h3s : I3 197 = I 197) (h3t : I3 200 = I 200) : OPo K (some (.int x)) (some (.int x)) (K, RTu R n, I3) :=
  ⟨⟨x, rfl, rfl⟩, _, _, rfl, REL_act g hv hn2 hH hP hT h2 h20 h2v h3 h3v h3h h3k h34 h37 h3s h3t⟩
theorem s_no {I : Nat → Nat → Int32} {a k b : Nat} {x : Int32} (h : b ≠ a) : mSet I a k x b = I b := by
  funext j; exact if_neg (fun q => h q.1)
theorem s_row {I : Nat → Nat → Int32} {a k : Nat} {x : Int32} : mSet I a k x a = vU (I a) k x := by
  funext j
  simp [mSet, vU]
theorem hRm_w {I : Nat → Nat → Int32} {q n x : Nat} (h : x < 33 + 30 * q ∨ 33 + 30 * q + 30 ≤ x) (h2 : x ≠ 31) : hRm I q n x = I x := by
  funext j; exact hRm_o h h2
set_option maxHeartbeats 4000000 in
theorem op_setRule (x : Int32) : OP 59 97 [.int x] := by
  intro K R I hrel
  obtain ⟨f, n, g, hv, hn2, hn, hk, hH, hP, hT⟩ := id hrel
  have q4 := qTu_lt g hn2
  obtain ⟨gm, gs, -, gh, gw, gr, gr', ⟨a0, a1, a2, a3, a4, a5, a6, a7, a8⟩, ⟨b0, b1, b2⟩, cc0⟩ := id g
  obtain ⟨gs0, gs1, gs2, gs3, gs4, gs5, gs6⟩ := id gs
  have gh0 := gh.1
  obtain ⟨m0, m1, m2, m3, m4, m5, m6, m7, m8, m9, m10, m11, m12, m13, m14⟩ := id gm
  have gT := zG_tu (n := n) g
  have gmt : zM K (RTu R n) := gT.1
  have gst : zS K (RTu R n) 1 := gT.2.1
  obtain ⟨-, gt1, -, gt3, gt4, -, gt6⟩ := id gst
  obtain ⟨-, m1t, -⟩ := id gmt
  obtain ⟨-, a1t, a2t, a3t, a4t, a5t, a6t, a7t, a8t⟩ := gT.2.2.2.2.2.2.2.1
  have h588 := hv.2.1
  obtain ⟨ru, ru1, ru2⟩ := hv.2.2.2.2.2.2.2.2.1
  rw [ru2] at h588
  have e3 : ∀ z, mSet (hRm I (qTu f n) n) 1 2 z 194 2 = nI n := fun z => by rw [s_ne (by omega), hRm_o (by omega) (by omega)]; exact hk
  by_cases c1 : x < 0
  · simp (disch := omega) only [e_iconst, e_bipush, e_sipush, e_iload_n, e_iload, e_aload_n, e_aload, e_istore_n, e_istore, e_astore_n, e_astore, e_iinc, e_iadd, e_isub, e_imul, e_iand, e_ishr, e_idiv, e_i2c, e_dup_i, e_dup_r, e_dup2, e_pop, e_goto, e_nop, e_if_eq, e_if_ne, e_if_lt, e_if_ge, e_if_gt, e_if_le, e_icmp_eq, e_icmp_ne, e_icmp_lt, e_icmp_ge, e_icmp_gt, e_icmp_le, e_tsw, e_ret0, e_ret1, e_retn, e_getI, e_getZ, e_getR, e_getV, e_getC, e_putI, e_putZ, e_putF, e_gst0, e_gst1, e_sld, e_iald, e_cald, e_bald, e_iast, e_cast, e_aald, e_aast, e_alen, e_slen, e_blen, e_newa, e_newq, e_new, e_oinit, e_ctor, e_virt, e_stat, e_min, e_copy, e_ldc, List.cons_append, List.nil_append, List.append_nil, List.length_cons, List.length_nil, List.replicate_succ, List.replicate_zero, List.getElem?_cons_zero, List.getElem?_cons_succ, List.set_cons_zero, List.set_cons_succ, List.take_succ_cons, List.take_zero, List.drop_succ_cons, List.drop_zero, List.reverse_cons, List.reverse_nil, Option.toList_some, Option.toList_none, Nat.reduceSub, Nat.reduceAdd, Nat.reduceLeDiff, true_and, and_true, and_self, Option.some.injEq, exists_eq_left', Nat.zero_add, Value.int.injEq, Value.ref.injEq, List.cons.injEq, exists_and_left, and_assoc, exists_eq_left, E_in 59, N_59, B_59_0, bk_59_0, B_59_9, bk_59_9, E_in 97, N_97, B_97_0, bk_97_0, c1, r_in, C_89, if_pos, if_neg, not_true_eq_false, not_false_eq_true, or_true, true_or, or_false, false_or, false_and, and_false, Nat.reduceEqDiff, Nat.reduceLT, Nat.reduceMul, Nat.not_lt_zero, Nat.zero_le, Nat.le_refl, ne_eq, reduceIte, reduceCtorEq]
    exact OPo_same hrel
  by_cases c2 : nI 2 < x
  · have c2' : (2 : Int32) < x := c2
    have c3 : ¬ x ≤ 2 := Int32.not_le.mpr c2
    simp (disch := omega) only [e_iconst, e_bipush, e_sipush, e_iload_n, e_iload, e_aload_n, e_aload, e_istore_n, e_istore, e_astore_n, e_astore, e_iinc, e_iadd, e_isub, e_imul, e_iand, e_ishr, e_idiv, e_i2c, e_dup_i, e_dup_r, e_dup2, e_pop, e_goto, e_nop, e_if_eq, e_if_ne, e_if_lt, e_if_ge, e_if_gt, e_if_le, e_icmp_eq, e_icmp_ne, e_icmp_lt, e_icmp_ge, e_icmp_gt, e_icmp_le, e_tsw, e_ret0, e_ret1, e_retn, e_getI, e_getZ, e_getR, e_getV, e_getC, e_putI, e_putZ, e_putF, e_gst0, e_gst1, e_sld, e_iald, e_cald, e_bald, e_iast, e_cast, e_aald, e_aast, e_alen, e_slen, e_blen, e_newa, e_newq, e_new, e_oinit, e_ctor, e_virt, e_stat, e_min, e_copy, e_ldc, List.cons_append, List.nil_append, List.append_nil, List.length_cons, List.length_nil, List.replicate_succ, List.replicate_zero, List.getElem?_cons_zero, List.getElem?_cons_succ, List.set_cons_zero, List.set_cons_succ, List.take_succ_cons, List.take_zero, List.drop_succ_cons, List.drop_zero, List.reverse_cons, List.reverse_nil, Option.toList_some, Option.toList_none, Nat.reduceSub, Nat.reduceAdd, Nat.reduceLeDiff, true_and, and_true, and_self, Option.some.injEq, exists_eq_left', Nat.zero_add, Value.int.injEq, Value.ref.injEq, List.cons.injEq, exists_and_left, and_assoc, exists_eq_left, E_in 59, N_59, B_59_0, bk_59_0, B_59_9, bk_59_9, E_in 97, N_97, B_97_0, bk_97_0, c1, c2', c3, r_in, C_89, if_pos, if_neg, not_true_eq_false, not_false_eq_true, or_true, true_or, or_false, false_or, false_and, and_false, Nat.reduceEqDiff, Nat.reduceLT, Nat.reduceMul, Nat.not_lt_zero, Nat.zero_le, Nat.le_refl, ne_eq, reduceIte, reduceCtorEq]
    exact OPo_same hrel
  obtain ⟨k, k1, rfl⟩ := in_rng (by omega) c1 c2
  by_cases c4 : ru = k
  · simp (disch := omega) only [e_iconst, e_bipush, e_sipush, e_iload_n, e_iload, e_aload_n, e_aload, e_istore_n, e_istore, e_astore_n, e_astore, e_iinc, e_iadd, e_isub, e_imul, e_iand, e_ishr, e_idiv, e_i2c, e_dup_i, e_dup_r, e_dup2, e_pop, e_goto, e_nop, e_if_eq, e_if_ne, e_if_lt, e_if_ge, e_if_gt, e_if_le, e_icmp_eq, e_icmp_ne, e_icmp_lt, e_icmp_ge, e_icmp_gt, e_icmp_le, e_tsw, e_ret0, e_ret1, e_retn, e_getI, e_getZ, e_getR, e_getV, e_getC, e_putI, e_putZ, e_putF, e_gst0, e_gst1, e_sld, e_iald, e_cald, e_bald, e_iast, e_cast, e_aald, e_aast, e_alen, e_slen, e_blen, e_newa, e_newq, e_new, e_oinit, e_ctor, e_virt, e_stat, e_min, e_copy, e_ldc, List.cons_append, List.nil_append, List.append_nil, List.length_cons, List.length_nil, List.replicate_succ, List.replicate_zero, List.getElem?_cons_zero, List.getElem?_cons_succ, List.set_cons_zero, List.set_cons_succ, List.take_succ_cons, List.take_zero, List.drop_succ_cons, List.drop_zero, List.reverse_cons, List.reverse_nil, Option.toList_some, Option.toList_none, Nat.reduceSub, Nat.reduceAdd, Nat.reduceLeDiff, true_and, and_true, and_self, Option.some.injEq, exists_eq_left', Nat.zero_add, Value.int.injEq, Value.ref.injEq, List.cons.injEq, exists_and_left, and_assoc, exists_eq_left, E_in 59, N_59, B_59_0, bk_59_0, B_59_12, bk_59_12, E_in 97, N_97, B_97_0, bk_97_0, n_ne0, o_lt_r, o_le_l, r_in, C_89, a0, a1, a2, gs0, h588, n_eq, B_97_12, bk_97_12, m0, m1, m2, o_in, o_cl, ru2, c4, if_pos, if_neg, not_true_eq_false, not_false_eq_true, or_true, true_or, or_false, false_or, false_and, and_false, Nat.reduceEqDiff, Nat.reduceLT, Nat.reduceMul, Nat.not_lt_zero, Nat.zero_le, Nat.le_refl, ne_eq, reduceIte, reduceCtorEq]
    exact OPo_same hrel
  · simp (disch := omega) only [e_iconst, e_bipush, e_sipush, e_iload_n, e_iload, e_aload_n, e_aload, e_istore_n, e_istore, e_astore_n, e_astore, e_iinc, e_iadd, e_isub, e_imul, e_iand, e_ishr, e_idiv, e_i2c, e_dup_i, e_dup_r, e_dup2, e_pop, e_goto, e_nop, e_if_eq, e_if_ne, e_if_lt, e_if_ge, e_if_gt, e_if_le, e_icmp_eq, e_icmp_ne, e_icmp_lt, e_icmp_ge, e_icmp_gt, e_icmp_le, e_tsw, e_ret0, e_ret1, e_retn, e_getI, e_getZ, e_getR, e_getV, e_getC, e_putI, e_putZ, e_putF, e_gst0, e_gst1, e_sld, e_iald, e_cald, e_bald, e_iast, e_cast, e_aald, e_aast, e_alen, e_slen, e_blen, e_newa, e_newq, e_new, e_oinit, e_ctor, e_virt, e_stat, e_min, e_copy, e_ldc, List.cons_append, List.nil_append, List.append_nil, List.length_cons, List.length_nil, List.replicate_succ, List.replicate_zero, List.getElem?_cons_zero, List.getElem?_cons_succ, List.set_cons_zero, List.set_cons_succ, List.take_succ_cons, List.take_zero, List.drop_succ_cons, List.drop_zero, List.reverse_cons, List.reverse_nil, Option.toList_some, Option.toList_none, Nat.reduceSub, Nat.reduceAdd, Nat.reduceLeDiff, true_and, and_true, and_self, Option.some.injEq, exists_eq_left', Nat.zero_add, Value.int.injEq, Value.ref.injEq, List.cons.injEq, exists_and_left, and_assoc, exists_eq_left, E_in 59, N_59, B_59_0, bk_59_0, B_59_12, bk_59_12, B_59_28, bk_59_28, E_in 97, N_97, B_97_0, bk_97_0, n_ne0, o_lt_r, o_le_l, r_in, C_89, C_95, C_9, a_remember g hv hn hn2, a0, a1, a2, a1t, gs0, gh0, h588, n_eq, B_97_12, bk_97_12, B_97_29, bk_97_29, m0, m1, m2, m1t, o_in, o_cl, ru2, c4, Ne.symm c4, if_pos, if_neg, if_pos, if_neg, not_true_eq_false, not_false_eq_true, or_true, true_or, or_false, false_or, false_and, and_false, Nat.reduceEqDiff, Nat.reduceLT, Nat.reduceMul, Nat.not_lt_zero, Nat.zero_le, Nat.le_refl, ne_eq, reduceIte, reduceCtorEq]
    trace_state
    sorry
