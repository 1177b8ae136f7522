/-! write: the act -/
/-- the class's wire, begun -/
def wBg (I : Nat → Nat → Int32) (a : Nat) : Nat → Nat → Int32 := mSet (mSet (mSet (mSet (mSet (mSet (mSet (mSet I a 3 0) a 4 0) a 5 0) a 6 0) a 3 1) (a + 1) 0 5000) (a + 2) 0 5000) (a + 3) 0 (-1)
theorem wBg_o {I : Nat → Nat → Int32} {a x j : Nat} (h : x < a ∨ a + 3 < x) : wBg I a x j = I x j := by
  unfold wBg
  simp (disch := omega) only [s_ne]
/-- and written -/
def wWn (I : Nat → Nat → Int32) (a : Nat) (tr : Nat → Int32) (c : Nat) : Nat → Nat → Int32 := mSet (mSet (mSet (mSet (wWr (wBg I a) a tr c) a 4 1) (a + 1) (c + 1) 5000) (a + 2) (c + 1) 5000) (a + 3) (c + 1) (-1)
theorem wWn_o {I : Nat → Nat → Int32} {a c x j : Nat} {tr : Nat → Int32} (h : x < a ∨ a + 3 < x) : wWn I a tr c x j = I x j := by
  unfold wWn
  simp (disch := omega) only [s_ne, wWr_o, wBg_o]
theorem wWn_f {I : Nat → Nat → Int32} {a c : Nat} {tr : Nat → Int32} : wWn I a tr c a 3 = 1 ∧ wWn I a tr c a 4 = 1 ∧ wWn I a tr c a 5 = nI c ∧ wWn I a tr c a 6 = 0 := by
  unfold wWn
  refine ⟨?_, ?_, ?_, ?_⟩
  · simp (disch := omega) only [s_ne, wWr_o]
    unfold wBg
    simp (disch := omega) only [s_ne, s_eq]
  · simp (disch := omega) only [s_ne, s_eq]
  · simp (disch := omega) only [s_ne, wWr_5]
  · simp (disch := omega) only [s_ne, wWr_o]
    unfold wBg
    simp (disch := omega) only [s_ne, s_eq]
theorem wWn_g {I : Nat → Nat → Int32} {a c x j : Nat} {tr : Nat → Int32} (hx : x = a + 1 ∨ x = a + 2) (hj : j < c + 2) : wWn I a tr c x j = nomQ tr c j := by
  unfold wWn
  rcases (show j = 0 ∨ (1 ≤ j ∧ j ≤ c) ∨ j = c + 1 by omega) with e | e | e
  · subst e
    rw [nomQ_0]
    rcases hx with rfl | rfl
    · simp (disch := omega) only [s_ne, wWr_o]
      unfold wBg
      simp (disch := omega) only [s_ne, s_eq]
    · simp (disch := omega) only [s_ne, wWr_o]
      unfold wBg
      simp (disch := omega) only [s_ne, s_eq]
  · obtain ⟨i, rfl⟩ : ∃ i, j = i + 1 := ⟨j - 1, by omega⟩
    rw [nomQ_i (by omega)]
    rw [s_ne (by omega), s_ne (by omega), s_ne (by omega), s_ne (by omega), wWr_g hx (by omega)]
  · subst e
    rw [nomQ_e]
    rcases hx with rfl | rfl <;> simp (disch := omega) only [s_ne, s_eq]
theorem wWn_t {I : Nat → Nat → Int32} {a c : Nat} {tr : Nat → Int32} : wWn I a tr c (a + 3) 0 = -1 ∧ (∀ i, i < c → wWn I a tr c (a + 3) (i + 1) = tr i) ∧ wWn I a tr c (a + 3) (c + 1) = -1 := by
  unfold wWn
  refine ⟨?_, fun i hi => ?_, s_eq⟩
  · simp (disch := omega) only [s_ne, wWr_o]
    unfold wBg
    exact s_eq
  · rw [s_ne (by omega), s_ne (by omega), s_ne (by omega), s_ne (by omega), wWr_t hi]
set_option maxHeartbeats 8000000 in
theorem write_act {s c q t : Nat} {T : Nat → Nat} (hs : s < 6) (hc : c ≤ 30) (hqt : q + c = t) (ht : t ≤ 50) (hTc : ∀ i, i < c → 97 ≤ T (q + i) ∧ T (q + i) ≤ 104) (hT2 : ∀ k, k < t → T k < 65536) : ∀ K R I, REL K R I → rW I (7 + 4 * s) (I 195) s 0 0 0 → I 183 1 = nI t → (∀ k, k < t → I 184 k = nI (T k) ∧ I 200 k = nI (T k)) →
    ∃ R1 I1, Ev 69 (mB 69 42) [.ref 0, .int (nI s), .int (nI q), .int (nI t), .ref (7 + 4 * s), .null] [] (K, R, I) (fun v k => v = some (.int (nI c)) ∧ k = (K, R1, I1)) ∧ (zM K R1 ∧ ∀ x, 194 ≤ x → I1 x = I x) ∧ ∀ J, SCR I1 J → J 194 12 = nI s → J 194 13 = nI q → Ev 121 (mB 121 45) [.ref 194, .int (nI c), .null, .null] [] (K, R1, J) (OPo K (nI c)) := by
  intro K R I hrel
  obtain ⟨f, n, g, hv, hn2, hn, hk, hH, hP, hT⟩ := id hrel
  have q4 := qTu_lt g hn2
  obtain ⟨gm, gs, -, gh, gw, gr, gr', ⟨a0, a1, a2, a3, a4, a5, a6, a7, a8⟩, ⟨b0, b1, b2⟩, cc0⟩ := id g
  have gs0 : K.2.2.1 1 = (1, 4) := gs.1
  have gs1 : R 1 0 = some 2 := gs.2.1
  have gs2 : K.2.2.1 2 = (4, 6) := gs.2.2.1
  have gs3 : R 1 1 = some 3 := gs.2.2.2.1
  have gs4 : zL K R 3 := gs.2.2.2.2.1
  have gW : ∀ s, s < 6 → zW K R (7 + 4 * s) := fun s hs => (gs.2.2.2.2.2.2 s hs).2
  have gR : ∀ s, s < 6 → R 2 s = some (7 + 4 * s) := fun s hs => (gs.2.2.2.2.2.2 s hs).1
  have gh0 := gh.1
  have gsl : K.2.2.1 3 = (1, 2) := gs4.1
  obtain ⟨m0, m1, m2, m3, m4, m5, m6, m7, m8, m9, m10, m11, m12, m13, m14⟩ := id gm
  have gT := zG_tu (n := n) g
  have gmt : zM K (RTu R n) := gT.1
  have gst : zS K (RTu R n) 1 := gT.2.1
  have gt1 : RTu R n 1 0 = some 2 := gst.2.1
  have gt3 : RTu R n 1 1 = some 3 := gst.2.2.2.1
  have gt4 : zL K (RTu R n) 3 := gst.2.2.2.2.1
  have gWt : ∀ s, s < 6 → zW K (RTu R n) (7 + 4 * s) := fun s hs => (gst.2.2.2.2.2.2 s hs).2
  have gRt : ∀ s, s < 6 → RTu R n 2 s = some (7 + 4 * s) := fun s hs => (gst.2.2.2.2.2.2 s hs).1
  obtain ⟨-, m1t, -⟩ := id gmt
  obtain ⟨-, a1t, a2t, a3t, a4t, a5t, a6t, a7t, a8t⟩ := gT.2.2.2.2.2.2.2.1
  intro hw ht1 htx
  obtain ⟨e2, e3, e4, e5, e6, e7, e8, e9, e10, ln, l1, l2, l3, l4⟩ := id hv.2
  have zwt := gWt s hs
  have zw0 : K.2.2.1 (7 + 4 * s) = (1, 6) := zwt.1
  obtain ⟨b0', b1', b2'⟩ := gT.2.2.2.2.2.2.2.2.1
  obtain ⟨-, a1t, a2t, a3t, a4t, a5t, a6t, a7t, a8t⟩ := gT.2.2.2.2.2.2.2.1
  obtain ⟨tr, htr⟩ : ∃ tr : Nat → Int32, ∀ i, tr i = nI (T (q + i) - 97) := ⟨_, fun _ => rfl⟩
  have htr8 : ∀ i, i < c → ∃ y, y < 8 ∧ tr i = nI y := fun i hi => ⟨T (q + i) - 97, by have := hTc i hi; omega, htr i⟩
  obtain ⟨H, hH0⟩ : ∃ H, hRm I (qTu f n) n = H := ⟨_, rfl⟩
  have HO : ∀ x, x < 31 → H x = I x := fun x hx => by rw [← hH0]; exact hRm_l hx
  have HU : ∀ x, 183 ≤ x → H x = I x := fun x hx => by rw [← hH0]; exact hRm_w (by omega) (by omega)
  have hB5 : wBg H (7 + 4 * s) (7 + 4 * s) 5 = 0 := by
    unfold wBg
    simp (disch := omega) only [s_ne, s_eq]
  have tcW : ∀ k, tC K (RTu R n) (wWr (wBg H (7 + 4 * s)) (7 + 4 * s) tr k) t T := fun k => by
    refine ⟨b0', b1', b2', ?_, fun j hj => ?_⟩
    · rw [wWr_o (by omega), wBg_o (by omega), HU _ (by omega)]; exact ht1
    · rw [wWr_o (by omega), wBg_o (by omega), HU _ (by omega)]; exact (htx j hj).1
  have hbg : ∀ {Q : Option Value → mH → Prop}, EvM 42 [.ref (7 + 4 * s)] (K, RTu R n, H) Q ↔ Q none (K, RTu R n, wBg H (7 + 4 * s)) := fun {Q} => m_begin zwt
  -- the letters
  have loop : ∀ Q0 : Option Value → mH → Prop, Ev 69 (mB 69 90) [.ref 0, .int (nI s), .int (nI q), .int (nI t), .ref (7 + 4 * s), .int (nI t)] [] (K, RTu R n, wWr (wBg H (7 + 4 * s)) (7 + 4 * s) tr c) Q0 → Ev 69 (mB 69 61) [.ref 0, .int (nI s), .int (nI q), .int (nI t), .ref (7 + 4 * s), .int (nI q)] [] (K, RTu R n, wBg H (7 + 4 * s)) Q0 := by
    intro Q0 hfin
    have key := loop_dn (n := c) (P := fun k => Ev 69 (mB 69 61) [.ref 0, .int (nI s), .int (nI q), .int (nI t), .ref (7 + 4 * s), .int (nI (q + k))] [] (K, RTu R n, wWr (wBg H (7 + 4 * s)) (7 + 4 * s) tr k) Q0) ?_ ?_
    · rw [wWr_0 hB5] at key
      exact key
    · intro k hk hnext
      have hTk := hTc k hk
      have hle : ¬ t ≤ q + k := by omega
      rw [B_69_61]
      simp (disch := omega) only [e_iconst, e_bipush, e_sipush, e_istore_n, e_istore, e_astore_n, e_astore, e_iadd, e_isub, e_imul, e_iand, e_ishr, e_idiv, e_i2c, e_dup_i, e_dup_r, e_dup2, e_pop, e_goto, e_nop, e_if_eq, e_if_ne, e_if_lt, e_if_ge, e_if_gt, e_if_le, e_icmp_eq, e_icmp_ne, e_icmp_lt, e_icmp_ge, e_icmp_gt, e_icmp_le, e_tsw, e_ret0, e_ret1, e_retn, e_getI, e_getZ, e_getV, e_getC, e_putI, e_putZ, e_putF, e_gst0, e_gst1, e_sld, e_iald, e_cald, e_bald, e_iast, e_cast, e_aald, e_aast, e_alen, e_slen, e_blen, e_newa, e_newq, e_new, e_oinit, e_ctor, e_virt, e_stat, e_min, e_copy, e_ldc, f_al0, f_il0, f_ii0, f_al1, f_il1, f_ii1, f_al2, f_il2, f_ii2, f_al3, f_il3, f_ii3, f_al4, f_il4, f_ii4, f_al5, f_il5, f_ii5, f_al6, f_il6, f_ii6, f_al7, f_il7, f_ii7, f_al8, f_il8, f_ii8, f_al9, f_il9, f_ii9, f_getR, List.cons_append, List.nil_append, List.append_nil, List.length_cons, List.length_nil, List.replicate_succ, List.replicate_zero, List.getElem?_cons_zero, List.getElem?_cons_succ, List.set_cons_zero, List.set_cons_succ, List.take_succ_cons, List.take_zero, List.drop_succ_cons, List.drop_zero, List.reverse_cons, List.reverse_nil, Option.toList_some, Option.toList_none, Nat.reduceSub, Nat.reduceAdd, Nat.reduceLeDiff, true_and, and_true, and_self, Option.some.injEq, exists_eq_left', Nat.zero_add, Value.int.injEq, Value.ref.injEq, List.cons.injEq, exists_and_left, and_assoc, exists_eq_left, bk_69_61, n_le, hle, a0, a4t, b0', zw0, true_or, or_true, C_33, C_43, c_codeI (tcW k) ht (show q + k < t by omega), o_sub_l, m_write zwt wWr_5 (show k < 30 by omega), ← htr, wWr_s, o_add_l, not_true_eq_false, not_false_eq_true, or_true, true_or, or_false, false_or, false_and, and_false, Nat.reduceEqDiff, Nat.reduceLT, Nat.reduceMul, Nat.not_lt_zero, Nat.zero_le, Nat.le_refl, ne_eq, ↓reduceIte, reduceCtorEq]
      exact hnext
    · rw [hqt, B_69_61]
      simp (disch := omega) only [e_iconst, e_bipush, e_sipush, e_istore_n, e_istore, e_astore_n, e_astore, e_iadd, e_isub, e_imul, e_iand, e_ishr, e_idiv, e_i2c, e_dup_i, e_dup_r, e_dup2, e_pop, e_goto, e_nop, e_if_eq, e_if_ne, e_if_lt, e_if_ge, e_if_gt, e_if_le, e_icmp_eq, e_icmp_ne, e_icmp_lt, e_icmp_ge, e_icmp_gt, e_icmp_le, e_tsw, e_ret0, e_ret1, e_retn, e_getI, e_getZ, e_getV, e_getC, e_putI, e_putZ, e_putF, e_gst0, e_gst1, e_sld, e_iald, e_cald, e_bald, e_iast, e_cast, e_aald, e_aast, e_alen, e_slen, e_blen, e_newa, e_newq, e_new, e_oinit, e_ctor, e_virt, e_stat, e_min, e_copy, e_ldc, f_al0, f_il0, f_ii0, f_al1, f_il1, f_ii1, f_al2, f_il2, f_ii2, f_al3, f_il3, f_ii3, f_al4, f_il4, f_ii4, f_al5, f_il5, f_ii5, f_al6, f_il6, f_ii6, f_al7, f_il7, f_ii7, f_al8, f_il8, f_ii8, f_al9, f_il9, f_ii9, f_getR, List.cons_append, List.nil_append, List.append_nil, List.length_cons, List.length_nil, List.replicate_succ, List.replicate_zero, List.getElem?_cons_zero, List.getElem?_cons_succ, List.set_cons_zero, List.set_cons_succ, List.take_succ_cons, List.take_zero, List.drop_succ_cons, List.drop_zero, List.reverse_cons, List.reverse_nil, Option.toList_some, Option.toList_none, Nat.reduceSub, Nat.reduceAdd, Nat.reduceLeDiff, true_and, and_true, and_self, Option.some.injEq, exists_eq_left', Nat.zero_add, Value.int.injEq, Value.ref.injEq, List.cons.injEq, exists_and_left, and_assoc, exists_eq_left, bk_69_61, n_le, Nat.le_refl, not_true_eq_false, not_false_eq_true, or_true, true_or, or_false, false_or, false_and, and_false, Nat.reduceEqDiff, Nat.reduceLT, Nat.reduceMul, Nat.not_lt_zero, Nat.zero_le, Nat.le_refl, ne_eq, ↓reduceIte, reduceCtorEq]
      exact hfin
  have hpe : ∀ {Q : Option Value → mH → Prop}, EvM 44 [.ref (7 + 4 * s)] (K, RTu R n, wWr (wBg H (7 + 4 * s)) (7 + 4 * s) tr c) Q ↔ Q none (K, RTu R n, wWn H (7 + 4 * s) tr c) := fun {Q} => m_putEnd zwt wWr_5 hc
  have pf := wWn_f (I := H) (a := 7 + 4 * s) (c := c) (tr := tr)
  have pg : ∀ j, j < c + 2 → wWn H (7 + 4 * s) tr c (7 + 4 * s + 1) j = nomQ tr c j ∧ wWn H (7 + 4 * s) tr c (7 + 4 * s + 2) j = nomQ tr c j := fun j hj => ⟨wWn_g (Or.inl rfl) hj, wWn_g (Or.inr rfl) hj⟩
  have pt := wWn_t (I := H) (a := 7 + 4 * s) (c := c) (tr := tr)
  have pO : ∀ x j, x < 7 + 4 * s ∨ 7 + 4 * s + 3 < x → wWn H (7 + 4 * s) tr c x j = H x j := fun x j hx => wWn_o hx
  generalize hP0 : wWn H (7 + 4 * s) tr c = P at hpe pf pg pt pO
  obtain ⟨p3, p4, p5, p6⟩ := pf
  obtain ⟨pt0, pt1, pt2⟩ := pt
  have wfP : wF P (7 + 4 * s) 1 1 c := ⟨p3, p4, p5, by omega, by omega, hc⟩
  have hsm : sm (P (7 + 4 * s + 2)) (ngp 1 1 c) = sm (nomQ tr c) (c + 2) := sm_cg _ (fun j hj => (pg j hj).2)
  have p15 : P 1 5 = I 195 591 := by rw [pO _ _ (by omega), HO _ (by omega)]; exact e5
  have p33 : P 3 3 = nI ln := by rw [pO _ _ (by omega), HO _ (by omega)]; exact l2
  have pOl : ∀ x j, x < 31 → x < 7 + 4 * s ∨ 7 + 4 * s + 3 < x → P x j = I x j := fun x j h h2 => by rw [pO _ _ h2, HO _ h]
  refine ⟨RTu R n, lAd (mSet P 1 5 (I 195 591 + sm (nomQ tr c) (c + 2))) 3 ln 0 (nI s) (nI c), ?_, ⟨gmt, fun x hx => by funext j; simp (disch := omega) only [lAd_o, s_ne, pO, HU]⟩, fun J hJ j12 j13 => ?_⟩
  · rw [B_69_42]
    have hrm := fun Q => a_remember (Q := Q) g hv hn hn2
    rw [hH0] at hrm
    simp (disch := omega) only [e_iconst, e_bipush, e_sipush, e_istore_n, e_istore, e_astore_n, e_astore, e_iadd, e_isub, e_imul, e_iand, e_ishr, e_idiv, e_i2c, e_dup_i, e_dup_r, e_dup2, e_pop, e_goto, e_nop, e_if_eq, e_if_ne, e_if_lt, e_if_ge, e_if_gt, e_if_le, e_icmp_eq, e_icmp_ne, e_icmp_lt, e_icmp_ge, e_icmp_gt, e_icmp_le, e_tsw, e_ret0, e_ret1, e_retn, e_getI, e_getZ, e_getV, e_getC, e_putI, e_putZ, e_putF, e_gst0, e_gst1, e_sld, e_iald, e_cald, e_bald, e_iast, e_cast, e_aald, e_aast, e_alen, e_slen, e_blen, e_newa, e_newq, e_new, e_oinit, e_ctor, e_virt, e_stat, e_min, e_copy, e_ldc, f_al0, f_il0, f_ii0, f_al1, f_il1, f_ii1, f_al2, f_il2, f_ii2, f_al3, f_il3, f_ii3, f_al4, f_il4, f_ii4, f_al5, f_il5, f_ii5, f_al6, f_il6, f_ii6, f_al7, f_il7, f_ii7, f_al8, f_il8, f_ii8, f_al9, f_il9, f_ii9, f_getR, List.cons_append, List.nil_append, List.append_nil, List.length_cons, List.length_nil, List.replicate_succ, List.replicate_zero, List.getElem?_cons_zero, List.getElem?_cons_succ, List.set_cons_zero, List.set_cons_succ, List.take_succ_cons, List.take_zero, List.drop_succ_cons, List.drop_zero, List.reverse_cons, List.reverse_nil, Option.toList_some, Option.toList_none, Nat.reduceSub, Nat.reduceAdd, Nat.reduceLeDiff, true_and, and_true, and_self, Option.some.injEq, exists_eq_left', Nat.zero_add, Value.int.injEq, Value.ref.injEq, List.cons.injEq, exists_and_left, and_assoc, exists_eq_left, bk_69_42, a0, a1, a2, gs0, gh0, zw0, true_or, or_true, C_9, C_42, hrm, hbg, not_true_eq_false, not_false_eq_true, or_true, true_or, or_false, false_or, false_and, and_false, Nat.reduceEqDiff, Nat.reduceLT, Nat.reduceMul, Nat.not_lt_zero, Nat.zero_le, Nat.le_refl, ne_eq, ↓reduceIte, reduceCtorEq]
    refine loop _ ?_
    rw [B_69_90]
    simp (disch := omega) only [e_iconst, e_bipush, e_sipush, e_istore_n, e_istore, e_astore_n, e_astore, e_iadd, e_isub, e_imul, e_iand, e_ishr, e_idiv, e_i2c, e_dup_i, e_dup_r, e_dup2, e_pop, e_goto, e_nop, e_if_eq, e_if_ne, e_if_lt, e_if_ge, e_if_gt, e_if_le, e_icmp_eq, e_icmp_ne, e_icmp_lt, e_icmp_ge, e_icmp_gt, e_icmp_le, e_tsw, e_ret0, e_ret1, e_retn, e_getI, e_getZ, e_getV, e_getC, e_putI, e_putZ, e_putF, e_gst0, e_gst1, e_sld, e_iald, e_cald, e_bald, e_iast, e_cast, e_aald, e_aast, e_alen, e_slen, e_blen, e_newa, e_newq, e_new, e_oinit, e_ctor, e_virt, e_stat, e_min, e_copy, e_ldc, f_al0, f_il0, f_ii0, f_al1, f_il1, f_ii1, f_al2, f_il2, f_ii2, f_al3, f_il3, f_ii3, f_al4, f_il4, f_ii4, f_al5, f_il5, f_ii5, f_al6, f_il6, f_ii6, f_al7, f_il7, f_ii7, f_al8, f_il8, f_ii8, f_al9, f_il9, f_ii9, f_getR, List.cons_append, List.nil_append, List.append_nil, List.length_cons, List.length_nil, List.replicate_succ, List.replicate_zero, List.getElem?_cons_zero, List.getElem?_cons_succ, List.set_cons_zero, List.set_cons_succ, List.take_succ_cons, List.take_zero, List.drop_succ_cons, List.drop_zero, List.reverse_cons, List.reverse_nil, Option.toList_some, Option.toList_none, Nat.reduceSub, Nat.reduceAdd, Nat.reduceLeDiff, true_and, and_true, and_self, Option.some.injEq, exists_eq_left', Nat.zero_add, Value.int.injEq, Value.ref.injEq, List.cons.injEq, exists_and_left, and_assoc, exists_eq_left, bk_69_90, a0, a1t, gs0, zw0, gt3, gsl, true_or, or_true, C_44, C_54, C_14, hpe, m_sumOfNominals zwt wfP, hsm, p15, s_ne, p5, not_true_eq_false, not_false_eq_true, or_true, true_or, or_false, false_or, false_and, and_false, Nat.reduceEqDiff, Nat.reduceLT, Nat.reduceMul, Nat.not_lt_zero, Nat.zero_le, Nat.le_refl, ne_eq, ↓reduceIte, reduceCtorEq]
    rw [m_logAdd gt4 (n := ln) ?_ l1]
    · simp (disch := omega) only [e_iconst, e_bipush, e_sipush, e_istore_n, e_istore, e_astore_n, e_astore, e_iadd, e_isub, e_imul, e_iand, e_ishr, e_idiv, e_i2c, e_dup_i, e_dup_r, e_dup2, e_pop, e_goto, e_nop, e_if_eq, e_if_ne, e_if_lt, e_if_ge, e_if_gt, e_if_le, e_icmp_eq, e_icmp_ne, e_icmp_lt, e_icmp_ge, e_icmp_gt, e_icmp_le, e_tsw, e_ret0, e_ret1, e_retn, e_getI, e_getZ, e_getV, e_getC, e_putI, e_putZ, e_putF, e_gst0, e_gst1, e_sld, e_iald, e_cald, e_bald, e_iast, e_cast, e_aald, e_aast, e_alen, e_slen, e_blen, e_newa, e_newq, e_new, e_oinit, e_ctor, e_virt, e_stat, e_min, e_copy, e_ldc, f_al0, f_il0, f_ii0, f_al1, f_il1, f_ii1, f_al2, f_il2, f_ii2, f_al3, f_il3, f_ii3, f_al4, f_il4, f_ii4, f_al5, f_il5, f_ii5, f_al6, f_il6, f_ii6, f_al7, f_il7, f_ii7, f_al8, f_il8, f_ii8, f_al9, f_il9, f_ii9, f_getR, List.cons_append, List.nil_append, List.append_nil, List.length_cons, List.length_nil, List.replicate_succ, List.replicate_zero, List.getElem?_cons_zero, List.getElem?_cons_succ, List.set_cons_zero, List.set_cons_succ, List.take_succ_cons, List.take_zero, List.drop_succ_cons, List.drop_zero, List.reverse_cons, List.reverse_nil, Option.toList_some, Option.toList_none, Nat.reduceSub, Nat.reduceAdd, Nat.reduceLeDiff, true_and, and_true, and_self, Option.some.injEq, exists_eq_left', Nat.zero_add, Value.int.injEq, Value.ref.injEq, List.cons.injEq, exists_and_left, and_assoc, exists_eq_left, zw0, lAd_o, s_ne, p5, not_true_eq_false, not_false_eq_true, or_true, true_or, or_false, false_or, false_and, and_false, Nat.reduceEqDiff, Nat.reduceLT, Nat.reduceMul, Nat.not_lt_zero, Nat.zero_le, Nat.le_refl, ne_eq, ↓reduceIte, reduceCtorEq]
    · simp (disch := omega) only [s_ne]; exact p33
  · have j5 : J 195 = I 195 := by rw [SCR_row hJ (by omega)]; funext j; simp (disch := omega) only [lAd_o, s_ne, pO, HU]
    have j20 : J 200 = I 200 := by rw [SCR_row hJ (by omega)]; funext j; simp (disch := omega) only [lAd_o, s_ne, pO, HU]
    have j2 : J 194 2 = nI n := by rw [SCR_m hJ (by omega)]; simp (disch := omega) only [lAd_o, s_ne, pO, HU]; exact hk
    have jr : rRec J n 195 = I 195 := by rw [rRec_o (by omega)]; exact j5
    have r12 : rRec J n 194 12 = nI s := by rw [rRec_4 (by omega)]; exact j12
    have r13 : rRec J n 194 13 = nI q := by rw [rRec_4 (by omega)]; exact j13
    rw [B_121_45]
    simp (disch := omega) only [e_iconst, e_bipush, e_sipush, e_istore_n, e_istore, e_astore_n, e_astore, e_iadd, e_isub, e_imul, e_iand, e_ishr, e_idiv, e_i2c, e_dup_i, e_dup_r, e_dup2, e_pop, e_goto, e_nop, e_if_eq, e_if_ne, e_if_lt, e_if_ge, e_if_gt, e_if_le, e_icmp_eq, e_icmp_ne, e_icmp_lt, e_icmp_ge, e_icmp_gt, e_icmp_le, e_tsw, e_ret0, e_ret1, e_retn, e_getI, e_getZ, e_getV, e_getC, e_putI, e_putZ, e_putF, e_gst0, e_gst1, e_sld, e_iald, e_cald, e_bald, e_iast, e_cast, e_aald, e_aast, e_alen, e_slen, e_blen, e_newa, e_newq, e_new, e_oinit, e_ctor, e_virt, e_stat, e_min, e_copy, e_ldc, f_al0, f_il0, f_ii0, f_al1, f_il1, f_ii1, f_al2, f_il2, f_ii2, f_al3, f_il3, f_ii3, f_al4, f_il4, f_ii4, f_al5, f_il5, f_ii5, f_al6, f_il6, f_ii6, f_al7, f_il7, f_ii7, f_al8, f_il8, f_ii8, f_al9, f_il9, f_ii9, f_getR, List.cons_append, List.nil_append, List.append_nil, List.length_cons, List.length_nil, List.replicate_succ, List.replicate_zero, List.getElem?_cons_zero, List.getElem?_cons_succ, List.set_cons_zero, List.set_cons_succ, List.take_succ_cons, List.take_zero, List.drop_succ_cons, List.drop_zero, List.reverse_cons, List.reverse_nil, Option.toList_some, Option.toList_none, Nat.reduceSub, Nat.reduceAdd, Nat.reduceLeDiff, true_and, and_true, and_self, Option.some.injEq, exists_eq_left', Nat.zero_add, Value.int.injEq, Value.ref.injEq, List.cons.injEq, exists_and_left, and_assoc, exists_eq_left, bk_121_45, m0, C_95, C_99, r_record gmt j2 hn2, r12, r_punches0 gmt hs, jr, not_true_eq_false, not_false_eq_true, or_true, true_or, or_false, false_or, false_and, and_false, Nat.reduceEqDiff, Nat.reduceLT, Nat.reduceMul, Nat.not_lt_zero, Nat.zero_le, Nat.le_refl, ne_eq, ↓reduceIte, reduceCtorEq]
    have r1 := vPn_1 (v := I 195) (s := s) (nom := nomQ tr c) hs
    rw [nomQ_0] at r1
    rw [r1]
    have main := r_wri (J := rRec J n) (s := s) (c := c) (q := q) (t := t) (ln := ln) (tr := tr) (T := T) (Q := OPo K (nI c)) gmt hs hc hqt ht r12 r13 (fun k hk => by rw [rRec_o (by omega), j20]; exact (htx k hk).2) (fun i hi => ⟨(hTc i hi).1, htr i, hT2 _ (by omega)⟩) (by rw [jr]; exact l3) l1 ?_
    · rw [jr] at main
      exact main
    · rw [jr]
      refine OPo_act (I2 := lAd (mSet P 1 5 (I 195 591 + sm (nomQ tr c) (c + 2))) 3 ln 0 (nI s) (nI c)) g hv hn2 hH hP hT (fun x x1 x2 => by rw [hH0]; funext j; simp (disch := omega) only [lAd_o, s_ne, pO]) (by funext j; simp (disch := omega) only [lAd_o, s_ne, pO, HO]) (fun x hx => by funext j; simp (disch := omega) only [lAd_o, s_ne, pO, HU]) ?_ hJ
      refine RC_upd (fun z => z = s) hv (fun z _ hz => ?_) (fun z hz1 hz2 => ⟨fun d hd => ?_, fun x x1 x2 => ?_⟩) ?_
      · subst hz
        refine ⟨1, 1, c, ⟨?_, ?_, ?_, by omega, by omega, hc⟩, ⟨?_, ?_, ?_, by omega, by omega, hc⟩, fun q => absurd q (by omega), fun _ => ?_, fun _ => ?_, fun k hk => ?_, fun i hi => ?_, fun e => ?_⟩
        · simp (disch := omega) only [lAd_o, s_ne]; exact p3
        · simp (disch := omega) only [lAd_o, s_ne]; exact p4
        · simp (disch := omega) only [lAd_o, s_ne]; exact p5
        · simp (disch := omega) only [vTl_o, u_ne, u_eq]; rfl
        · simp (disch := omega) only [vTl_o, u_ne, u_eq]; rfl
        · simp (disch := omega) only [vTl_o, u_ne, u_eq]
        · simp (disch := omega) only [lAd_o, s_ne, vTl_o, u_eq]; exact p6
        · simp (disch := omega) only [lAd_o, s_ne]; exact pt0
        · have hk2 : k < c + 2 := hk
          simp (disch := omega) only [lAd_o, s_ne, vTl_o, u_ne, vTw_o, vPn_l, vPn_n]
          exact ⟨(pg k hk2).1, (pg k hk2).2, nomQ_ok htr8⟩
        · simp (disch := omega) only [lAd_o, s_ne, vTl_o, u_ne, vTw_i, pt1]
          exact ⟨trivial, htr8 i hi⟩
        · simp (disch := omega) only [lAd_o, s_ne]; exact pt2
      · funext j; simp (disch := omega) only [lAd_o, s_ne, pOl]
      · simp (disch := omega) only [vTl_o, u_ne, vTw_o, vPn_o]
      · refine rE_mk ?_ ?_ ?_ ?_ ?_ ?_ ?_ ?_ ?_ (rL_add l1 ?_ ?_ (fun e he => ?_)) <;> simp (disch := omega) only [lAd_o, s_ne, s_eq, pOl, vTl_o, u_ne, u_eq, vTw_o, vPn_o, vPn_u, e2, e3, e4, e5, e6, e7, e8]
        · exact e9
        · exact e10
        · exact l2
        · exact l3
        · exact l4 e he
