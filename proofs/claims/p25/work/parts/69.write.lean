/-! write: a wire from the text's letters -/
/-- the class's cells when k letters are written -/
def wWr (B : Nat → Nat → Int32) (a : Nat) (tr : Nat → Int32) (k : Nat) : Nat → Nat → Int32 := fun x j =>
  if x = a ∧ j = 5 then nI k else if (x = a + 1 ∨ x = a + 2) ∧ 1 ≤ j ∧ j < k + 1 then 2000 + 1000 * tr (j - 1) else if x = a + 3 ∧ 1 ≤ j ∧ j < k + 1 then tr (j - 1) else B x j
theorem wWr_o {B : Nat → Nat → Int32} {a k x j : Nat} {tr : Nat → Int32} (h : x < a ∨ a + 3 < x ∨ (x = a ∧ j ≠ 5) ∨ j = 0 ∧ x ≠ a ∨ k + 1 ≤ j ∧ x ≠ a) : wWr B a tr k x j = B x j := by
  unfold wWr
  rw [if_neg (by omega), if_neg (by omega), if_neg (by omega)]
theorem wWr_5 {B : Nat → Nat → Int32} {a k : Nat} {tr : Nat → Int32} : wWr B a tr k a 5 = nI k := if_pos ⟨rfl, rfl⟩
theorem wWr_g {B : Nat → Nat → Int32} {a k x i : Nat} {tr : Nat → Int32} (h : x = a + 1 ∨ x = a + 2) (hi : i < k) : wWr B a tr k x (i + 1) = 2000 + 1000 * tr i := by
  unfold wWr
  rw [if_neg (by omega), if_pos ⟨h, by omega, by omega⟩, show i + 1 - 1 = i by omega]
theorem wWr_t {B : Nat → Nat → Int32} {a k i : Nat} {tr : Nat → Int32} (hi : i < k) : wWr B a tr k (a + 3) (i + 1) = tr i := by
  unfold wWr
  rw [if_neg (by omega), if_neg (by omega), if_pos ⟨rfl, by omega, by omega⟩, show i + 1 - 1 = i by omega]
theorem wWr_s {B : Nat → Nat → Int32} {a k : Nat} {tr : Nat → Int32} : mSet (mSet (mSet (mSet (wWr B a tr k) a 5 (nI (k + 1))) (a + 1) (k + 1) (2000 + 1000 * tr k)) (a + 2) (k + 1) (2000 + 1000 * tr k)) (a + 3) (k + 1) (tr k) = wWr B a tr (k + 1) := by
  funext x j
  by_cases c1 : x = a + 3 ∧ j = k + 1
  · obtain ⟨rfl, rfl⟩ := c1
    rw [s_eq, wWr_t (by omega)]
  · rw [s_ne c1]
    by_cases c2 : x = a + 2 ∧ j = k + 1
    · obtain ⟨rfl, rfl⟩ := c2
      rw [s_eq, wWr_g (Or.inr rfl) (by omega)]
    · rw [s_ne c2]
      by_cases c3 : x = a + 1 ∧ j = k + 1
      · obtain ⟨rfl, rfl⟩ := c3
        rw [s_eq, wWr_g (Or.inl rfl) (by omega)]
      · rw [s_ne c3]
        by_cases c4 : x = a ∧ j = 5
        · obtain ⟨rfl, rfl⟩ := c4
          rw [s_eq, wWr_5]
        · rw [s_ne c4]
          unfold wWr
          rw [if_neg c4, if_neg c4]
          by_cases c5 : (x = a + 1 ∨ x = a + 2) ∧ 1 ≤ j ∧ j < k + 1
          · rw [if_pos c5, if_pos (by omega)]
          · rw [if_neg c5, if_neg (show ¬ ((x = a + 1 ∨ x = a + 2) ∧ 1 ≤ j ∧ j < k + 1 + 1) by omega)]
            by_cases c6 : x = a + 3 ∧ 1 ≤ j ∧ j < k + 1
            · rw [if_pos c6, if_pos (by omega)]
            · rw [if_neg c6, if_neg (show ¬ (x = a + 3 ∧ 1 ≤ j ∧ j < k + 1 + 1) by omega)]
theorem wWr_0 {B : Nat → Nat → Int32} {a : Nat} {tr : Nat → Int32} (h : B a 5 = 0) : wWr B a tr 0 = B := by
  funext x j
  by_cases c : x = a ∧ j = 5
  · obtain ⟨rfl, rfl⟩ := c
    rw [wWr_5, h]; rfl
  · unfold wWr
    rw [if_neg c, if_neg (by omega), if_neg (by omega)]
/-- the row with k letters' truths written -/
def vTw (v : Nat → Int32) (s : Nat) (tr : Nat → Int32) (k : Nat) : Nat → Int32 := fun x => if 98 * s + 68 ≤ x ∧ x < 98 * s + 68 + k then tr (x - (98 * s + 68)) else v x
theorem vTw_o {v tr : Nat → Int32} {s k x : Nat} (h : ¬ (98 * s + 68 ≤ x ∧ x < 98 * s + 68 + k)) : vTw v s tr k x = v x := if_neg h
theorem vTw_i {v tr : Nat → Int32} {s k i : Nat} (h : i < k) : vTw v s tr k (98 * s + (68 + i)) = tr i := by
  unfold vTw
  rw [if_pos (by omega), show 98 * s + (68 + i) - (98 * s + 68) = i by omega]
theorem vTw_0 {v tr : Nat → Int32} {s : Nat} : vTw v s tr 0 = v := by funext x; exact vTw_o (by omega)
theorem vTw_u {v tr : Nat → Int32} {s k p : Nat} {x : Int32} (h : ¬ (98 * s + 68 ≤ p ∧ p < 98 * s + 68 + k)) : vU (vTw v s tr k) p x = vTw (vU v p x) s tr k := by
  funext y
  by_cases c : y = p
  · subst c; rw [u_eq, vTw_o h, u_eq]
  · rw [u_ne c]
    unfold vTw
    by_cases c2 : 98 * s + 68 ≤ y ∧ y < 98 * s + 68 + k
    · rw [if_pos c2, if_pos c2]
    · rw [if_neg c2, if_neg c2, u_ne c]
theorem vTw_s {v tr : Nat → Int32} {s k : Nat} : vU (vTw v s tr k) (98 * s + (68 + k)) (tr k) = vTw v s tr (k + 1) := by
  funext y
  by_cases c : y = 98 * s + (68 + k)
  · subst c; rw [u_eq, vTw_i (by omega)]
  · rw [u_ne c]
    unfold vTw
    by_cases c2 : 98 * s + 68 ≤ y ∧ y < 98 * s + 68 + k
    · rw [if_pos c2, if_pos (by omega)]
    · rw [if_neg c2, if_neg (by omega)]
theorem vPn_1 {v nom : Nat → Int32} {s : Nat} (hs : s < 6) : vU (vU (vU v (98 * s + 4) (nom 0)) (98 * s + 36) (nom 0)) 591 (v 591 + nom 0) = vPn v s nom 1 := by
  have r1 := vPn_s (v := v) (s := s) (nom := nom) (m := 0) hs (by omega)
  rw [vPn_0 hs] at r1
  exact r1
/-! write: the act -/
/-- the class's wire, begun -/
def wBg (I : Nat → Nat → Int32) (a : Nat) : Nat → Nat → Int32 := mSet (mSet (mSet (mSet (mSet (mSet (mSet (mSet I a 3 0) a 4 0) a 5 0) a 6 0) a 3 1) (a + 1) 0 5000) (a + 2) 0 5000) (a + 3) 0 (-1)
theorem wBg_o {I : Nat → Nat → Int32} {a x j : Nat} (h : x < a ∨ a + 3 < x) : wBg I a x j = I x j := by
  unfold wBg
  simp (disch := omega) only [s_ne]
/-- and written -/
def wWn (I : Nat → Nat → Int32) (a : Nat) (tr : Nat → Int32) (c : Nat) : Nat → Nat → Int32 := mSet (mSet (mSet (mSet (wWr (wBg I a) a tr c) a 4 1) (a + 1) (c + 1) 5000) (a + 2) (c + 1) 5000) (a + 3) (c + 1) (-1)
theorem wWn_o {I : Nat → Nat → Int32} {a c x j : Nat} {tr : Nat → Int32} (h : x < a ∨ a + 3 < x) : wWn I a tr c x j = I x j := by
  unfold wWn
  simp (disch := omega) only [s_ne, wWr_o, wBg_o]
theorem wWn_f {I : Nat → Nat → Int32} {a c : Nat} {tr : Nat → Int32} : wWn I a tr c a 3 = 1 ∧ wWn I a tr c a 4 = 1 ∧ wWn I a tr c a 5 = nI c ∧ wWn I a tr c a 6 = 0 := by
  unfold wWn
  refine ⟨?_, ?_, ?_, ?_⟩
  · simp (disch := omega) only [s_ne, wWr_o]
    unfold wBg
    simp (disch := omega) only [s_ne, s_eq]
  · simp (disch := omega) only [s_ne, s_eq]
  · simp (disch := omega) only [s_ne, wWr_5]
  · simp (disch := omega) only [s_ne, wWr_o]
    unfold wBg
    simp (disch := omega) only [s_ne, s_eq]
theorem wWn_g {I : Nat → Nat → Int32} {a c x j : Nat} {tr : Nat → Int32} (hx : x = a + 1 ∨ x = a + 2) (hj : j < c + 2) : wWn I a tr c x j = nomQ tr c j := by
  unfold wWn
  rcases (show j = 0 ∨ (1 ≤ j ∧ j ≤ c) ∨ j = c + 1 by omega) with e | e | e
  · subst e
    rw [nomQ_0]
    rcases hx with rfl | rfl
    · simp (disch := omega) only [s_ne, wWr_o]
      unfold wBg
      simp (disch := omega) only [s_ne, s_eq]
    · simp (disch := omega) only [s_ne, wWr_o]
      unfold wBg
      simp (disch := omega) only [s_ne, s_eq]
  · obtain ⟨i, rfl⟩ : ∃ i, j = i + 1 := ⟨j - 1, by omega⟩
    rw [nomQ_i (by omega)]
    rw [s_ne (by omega), s_ne (by omega), s_ne (by omega), s_ne (by omega), wWr_g hx (by omega)]
  · subst e
    rw [nomQ_e]
    rcases hx with rfl | rfl <;> simp (disch := omega) only [s_ne, s_eq]
theorem wWn_t {I : Nat → Nat → Int32} {a c : Nat} {tr : Nat → Int32} : wWn I a tr c (a + 3) 0 = -1 ∧ (∀ i, i < c → wWn I a tr c (a + 3) (i + 1) = tr i) ∧ wWn I a tr c (a + 3) (c + 1) = -1 := by
  unfold wWn
  refine ⟨?_, fun i hi => ?_, s_eq⟩
  · simp (disch := omega) only [s_ne, wWr_o]
    unfold wBg
    exact s_eq
  · rw [s_ne (by omega), s_ne (by omega), s_ne (by omega), s_ne (by omega), wWr_t hi]
/-- the ghost behind the writing of c letters tr -/
def wWrite (v : Nat → Int32) (s c : Nat) (tr : Nat → Int32) : Nat → Int32 := vTl (vU (vU (vU (vU (vTw (vPn v s (nomQ tr c) (c + 2)) s tr c) (98 * s) 1) (98 * s + 1) 1) (98 * s + 2) (nI c)) (98 * s + 3) 0) (gln v) 0 (nI s) (nI c)
set_option maxHeartbeats 8000000 in
theorem write_act {K : mK} {R : Nat → Nat → Option Nat} {I : Nat → Nat → Int32} {v H : Nat → Int32} {T : Nat → Nat} {n t : Nat} {s c q : Nat} (hs : s < 6) (hc : c ≤ 30) (hqt : q + c = t) (hTc : ∀ i, i < c → 97 ≤ T (q + i) ∧ T (q + i) ≤ 104) (hrel : REL K R I v n H t T) (hw : rW I (7 + 4 * s) v s 0 0 0) :
    ∃ R1 I1, Ev 69 (mB 69 42) [.ref 0, .int (nI s), .int (nI q), .int (nI t), .ref (7 + 4 * s), .null] [] (K, R, I) (fun w k => w = some (.int (nI c)) ∧ k = (K, R1, I1)) ∧ REL K R1 I1 (wWrite v s c (fun i => nI (T (q + i) - 97))) (nTu n) (vRec H v n) t T := by
  obtain ⟨f, g, hv, hn2, hn, hH, hP, hT⟩ := id hrel
  have q4 := qTu_lt g hn2
  obtain ⟨gs, -, gh, gw, gr, gr', ⟨a0, a1, a2, a3, a4, a5, a6, a7, a8⟩, ⟨b0, b1, b2⟩, cc0⟩ := id g
  have gs0 : K.2.2.1 1 = (1, 4) := gs.1
  have gs1 : R 1 0 = some 2 := gs.2.1
  have gs2 : K.2.2.1 2 = (4, 6) := gs.2.2.1
  have gs3 : R 1 1 = some 3 := gs.2.2.2.1
  have gs4 : zL K R 3 := gs.2.2.2.2.1
  have gW : ∀ s, s < 6 → zW K R (7 + 4 * s) := fun s hs => (gs.2.2.2.2.2.2 s hs).2
  have gR : ∀ s, s < 6 → R 2 s = some (7 + 4 * s) := fun s hs => (gs.2.2.2.2.2.2 s hs).1
  have gh0 := gh.1
  have gsl : K.2.2.1 3 = (1, 2) := gs4.1
  have gT := zG_tu (n := n) g
  have gst : zS K (RTu R n) 1 := gT.1
  have gt1 : RTu R n 1 0 = some 2 := gst.2.1
  have gt3 : RTu R n 1 1 = some 3 := gst.2.2.2.1
  have gt4 : zL K (RTu R n) 3 := gst.2.2.2.2.1
  have gWt : ∀ s, s < 6 → zW K (RTu R n) (7 + 4 * s) := fun s hs => (gst.2.2.2.2.2.2 s hs).2
  have gRt : ∀ s, s < 6 → RTu R n 2 s = some (7 + 4 * s) := fun s hs => (gst.2.2.2.2.2.2 s hs).1
  obtain ⟨-, a1t, a2t, a3t, a4t, a5t, a6t, a7t, a8t⟩ := gT.2.2.2.2.2.2.1
  obtain ⟨ht, ht1, htx⟩ := id hT
  obtain ⟨e2, e3, e4, e5, e6, e7, e8, e9, e10, ln, l1, l2, l3, l4⟩ := id hv.2
  have gl1 : gln v = ln := by unfold gln; rw [l3]; exact n_cl (by omega)
  have zwt := gWt s hs
  have zw0 : K.2.2.1 (7 + 4 * s) = (1, 6) := zwt.1
  obtain ⟨b0', b1', b2'⟩ := gT.2.2.2.2.2.2.2.1
  obtain ⟨tr, htr0⟩ : ∃ tr : Nat → Int32, (fun i => nI (T (q + i) - 97)) = tr := ⟨_, rfl⟩
  have htr : ∀ i, tr i = nI (T (q + i) - 97) := fun i => by rw [← htr0]
  unfold wWrite
  rw [htr0, gl1]
  have htr8 : ∀ i, i < c → ∃ y, y < 8 ∧ tr i = nI y := fun i hi => ⟨T (q + i) - 97, by have := hTc i hi; omega, htr i⟩
  obtain ⟨H', hH0⟩ : ∃ H', hRm I (qTu f n) n = H' := ⟨_, rfl⟩
  have HO : ∀ x, x < 31 → H' x = I x := fun x hx => by rw [← hH0]; exact hRm_l hx
  have HU : ∀ x, 183 ≤ x → H' x = I x := fun x hx => by rw [← hH0]; exact hRm_w (by omega) (by omega)
  have hB5 : wBg H' (7 + 4 * s) (7 + 4 * s) 5 = 0 := by
    unfold wBg
    simp (disch := omega) only [s_ne, s_eq]
  have tcW : ∀ k, tC K (RTu R n) (wWr (wBg H' (7 + 4 * s)) (7 + 4 * s) tr k) t T := fun k => by
    refine ⟨b0', b1', b2', ?_, fun j hj => ?_⟩
    · rw [wWr_o (by omega), wBg_o (by omega), HU _ (by omega)]; exact ht1
    · rw [wWr_o (by omega), wBg_o (by omega), HU _ (by omega)]; exact (htx j hj).1
  have hbg : ∀ {Q : Option Value → mH → Prop}, EvM 42 [.ref (7 + 4 * s)] (K, RTu R n, H') Q ↔ Q none (K, RTu R n, wBg H' (7 + 4 * s)) := fun {Q} => m_begin zwt
  -- the letters
  have loop : ∀ Q0 : Option Value → mH → Prop, Ev 69 (mB 69 90) [.ref 0, .int (nI s), .int (nI q), .int (nI t), .ref (7 + 4 * s), .int (nI t)] [] (K, RTu R n, wWr (wBg H' (7 + 4 * s)) (7 + 4 * s) tr c) Q0 → Ev 69 (mB 69 61) [.ref 0, .int (nI s), .int (nI q), .int (nI t), .ref (7 + 4 * s), .int (nI q)] [] (K, RTu R n, wBg H' (7 + 4 * s)) Q0 := by
    intro Q0 hfin
    have key := loop_dn (n := c) (P := fun k => Ev 69 (mB 69 61) [.ref 0, .int (nI s), .int (nI q), .int (nI t), .ref (7 + 4 * s), .int (nI (q + k))] [] (K, RTu R n, wWr (wBg H' (7 + 4 * s)) (7 + 4 * s) tr k) Q0) ?_ ?_
    · rw [wWr_0 hB5] at key
      exact key
    · intro k hk hnext
      have hTk := hTc k hk
      have hle : ¬ t ≤ q + k := by omega
      rw [B_69_61]
      simp (disch := omega) only [e_iconst, e_bipush, e_sipush, e_istore_n, e_istore, e_astore_n, e_astore, e_iadd, e_isub, e_imul, e_iand, e_ishr, e_idiv, e_i2c, e_dup_i, e_dup_r, e_dup2, e_pop, e_goto, e_nop, e_if_eq, e_if_ne, e_if_lt, e_if_ge, e_if_gt, e_if_le, e_icmp_eq, e_icmp_ne, e_icmp_lt, e_icmp_ge, e_icmp_gt, e_icmp_le, e_tsw, e_ret0, e_ret1, e_retn, e_getI, e_getZ, e_getV, e_getC, e_putI, e_putZ, e_putF, e_gst0, e_gst1, e_sld, e_iald, e_cald, e_bald, e_iast, e_cast, e_aald, e_aast, e_alen, e_slen, e_blen, e_newa, e_newq, e_new, e_oinit, e_ctor, e_virt, e_stat, e_min, e_copy, e_ldc, f_al0, f_il0, f_ii0, f_al1, f_il1, f_ii1, f_al2, f_il2, f_ii2, f_al3, f_il3, f_ii3, f_al4, f_il4, f_ii4, f_al5, f_il5, f_ii5, f_al6, f_il6, f_ii6, f_al7, f_il7, f_ii7, f_al8, f_il8, f_ii8, f_al9, f_il9, f_ii9, f_getR, List.cons_append, List.nil_append, List.append_nil, List.length_cons, List.length_nil, List.replicate_succ, List.replicate_zero, List.getElem?_cons_zero, List.getElem?_cons_succ, List.set_cons_zero, List.set_cons_succ, List.take_succ_cons, List.take_zero, List.drop_succ_cons, List.drop_zero, List.reverse_cons, List.reverse_nil, Option.toList_some, Option.toList_none, Nat.reduceSub, Nat.reduceAdd, Nat.reduceLeDiff, true_and, and_true, and_self, Option.some.injEq, exists_eq_left', Nat.zero_add, Value.int.injEq, Value.ref.injEq, List.cons.injEq, exists_and_left, and_assoc, exists_eq_left, List.all_cons, List.all_nil, m1_i, m1_r, Bool.and_self, Bool.and_true, bk_69_61, n_le, hle, a0, a4t, b0', zw0, true_or, or_true, C_33, C_43, c_codeI (tcW k) ht (show q + k < t by omega), o_sub_l, m_write zwt wWr_5 (show k < 30 by omega), ← htr, wWr_s, o_add_l, not_true_eq_false, not_false_eq_true, or_true, true_or, or_false, false_or, false_and, and_false, Nat.reduceEqDiff, Nat.reduceLT, Nat.reduceMul, Nat.not_lt_zero, Nat.zero_le, Nat.le_refl, ne_eq, ↓reduceIte, reduceCtorEq]
      exact hnext
    · rw [hqt, B_69_61]
      simp (disch := omega) only [e_iconst, e_bipush, e_sipush, e_istore_n, e_istore, e_astore_n, e_astore, e_iadd, e_isub, e_imul, e_iand, e_ishr, e_idiv, e_i2c, e_dup_i, e_dup_r, e_dup2, e_pop, e_goto, e_nop, e_if_eq, e_if_ne, e_if_lt, e_if_ge, e_if_gt, e_if_le, e_icmp_eq, e_icmp_ne, e_icmp_lt, e_icmp_ge, e_icmp_gt, e_icmp_le, e_tsw, e_ret0, e_ret1, e_retn, e_getI, e_getZ, e_getV, e_getC, e_putI, e_putZ, e_putF, e_gst0, e_gst1, e_sld, e_iald, e_cald, e_bald, e_iast, e_cast, e_aald, e_aast, e_alen, e_slen, e_blen, e_newa, e_newq, e_new, e_oinit, e_ctor, e_virt, e_stat, e_min, e_copy, e_ldc, f_al0, f_il0, f_ii0, f_al1, f_il1, f_ii1, f_al2, f_il2, f_ii2, f_al3, f_il3, f_ii3, f_al4, f_il4, f_ii4, f_al5, f_il5, f_ii5, f_al6, f_il6, f_ii6, f_al7, f_il7, f_ii7, f_al8, f_il8, f_ii8, f_al9, f_il9, f_ii9, f_getR, List.cons_append, List.nil_append, List.append_nil, List.length_cons, List.length_nil, List.replicate_succ, List.replicate_zero, List.getElem?_cons_zero, List.getElem?_cons_succ, List.set_cons_zero, List.set_cons_succ, List.take_succ_cons, List.take_zero, List.drop_succ_cons, List.drop_zero, List.reverse_cons, List.reverse_nil, Option.toList_some, Option.toList_none, Nat.reduceSub, Nat.reduceAdd, Nat.reduceLeDiff, true_and, and_true, and_self, Option.some.injEq, exists_eq_left', Nat.zero_add, Value.int.injEq, Value.ref.injEq, List.cons.injEq, exists_and_left, and_assoc, exists_eq_left, List.all_cons, List.all_nil, m1_i, m1_r, Bool.and_self, Bool.and_true, bk_69_61, n_le, Nat.le_refl, not_true_eq_false, not_false_eq_true, or_true, true_or, or_false, false_or, false_and, and_false, Nat.reduceEqDiff, Nat.reduceLT, Nat.reduceMul, Nat.not_lt_zero, Nat.zero_le, Nat.le_refl, ne_eq, ↓reduceIte, reduceCtorEq]
      exact hfin
  have hpe : ∀ {Q : Option Value → mH → Prop}, EvM 44 [.ref (7 + 4 * s)] (K, RTu R n, wWr (wBg H' (7 + 4 * s)) (7 + 4 * s) tr c) Q ↔ Q none (K, RTu R n, wWn H' (7 + 4 * s) tr c) := fun {Q} => m_putEnd zwt wWr_5 hc
  have pf := wWn_f (I := H') (a := 7 + 4 * s) (c := c) (tr := tr)
  have pg : ∀ j, j < c + 2 → wWn H' (7 + 4 * s) tr c (7 + 4 * s + 1) j = nomQ tr c j ∧ wWn H' (7 + 4 * s) tr c (7 + 4 * s + 2) j = nomQ tr c j := fun j hj => ⟨wWn_g (Or.inl rfl) hj, wWn_g (Or.inr rfl) hj⟩
  have pt := wWn_t (I := H') (a := 7 + 4 * s) (c := c) (tr := tr)
  have pO : ∀ x j, x < 7 + 4 * s ∨ 7 + 4 * s + 3 < x → wWn H' (7 + 4 * s) tr c x j = H' x j := fun x j hx => wWn_o hx
  generalize hP0 : wWn H' (7 + 4 * s) tr c = P at hpe pf pg pt pO
  obtain ⟨p3, p4, p5, p6⟩ := pf
  obtain ⟨pt0, pt1, pt2⟩ := pt
  have wfP : wF P (7 + 4 * s) 1 1 c := ⟨p3, p4, p5, by omega, by omega, hc⟩
  have hsm : sm (P (7 + 4 * s + 2)) (ngp 1 1 c) = sm (nomQ tr c) (c + 2) := sm_cg _ (fun j hj => (pg j hj).2)
  have p15 : P 1 5 = v 591 := by rw [pO _ _ (by omega), HO _ (by omega)]; exact e5
  have p33 : P 3 3 = nI ln := by rw [pO _ _ (by omega), HO _ (by omega)]; exact l2
  have pOl : ∀ x j, x < 31 → x < 7 + 4 * s ∨ 7 + 4 * s + 3 < x → P x j = I x j := fun x j h h2 => by rw [pO _ _ h2, HO _ h]
  refine ⟨RTu R n, lAd (mSet P 1 5 (v 591 + sm (nomQ tr c) (c + 2))) 3 ln 0 (nI s) (nI c), ?_, ?_⟩
  · rw [B_69_42]
    have hrm := fun Q => a_remember (Q := Q) g hv hn hn2
    rw [hH0] at hrm
    simp (disch := omega) only [e_iconst, e_bipush, e_sipush, e_istore_n, e_istore, e_astore_n, e_astore, e_iadd, e_isub, e_imul, e_iand, e_ishr, e_idiv, e_i2c, e_dup_i, e_dup_r, e_dup2, e_pop, e_goto, e_nop, e_if_eq, e_if_ne, e_if_lt, e_if_ge, e_if_gt, e_if_le, e_icmp_eq, e_icmp_ne, e_icmp_lt, e_icmp_ge, e_icmp_gt, e_icmp_le, e_tsw, e_ret0, e_ret1, e_retn, e_getI, e_getZ, e_getV, e_getC, e_putI, e_putZ, e_putF, e_gst0, e_gst1, e_sld, e_iald, e_cald, e_bald, e_iast, e_cast, e_aald, e_aast, e_alen, e_slen, e_blen, e_newa, e_newq, e_new, e_oinit, e_ctor, e_virt, e_stat, e_min, e_copy, e_ldc, f_al0, f_il0, f_ii0, f_al1, f_il1, f_ii1, f_al2, f_il2, f_ii2, f_al3, f_il3, f_ii3, f_al4, f_il4, f_ii4, f_al5, f_il5, f_ii5, f_al6, f_il6, f_ii6, f_al7, f_il7, f_ii7, f_al8, f_il8, f_ii8, f_al9, f_il9, f_ii9, f_getR, List.cons_append, List.nil_append, List.append_nil, List.length_cons, List.length_nil, List.replicate_succ, List.replicate_zero, List.getElem?_cons_zero, List.getElem?_cons_succ, List.set_cons_zero, List.set_cons_succ, List.take_succ_cons, List.take_zero, List.drop_succ_cons, List.drop_zero, List.reverse_cons, List.reverse_nil, Option.toList_some, Option.toList_none, Nat.reduceSub, Nat.reduceAdd, Nat.reduceLeDiff, true_and, and_true, and_self, Option.some.injEq, exists_eq_left', Nat.zero_add, Value.int.injEq, Value.ref.injEq, List.cons.injEq, exists_and_left, and_assoc, exists_eq_left, List.all_cons, List.all_nil, m1_i, m1_r, Bool.and_self, Bool.and_true, bk_69_42, a0, a1, a2, gs0, gh0, zw0, true_or, or_true, C_9, C_42, hrm, hbg, not_true_eq_false, not_false_eq_true, or_true, true_or, or_false, false_or, false_and, and_false, Nat.reduceEqDiff, Nat.reduceLT, Nat.reduceMul, Nat.not_lt_zero, Nat.zero_le, Nat.le_refl, ne_eq, ↓reduceIte, reduceCtorEq]
    refine loop _ ?_
    rw [B_69_90]
    simp (disch := omega) only [e_iconst, e_bipush, e_sipush, e_istore_n, e_istore, e_astore_n, e_astore, e_iadd, e_isub, e_imul, e_iand, e_ishr, e_idiv, e_i2c, e_dup_i, e_dup_r, e_dup2, e_pop, e_goto, e_nop, e_if_eq, e_if_ne, e_if_lt, e_if_ge, e_if_gt, e_if_le, e_icmp_eq, e_icmp_ne, e_icmp_lt, e_icmp_ge, e_icmp_gt, e_icmp_le, e_tsw, e_ret0, e_ret1, e_retn, e_getI, e_getZ, e_getV, e_getC, e_putI, e_putZ, e_putF, e_gst0, e_gst1, e_sld, e_iald, e_cald, e_bald, e_iast, e_cast, e_aald, e_aast, e_alen, e_slen, e_blen, e_newa, e_newq, e_new, e_oinit, e_ctor, e_virt, e_stat, e_min, e_copy, e_ldc, f_al0, f_il0, f_ii0, f_al1, f_il1, f_ii1, f_al2, f_il2, f_ii2, f_al3, f_il3, f_ii3, f_al4, f_il4, f_ii4, f_al5, f_il5, f_ii5, f_al6, f_il6, f_ii6, f_al7, f_il7, f_ii7, f_al8, f_il8, f_ii8, f_al9, f_il9, f_ii9, f_getR, List.cons_append, List.nil_append, List.append_nil, List.length_cons, List.length_nil, List.replicate_succ, List.replicate_zero, List.getElem?_cons_zero, List.getElem?_cons_succ, List.set_cons_zero, List.set_cons_succ, List.take_succ_cons, List.take_zero, List.drop_succ_cons, List.drop_zero, List.reverse_cons, List.reverse_nil, Option.toList_some, Option.toList_none, Nat.reduceSub, Nat.reduceAdd, Nat.reduceLeDiff, true_and, and_true, and_self, Option.some.injEq, exists_eq_left', Nat.zero_add, Value.int.injEq, Value.ref.injEq, List.cons.injEq, exists_and_left, and_assoc, exists_eq_left, List.all_cons, List.all_nil, m1_i, m1_r, Bool.and_self, Bool.and_true, bk_69_90, a0, a1t, gs0, zw0, gt3, gsl, true_or, or_true, C_44, C_54, C_14, hpe, m_sumOfNominals zwt wfP, hsm, p15, s_ne, p5, not_true_eq_false, not_false_eq_true, or_true, true_or, or_false, false_or, false_and, and_false, Nat.reduceEqDiff, Nat.reduceLT, Nat.reduceMul, Nat.not_lt_zero, Nat.zero_le, Nat.le_refl, ne_eq, ↓reduceIte, reduceCtorEq]
    rw [m_logAdd gt4 (n := ln) ?_ l1]
    · simp (disch := omega) only [e_iconst, e_bipush, e_sipush, e_istore_n, e_istore, e_astore_n, e_astore, e_iadd, e_isub, e_imul, e_iand, e_ishr, e_idiv, e_i2c, e_dup_i, e_dup_r, e_dup2, e_pop, e_goto, e_nop, e_if_eq, e_if_ne, e_if_lt, e_if_ge, e_if_gt, e_if_le, e_icmp_eq, e_icmp_ne, e_icmp_lt, e_icmp_ge, e_icmp_gt, e_icmp_le, e_tsw, e_ret0, e_ret1, e_retn, e_getI, e_getZ, e_getV, e_getC, e_putI, e_putZ, e_putF, e_gst0, e_gst1, e_sld, e_iald, e_cald, e_bald, e_iast, e_cast, e_aald, e_aast, e_alen, e_slen, e_blen, e_newa, e_newq, e_new, e_oinit, e_ctor, e_virt, e_stat, e_min, e_copy, e_ldc, f_al0, f_il0, f_ii0, f_al1, f_il1, f_ii1, f_al2, f_il2, f_ii2, f_al3, f_il3, f_ii3, f_al4, f_il4, f_ii4, f_al5, f_il5, f_ii5, f_al6, f_il6, f_ii6, f_al7, f_il7, f_ii7, f_al8, f_il8, f_ii8, f_al9, f_il9, f_ii9, f_getR, List.cons_append, List.nil_append, List.append_nil, List.length_cons, List.length_nil, List.replicate_succ, List.replicate_zero, List.getElem?_cons_zero, List.getElem?_cons_succ, List.set_cons_zero, List.set_cons_succ, List.take_succ_cons, List.take_zero, List.drop_succ_cons, List.drop_zero, List.reverse_cons, List.reverse_nil, Option.toList_some, Option.toList_none, Nat.reduceSub, Nat.reduceAdd, Nat.reduceLeDiff, true_and, and_true, and_self, Option.some.injEq, exists_eq_left', Nat.zero_add, Value.int.injEq, Value.ref.injEq, List.cons.injEq, exists_and_left, and_assoc, exists_eq_left, List.all_cons, List.all_nil, m1_i, m1_r, Bool.and_self, Bool.and_true, zw0, lAd_o, s_ne, p5, not_true_eq_false, not_false_eq_true, or_true, true_or, or_false, false_or, false_and, and_false, Nat.reduceEqDiff, Nat.reduceLT, Nat.reduceMul, Nat.not_lt_zero, Nat.zero_le, Nat.le_refl, ne_eq, ↓reduceIte, reduceCtorEq]
    · simp (disch := omega) only [s_ne]; exact p33
  · refine REL_act g hv hn2 hH hP hT (fun x x1 x2 => by rw [hH0]; funext j; simp (disch := omega) only [lAd_o, s_ne, pO]) (by funext j; simp (disch := omega) only [lAd_o, s_ne, pO, HO]) ?_
    refine RC_upd (fun z => z = s) hv (fun z _ hz => ?_) (fun z hz1 hz2 => ⟨fun d hd => ?_, fun x x1 x2 => ?_⟩) ?_
    · subst hz
      refine ⟨1, 1, c, ⟨?_, ?_, ?_, by omega, by omega, hc⟩, ⟨?_, ?_, ?_, by omega, by omega, hc⟩, fun q => absurd q (by omega), fun _ => ?_, fun _ => ?_, fun k hk => ?_, fun i hi => ?_, fun e => ?_⟩
      · simp (disch := omega) only [lAd_o, s_ne]; exact p3
      · simp (disch := omega) only [lAd_o, s_ne]; exact p4
      · simp (disch := omega) only [lAd_o, s_ne]; exact p5
      · simp (disch := omega) only [vTl_o, u_ne, u_eq]; rfl
      · simp (disch := omega) only [vTl_o, u_ne, u_eq]; rfl
      · simp (disch := omega) only [vTl_o, u_ne, u_eq]
      · simp (disch := omega) only [lAd_o, s_ne, vTl_o, u_eq]; exact p6
      · simp (disch := omega) only [lAd_o, s_ne]; exact pt0
      · have hk2 : k < c + 2 := hk
        simp (disch := omega) only [lAd_o, s_ne, vTl_o, u_ne, vTw_o, vPn_l, vPn_n]
        exact ⟨(pg k hk2).1, (pg k hk2).2, nomQ_ok htr8⟩
      · simp (disch := omega) only [lAd_o, s_ne, vTl_o, u_ne, vTw_i, pt1]
        exact ⟨trivial, htr8 i hi⟩
      · simp (disch := omega) only [lAd_o, s_ne]; exact pt2
    · funext j; simp (disch := omega) only [lAd_o, s_ne, pOl]
    · simp (disch := omega) only [vTl_o, u_ne, vTw_o, vPn_o]
    · refine rE_mk ?_ ?_ ?_ ?_ ?_ ?_ ?_ ?_ ?_ (rL_add l1 ?_ ?_ (fun e he => ?_)) <;> simp (disch := omega) only [lAd_o, s_ne, s_eq, pOl, vTl_o, u_ne, u_eq, vTw_o, vPn_o, vPn_u, e2, e3, e4, e5, e6, e7, e8]
      · exact e9
      · exact e10
      · exact l2
      · exact l3
      · exact l4 e he
/-- the text is 'write ', a digit for the spool, a blank, letters -/
def txW (t : Nat) (T : Nat → Nat) (s : Nat) : Prop := 9 ≤ t ∧ t ≤ 50 ∧ s < 6 ∧ T 0 = 119 ∧ T 1 = 114 ∧ T 2 = 105 ∧ T 3 = 116 ∧ T 4 = 101 ∧ T 5 = 32 ∧ T 6 = 48 + s ∧ T 7 = 32 ∧ ∀ k, 8 ≤ k → k < t → 97 ≤ T k ∧ T k ≤ 104
theorem bet_mk {t k a b : Nat} {T : Nat → Nat} (h1 : k < t) (h2 : a ≤ T k) (h3 : T k ≤ b) : bet t T a b k = true := by
  unfold bet
  simp; omega
theorem bet_no {t k a b : Nat} {T : Nat → Nat} (h : T k < a ∨ b < T k) : bet t T a b k = false := by
  unfold bet
  rcases h with q | q
  · simp; omega
  · simp; omega
theorem fB_to {P : Nat → Bool} {n : Nat} : ∀ k, k ≤ n → (∀ j, j < k → P j = false) → fB P n k = n := by
  intro k
  induction k with
  | zero => intro _ _; rfl
  | succ k ih =>
    intro hk h
    have e := ih (by omega) (fun j hj => h j (by omega))
    unfold fB
    rw [if_pos e, h k (by omega)]
    rfl
theorem tx_wL {t s : Nat} {T : Nat → Nat} (h : txW t T s) : wL t T = 5 := by
  obtain ⟨h1, h2, h3, t0, t1, t2, t3, t4, t5, -⟩ := h
  refine fB_hit (fB_to 5 (by omega) (fun j hj => ?_)) (by omega) ?_
  · rcases (show j = 0 ∨ j = 1 ∨ j = 2 ∨ j = 3 ∨ j = 4 by omega) with rfl | rfl | rfl | rfl | rfl <;> rw [bet_mk (by omega) (by omega) (by omega)] <;> rfl
  · rw [bet_no (by omega)]; rfl
theorem tx_mat {t s : Nat} {T : Nat → Nat} (h : txW t T s) : mat t T 0 = true ∧ ∀ j, j < 6 → j ≠ 0 → mat t T j = false := by
  have hw := tx_wL h
  obtain ⟨h1, h2, h3, t0, t1, t2, t3, t4, t5, -⟩ := h
  have m0 : mat t T 0 = true := by
    rw [mat_iff]
    refine ⟨hw, fun k hk => ?_⟩
    have hk : k < 5 := hk
    rcases (show k = 0 ∨ k = 1 ∨ k = 2 ∨ k = 3 ∨ k = 4 by omega) with rfl | rfl | rfl | rfl | rfl
    · rw [t0]; rfl
    · rw [t1]; rfl
    · rw [t2]; rfl
    · rw [t3]; rfl
    · rw [t4]; rfl
  exact ⟨m0, fun j hj hj0 => mat_one (by omega) hj (Ne.symm hj0) m0⟩
theorem tx_ln {t s : Nat} {T : Nat → Nat} (h : txW t T s) : lNn t T 8 = t - 8 := by
  obtain ⟨h1, h2, h3, t0, t1, t2, t3, t4, t5, t6, t7, t8⟩ := h
  unfold lNn
  refine fB_to _ (Nat.le_refl _) (fun j hj => ?_)
  have := t8 (8 + j) (by omega) (by omega)
  rw [bet_mk (by omega) (by omega) (by omega)]; rfl
set_option maxHeartbeats 8000000 in
theorem tx_parse {K : mK} {R : Nat → Nat → Option Nat} {I : Nat → Nat → Int32} {t s : Nat} {T : Nat → Nat} {Q : Option Value → mH → Prop} (h : tC K R I t T) (hT : ∀ k, k < t → T k < 65536) (hk : K.2.2.1 185 = (1, 0)) (hx : txW t T s) : EvM 1 [.ref 185, .ref 183] (K, R, I) Q ↔ Q none (K, R, cmd I 1 (nI s) 0 8 (-1) (nI t)) := by
  obtain ⟨m0, mo⟩ := tx_mat hx
  have hw := tx_wL hx
  have hl := tx_ln hx
  obtain ⟨h1, h2, h3, t0, t1, t2, t3, t4, t5, t6, t7, t8⟩ := hx
  have b5 : bet t T 32 32 5 = true := bet_mk (by omega) (by omega) (by omega)
  have b6 : bet t T 48 57 (5 + 1) = true := bet_mk (by omega) (by rw [show 5 + 1 = 6 from rfl, t6]; omega) (by rw [show 5 + 1 = 6 from rfl, t6]; omega)
  have b7 : bet t T 48 57 7 = false := bet_no (by omega)
  have b7' : bet t T 32 32 7 = true := bet_mk (by omega) (by omega) (by omega)
  have hnv : nv t T (5 + 1) = s ∧ nx t T (5 + 1) = 7 := by
    unfold nv nx
    rw [show 5 + 1 = 6 from rfl, t6, show 6 + 1 = 7 from rfl, b7]
    by_cases e : 48 + s = 48
    · rw [if_pos e, if_pos e]; exact ⟨by omega, rfl⟩
    · rw [if_neg e, if_neg e]; exact ⟨by simp, by simp⟩
  have hn : ∀ Q, EvM 4 [.ref 185, .ref 183] (K, R, cmd I (nI (0 + 1)) 0 0 0 (-1) (nI (wL t T))) Q ↔ Q (some (.int (nI s))) (K, R, cmd I (nI (0 + 1)) 0 0 0 (-1) (nI 7)) := by
    intro Q
    rw [hw, k_n3 h (by omega) hT hk (by omega) b5 b6, hnv.1, hnv.2]
  have hlt : ∀ Q, EvM 5 [.ref 185, .ref 183] (K, R, cmd I (nI (0 + 1)) (nI s) 0 0 (-1) (nI 7)) Q ↔ Q none (K, R, cmd I (nI (0 + 1)) (nI s) 0 (nI 8) (-1) (nI t)) := by
    intro Q
    rw [k_l3 h (by omega) hT hk (by omega) b7' (by rw [show 7 + 1 = 8 from rfl, hl]; omega), show 7 + 1 = 8 from rfl, hl, show 8 + (t - 8) = t by omega]
  rw [c_p0 h (by omega) hT hk (by omega) m0 mo, c_p1L hk hn hlt, c_pEO h (by omega) hk (Nat.le_refl t) (by omega)]
  exact Iff.rfl
theorem tx_parse0 {K : mK} {R : Nat → Nat → Option Nat} {I : Nat → Nat → Int32} {T : Nat → Nat} {Q : Option Value → mH → Prop} (h : tC K R I 0 T) (hk : K.2.2.1 185 = (1, 0)) : EvM 1 [.ref 185, .ref 183] (K, R, I) Q ↔ Q none (K, R, cmd I 0 0 0 0 0 (nI (wL 0 T))) := by
  refine c_p0O h (by omega) (fun k hk => absurd hk (by omega)) hk (fun j hj => ?_)
  have w0 : wL 0 T = 0 := by have := wL_le 0 T; omega
  refine mat_l w0 ?_
  have := (st_m j hj).2
  omega
set_option maxHeartbeats 8000000 in
theorem q_perform0 {K : mK} {R : Nat → Nat → Option Nat} {I : Nat → Nat → Int32} {v H : Nat → Int32} {T : Nat → Nat} {n : Nat} (hrel : REL K R I v n H 0 T) : QO 68 [] K R I (-100) := by
  obtain ⟨f, g, hv, hn2, hn, hH, hP, hT⟩ := id hrel
  have q4 := qTu_lt g hn2
  obtain ⟨gs, -, gh, gw, gr, gr', ⟨a0, a1, a2, a3, a4, a5, a6, a7, a8⟩, ⟨b0, b1, b2⟩, cc0⟩ := id g
  have gs0 : K.2.2.1 1 = (1, 4) := gs.1
  have gs1 : R 1 0 = some 2 := gs.2.1
  have gs2 : K.2.2.1 2 = (4, 6) := gs.2.2.1
  have gs3 : R 1 1 = some 3 := gs.2.2.2.1
  have gs4 : zL K R 3 := gs.2.2.2.2.1
  have gW : ∀ s, s < 6 → zW K R (7 + 4 * s) := fun s hs => (gs.2.2.2.2.2.2 s hs).2
  have gR : ∀ s, s < 6 → R 2 s = some (7 + 4 * s) := fun s hs => (gs.2.2.2.2.2.2 s hs).1
  have gh0 := gh.1
  have gsl : K.2.2.1 3 = (1, 2) := gs4.1
  have gT := zG_tu (n := n) g
  have gst : zS K (RTu R n) 1 := gT.1
  have gt1 : RTu R n 1 0 = some 2 := gst.2.1
  have gt3 : RTu R n 1 1 = some 3 := gst.2.2.2.1
  have gt4 : zL K (RTu R n) 3 := gst.2.2.2.2.1
  have gWt : ∀ s, s < 6 → zW K (RTu R n) (7 + 4 * s) := fun s hs => (gst.2.2.2.2.2.2 s hs).2
  have gRt : ∀ s, s < 6 → RTu R n 2 s = some (7 + 4 * s) := fun s hs => (gst.2.2.2.2.2.2 s hs).1
  obtain ⟨-, a1t, a2t, a3t, a4t, a5t, a6t, a7t, a8t⟩ := gT.2.2.2.2.2.2.1
  obtain ⟨ht, ht1, htx⟩ := id hT
  have tc : tC K R I 0 T := ⟨b0, b1, b2, ht1, fun k hk => (htx k hk).1⟩
  refine ⟨cmd I 0 0 0 0 0 (nI (wL 0 T)), ?_, fun x hx => cmd_o (by omega)⟩
  rw [E_in 68, B_68_0]
  simp (disch := omega) only [e_iconst, e_bipush, e_sipush, e_istore_n, e_istore, e_astore_n, e_astore, e_iadd, e_isub, e_imul, e_iand, e_ishr, e_idiv, e_i2c, e_dup_i, e_dup_r, e_dup2, e_pop, e_goto, e_nop, e_if_eq, e_if_ne, e_if_lt, e_if_ge, e_if_gt, e_if_le, e_icmp_eq, e_icmp_ne, e_icmp_lt, e_icmp_ge, e_icmp_gt, e_icmp_le, e_tsw, e_ret0, e_ret1, e_retn, e_getI, e_getZ, e_getV, e_getC, e_putI, e_putZ, e_putF, e_gst0, e_gst1, e_sld, e_iald, e_cald, e_bald, e_iast, e_cast, e_aald, e_aast, e_alen, e_slen, e_blen, e_newa, e_newq, e_new, e_oinit, e_ctor, e_virt, e_stat, e_min, e_copy, e_ldc, f_al0, f_il0, f_ii0, f_al1, f_il1, f_ii1, f_al2, f_il2, f_ii2, f_al3, f_il3, f_ii3, f_al4, f_il4, f_ii4, f_al5, f_il5, f_ii5, f_al6, f_il6, f_ii6, f_al7, f_il7, f_ii7, f_al8, f_il8, f_ii8, f_al9, f_il9, f_ii9, f_getR, List.cons_append, List.nil_append, List.append_nil, List.length_cons, List.length_nil, List.replicate_succ, List.replicate_zero, List.getElem?_cons_zero, List.getElem?_cons_succ, List.set_cons_zero, List.set_cons_succ, List.take_succ_cons, List.take_zero, List.drop_succ_cons, List.drop_zero, List.reverse_cons, List.reverse_nil, Option.toList_some, Option.toList_none, Nat.reduceSub, Nat.reduceAdd, Nat.reduceLeDiff, true_and, and_true, and_self, Option.some.injEq, exists_eq_left', Nat.zero_add, Value.int.injEq, Value.ref.injEq, List.cons.injEq, exists_and_left, and_assoc, exists_eq_left, List.all_cons, List.all_nil, m1_i, m1_r, Bool.and_self, Bool.and_true, N_68, bk_68_0, a0, a4, a5, cc0, true_or, or_true, C_1, tx_parse0 tc cc0, cmd_r4, o_eq, not_true_eq_false, not_false_eq_true, or_true, true_or, or_false, false_or, false_and, and_false, Nat.reduceEqDiff, Nat.reduceLT, Nat.reduceMul, Nat.not_lt_zero, Nat.zero_le, Nat.le_refl, ne_eq, ↓reduceIte, reduceCtorEq]
  try rfl
/-- what perform answers to such a text -/
def aWrite (v : Nat → Int32) (s c : Nat) : Int32 := if gp v s = 1 then -4 else if 30 < c then -3 else nI c
set_option maxHeartbeats 8000000 in
theorem q_perform {K : mK} {R : Nat → Nat → Option Nat} {I : Nat → Nat → Int32} {v H : Nat → Int32} {T : Nat → Nat} {n t : Nat} (hrel : REL K R I v n H t T) (s : Nat) (hx : txW t T s) : if gp v s = 1 ∨ 30 < t - 8 then QO 68 [] K R I (aWrite v s (t - 8)) else AO 68 [] K R I (nI (t - 8)) (wWrite v s (t - 8) (fun i => nI (T (8 + i) - 97))) (nTu n) (vRec H v n) t T := by
  obtain ⟨f, g, hv, hn2, hn, hH, hP, hT⟩ := id hrel
  have q4 := qTu_lt g hn2
  obtain ⟨gs, -, gh, gw, gr, gr', ⟨a0, a1, a2, a3, a4, a5, a6, a7, a8⟩, ⟨b0, b1, b2⟩, cc0⟩ := id g
  have gs0 : K.2.2.1 1 = (1, 4) := gs.1
  have gs1 : R 1 0 = some 2 := gs.2.1
  have gs2 : K.2.2.1 2 = (4, 6) := gs.2.2.1
  have gs3 : R 1 1 = some 3 := gs.2.2.2.1
  have gs4 : zL K R 3 := gs.2.2.2.2.1
  have gW : ∀ s, s < 6 → zW K R (7 + 4 * s) := fun s hs => (gs.2.2.2.2.2.2 s hs).2
  have gR : ∀ s, s < 6 → R 2 s = some (7 + 4 * s) := fun s hs => (gs.2.2.2.2.2.2 s hs).1
  have gh0 := gh.1
  have gsl : K.2.2.1 3 = (1, 2) := gs4.1
  have gT := zG_tu (n := n) g
  have gst : zS K (RTu R n) 1 := gT.1
  have gt1 : RTu R n 1 0 = some 2 := gst.2.1
  have gt3 : RTu R n 1 1 = some 3 := gst.2.2.2.1
  have gt4 : zL K (RTu R n) 3 := gst.2.2.2.2.1
  have gWt : ∀ s, s < 6 → zW K (RTu R n) (7 + 4 * s) := fun s hs => (gst.2.2.2.2.2.2 s hs).2
  have gRt : ∀ s, s < 6 → RTu R n 2 s = some (7 + 4 * s) := fun s hs => (gst.2.2.2.2.2.2 s hs).1
  obtain ⟨-, a1t, a2t, a3t, a4t, a5t, a6t, a7t, a8t⟩ := gT.2.2.2.2.2.2.1
  obtain ⟨ht, ht1, htx⟩ := id hT
  have hs := hx.2.2.1
  have h9 := hx.1
  have tc : tC K R I t T := ⟨b0, b1, b2, ht1, fun k hk => (htx k hk).1⟩
  obtain ⟨X, hX⟩ : ∃ X, cmd I 1 (nI s) 0 8 (-1) (nI t) = X := ⟨_, rfl⟩
  have x1 : ∀ x, x ≠ 185 → X x = I x := fun x hx => by rw [← hX]; exact cmd_o hx
  have x0 : X 185 0 = 1 := by rw [← hX]; exact cmd_r0
  have xa : X 185 1 = nI s := by rw [← hX]; exact cmd_r1
  have xq : X 185 3 = nI 8 := by rw [← hX]; exact cmd_r3
  have xf : X 185 4 = -1 := by rw [← hX]; exact cmd_r4
  have x83 : X 183 1 = nI t := by rw [x1 _ (by omega)]; exact ht1
  have hSC : SCR I X := fun x hx => x1 x (by omega)
  have hp : ∀ Q, EvM 1 [.ref 185, .ref 183] (K, R, I) Q ↔ Q none (K, R, X) := fun Q => by rw [← hX]; exact tx_parse tc (fun k hk => (htx k hk).2) cc0 hx
  have cls2 : ∀ Q, EvM 68 [.ref 0] (K, R, I) Q ↔ EvM 69 [.ref 0, .int (nI s), .int (nI 8), .int (nI t)] (K, R, X) (fun v h' => Ev 68 [(.ireturn, 0, 0, 0)] [.ref 0] v.toList h' Q) := by
    intro Q
    have x0' : X 185 0 = nI 1 := x0
    rw [E_in 68, B_68_0]
    simp (disch := omega) only [e_iconst, e_bipush, e_sipush, e_istore_n, e_istore, e_astore_n, e_astore, e_iadd, e_isub, e_imul, e_iand, e_ishr, e_idiv, e_i2c, e_dup_i, e_dup_r, e_dup2, e_pop, e_goto, e_nop, e_if_eq, e_if_ne, e_if_lt, e_if_ge, e_if_gt, e_if_le, e_icmp_eq, e_icmp_ne, e_icmp_lt, e_icmp_ge, e_icmp_gt, e_icmp_le, e_tsw, e_ret0, e_ret1, e_retn, e_getI, e_getZ, e_getV, e_getC, e_putI, e_putZ, e_putF, e_gst0, e_gst1, e_sld, e_iald, e_cald, e_bald, e_iast, e_cast, e_aald, e_aast, e_alen, e_slen, e_blen, e_newa, e_newq, e_new, e_oinit, e_ctor, e_virt, e_stat, e_min, e_copy, e_ldc, f_al0, f_il0, f_ii0, f_al1, f_il1, f_ii1, f_al2, f_il2, f_ii2, f_al3, f_il3, f_ii3, f_al4, f_il4, f_ii4, f_al5, f_il5, f_ii5, f_al6, f_il6, f_ii6, f_al7, f_il7, f_ii7, f_al8, f_il8, f_ii8, f_al9, f_il9, f_ii9, f_getR, List.cons_append, List.nil_append, List.append_nil, List.length_cons, List.length_nil, List.replicate_succ, List.replicate_zero, List.getElem?_cons_zero, List.getElem?_cons_succ, List.set_cons_zero, List.set_cons_succ, List.take_succ_cons, List.take_zero, List.drop_succ_cons, List.drop_zero, List.reverse_cons, List.reverse_nil, Option.toList_some, Option.toList_none, Nat.reduceSub, Nat.reduceAdd, Nat.reduceLeDiff, true_and, and_true, and_self, Option.some.injEq, exists_eq_left', Nat.zero_add, Value.int.injEq, Value.ref.injEq, List.cons.injEq, exists_and_left, and_assoc, exists_eq_left, List.all_cons, List.all_nil, m1_i, m1_r, Bool.and_self, Bool.and_true, N_68, bk_68_0, a0, a4, a5, cc0, true_or, or_true, C_1, hp, xf, not_true_eq_false, not_false_eq_true, or_true, true_or, or_false, false_or, false_and, and_false, Nat.reduceEqDiff, Nat.reduceLT, Nat.reduceMul, Nat.not_lt_zero, Nat.zero_le, Nat.le_refl, ne_eq, ↓reduceIte, reduceCtorEq]
    rw [B_68_33]
    simp (disch := omega) only [e_iconst, e_bipush, e_sipush, e_istore_n, e_istore, e_astore_n, e_astore, e_iadd, e_isub, e_imul, e_iand, e_ishr, e_idiv, e_i2c, e_dup_i, e_dup_r, e_dup2, e_pop, e_goto, e_nop, e_if_eq, e_if_ne, e_if_lt, e_if_ge, e_if_gt, e_if_le, e_icmp_eq, e_icmp_ne, e_icmp_lt, e_icmp_ge, e_icmp_gt, e_icmp_le, e_tsw, e_ret0, e_ret1, e_retn, e_getI, e_getZ, e_getV, e_getC, e_putI, e_putZ, e_putF, e_gst0, e_gst1, e_sld, e_iald, e_cald, e_bald, e_iast, e_cast, e_aald, e_aast, e_alen, e_slen, e_blen, e_newa, e_newq, e_new, e_oinit, e_ctor, e_virt, e_stat, e_min, e_copy, e_ldc, f_al0, f_il0, f_ii0, f_al1, f_il1, f_ii1, f_al2, f_il2, f_ii2, f_al3, f_il3, f_ii3, f_al4, f_il4, f_ii4, f_al5, f_il5, f_ii5, f_al6, f_il6, f_ii6, f_al7, f_il7, f_ii7, f_al8, f_il8, f_ii8, f_al9, f_il9, f_ii9, f_getR, List.cons_append, List.nil_append, List.append_nil, List.length_cons, List.length_nil, List.replicate_succ, List.replicate_zero, List.getElem?_cons_zero, List.getElem?_cons_succ, List.set_cons_zero, List.set_cons_succ, List.take_succ_cons, List.take_zero, List.drop_succ_cons, List.drop_zero, List.reverse_cons, List.reverse_nil, Option.toList_some, Option.toList_none, Nat.reduceSub, Nat.reduceAdd, Nat.reduceLeDiff, true_and, and_true, and_self, Option.some.injEq, exists_eq_left', Nat.zero_add, Value.int.injEq, Value.ref.injEq, List.cons.injEq, exists_and_left, and_assoc, exists_eq_left, List.all_cons, List.all_nil, m1_i, m1_r, Bool.and_self, Bool.and_true, bk_68_33, a0, a5, cc0, x0', show mTgt 40 132 1 #[36, 62, 82, 101, 120] (nI 1) = 76 from by decide, not_true_eq_false, not_false_eq_true, or_true, true_or, or_false, false_or, false_and, and_false, Nat.reduceEqDiff, Nat.reduceLT, Nat.reduceMul, Nat.not_lt_zero, Nat.zero_le, Nat.le_refl, ne_eq, ↓reduceIte, reduceCtorEq]
    rw [B_68_76]
    simp (disch := omega) only [e_iconst, e_bipush, e_sipush, e_istore_n, e_istore, e_astore_n, e_astore, e_iadd, e_isub, e_imul, e_iand, e_ishr, e_idiv, e_i2c, e_dup_i, e_dup_r, e_dup2, e_pop, e_goto, e_nop, e_if_eq, e_if_ne, e_if_lt, e_if_ge, e_if_gt, e_if_le, e_icmp_eq, e_icmp_ne, e_icmp_lt, e_icmp_ge, e_icmp_gt, e_icmp_le, e_tsw, e_ret0, e_ret1, e_retn, e_getI, e_getZ, e_getV, e_getC, e_putI, e_putZ, e_putF, e_gst0, e_gst1, e_sld, e_iald, e_cald, e_bald, e_iast, e_cast, e_aald, e_aast, e_alen, e_slen, e_blen, e_newa, e_newq, e_new, e_oinit, e_ctor, e_virt, e_stat, e_min, e_copy, e_ldc, f_al0, f_il0, f_ii0, f_al1, f_il1, f_ii1, f_al2, f_il2, f_ii2, f_al3, f_il3, f_ii3, f_al4, f_il4, f_ii4, f_al5, f_il5, f_ii5, f_al6, f_il6, f_ii6, f_al7, f_il7, f_ii7, f_al8, f_il8, f_ii8, f_al9, f_il9, f_ii9, f_getR, List.cons_append, List.nil_append, List.append_nil, List.length_cons, List.length_nil, List.replicate_succ, List.replicate_zero, List.getElem?_cons_zero, List.getElem?_cons_succ, List.set_cons_zero, List.set_cons_succ, List.take_succ_cons, List.take_zero, List.drop_succ_cons, List.drop_zero, List.reverse_cons, List.reverse_nil, Option.toList_some, Option.toList_none, Nat.reduceSub, Nat.reduceAdd, Nat.reduceLeDiff, true_and, and_true, and_self, Option.some.injEq, exists_eq_left', Nat.zero_add, Value.int.injEq, Value.ref.injEq, List.cons.injEq, exists_and_left, and_assoc, exists_eq_left, List.all_cons, List.all_nil, m1_i, m1_r, Bool.and_self, Bool.and_true, bk_68_76, a0, a4, a5, b0, cc0, xa, xq, x83, true_or, or_true, C_69, not_true_eq_false, not_false_eq_true, or_true, true_or, or_false, false_or, false_and, and_false, Nat.reduceEqDiff, Nat.reduceLT, Nat.reduceMul, Nat.not_lt_zero, Nat.zero_le, Nat.le_refl, ne_eq, ↓reduceIte, reduceCtorEq]
  obtain ⟨pA, clA, cA, hwA⟩ := hv.1 s hs
  rw [show 1 + 6 + 4 * s = 7 + 4 * s by omega] at hwA
  obtain ⟨wfA, vfA, k0A, k1A, k2A, k3A, k4A, k5A⟩ := id hwA
  obtain ⟨f1A, f2A, f3A, f4A, f5A, f6A⟩ := id wfA
  obtain ⟨v1A, v2A, v3A, -⟩ := id vfA
  have zwA := gW s hs
  have zwtA := gWt s hs
  have rwA := gR s hs
  have rwtA := gRt s hs
  have zw0A : K.2.2.1 (7 + 4 * s) = (1, 6) := zwA.1
  have Xw : ∀ d, d < 31 → X d = I d := fun d hd => x1 d (by omega)
  obtain ⟨g1, g2, g3⟩ := g_vF vfA
  unfold aWrite
  rw [g1]
  rcases (show pA = 1 ∨ pA = 0 by omega) with rfl | rfl
  · rw [if_pos (Or.inl rfl), if_pos rfl]
    refine ⟨X, ?_, hSC⟩
    rw [cls2]
    simp (disch := omega) only [e_iconst, e_bipush, e_sipush, e_iload_n, e_iload, e_aload_n, e_aload, e_istore_n, e_istore, e_astore_n, e_astore, e_iinc, e_iadd, e_isub, e_imul, e_iand, e_ishr, e_idiv, e_i2c, e_dup_i, e_dup_r, e_dup2, e_pop, e_goto, e_nop, e_if_eq, e_if_ne, e_if_lt, e_if_ge, e_if_gt, e_if_le, e_icmp_eq, e_icmp_ne, e_icmp_lt, e_icmp_ge, e_icmp_gt, e_icmp_le, e_tsw, e_ret0, e_ret1, e_retn, e_getI, e_getZ, e_getR, e_getV, e_getC, e_putI, e_putZ, e_putF, e_gst0, e_gst1, e_sld, e_iald, e_cald, e_bald, e_iast, e_cast, e_aald, e_aast, e_alen, e_slen, e_blen, e_newa, e_newq, e_new, e_oinit, e_ctor, e_virt, e_stat, e_min, e_copy, e_ldc, List.cons_append, List.nil_append, List.append_nil, List.length_cons, List.length_nil, List.replicate_succ, List.replicate_zero, List.getElem?_cons_zero, List.getElem?_cons_succ, List.set_cons_zero, List.set_cons_succ, List.take_succ_cons, List.take_zero, List.drop_succ_cons, List.drop_zero, List.reverse_cons, List.reverse_nil, Option.toList_some, Option.toList_none, Nat.reduceSub, Nat.reduceAdd, Nat.reduceLeDiff, true_and, and_true, and_self, Option.some.injEq, exists_eq_left', Nat.zero_add, Value.int.injEq, Value.ref.injEq, List.cons.injEq, exists_and_left, and_assoc, exists_eq_left, List.all_cons, List.all_nil, m1_i, m1_r, Bool.and_self, Bool.and_true, E_in 69, N_69, B_69_0, bk_69_0, B_69_9, bk_69_9, C_81, m_isSp hs, a0, a1, gs0, gs1, gs2, zw0A, rwA, n_in, n_cl, true_or, or_true, Xw, f1A, o_eq_l, o_eq, if_neg, if_pos, if_neg, not_true_eq_false, not_false_eq_true, or_true, true_or, or_false, false_or, false_and, and_false, Nat.reduceEqDiff, Nat.reduceLT, Nat.reduceMul, Nat.not_lt_zero, Nat.zero_le, Nat.le_refl, ne_eq, reduceIte, reduceCtorEq]
  have cls3 : ∀ Q, EvM 69 [.ref 0, .int (nI s), .int (nI 8), .int (nI t)] (K, R, X) Q ↔ Ev 69 (mB 69 31) [.ref 0, .int (nI s), .int (nI 8), .int (nI t), .ref (7 + 4 * s), .null] [] (K, R, X) Q := by
    intro Q
    simp (disch := omega) only [e_iconst, e_bipush, e_sipush, e_iload_n, e_iload, e_aload_n, e_aload, e_istore_n, e_istore, e_astore_n, e_astore, e_iinc, e_iadd, e_isub, e_imul, e_iand, e_ishr, e_idiv, e_i2c, e_dup_i, e_dup_r, e_dup2, e_pop, e_goto, e_nop, e_if_eq, e_if_ne, e_if_lt, e_if_ge, e_if_gt, e_if_le, e_icmp_eq, e_icmp_ne, e_icmp_lt, e_icmp_ge, e_icmp_gt, e_icmp_le, e_tsw, e_ret0, e_ret1, e_retn, e_getI, e_getZ, e_getR, e_getV, e_getC, e_putI, e_putZ, e_putF, e_gst0, e_gst1, e_sld, e_iald, e_cald, e_bald, e_iast, e_cast, e_aald, e_aast, e_alen, e_slen, e_blen, e_newa, e_newq, e_new, e_oinit, e_ctor, e_virt, e_stat, e_min, e_copy, e_ldc, List.cons_append, List.nil_append, List.append_nil, List.length_cons, List.length_nil, List.replicate_succ, List.replicate_zero, List.getElem?_cons_zero, List.getElem?_cons_succ, List.set_cons_zero, List.set_cons_succ, List.take_succ_cons, List.take_zero, List.drop_succ_cons, List.drop_zero, List.reverse_cons, List.reverse_nil, Option.toList_some, Option.toList_none, Nat.reduceSub, Nat.reduceAdd, Nat.reduceLeDiff, true_and, and_true, and_self, Option.some.injEq, exists_eq_left', Nat.zero_add, Value.int.injEq, Value.ref.injEq, List.cons.injEq, exists_and_left, and_assoc, exists_eq_left, List.all_cons, List.all_nil, m1_i, m1_r, Bool.and_self, Bool.and_true, E_in 69, N_69, B_69_0, bk_69_0, B_69_9, bk_69_9, C_81, m_isSp hs, a0, a1, gs0, gs1, gs2, zw0A, rwA, n_in, n_cl, true_or, or_true, Xw, f1A, o_eq_l, o_eq, if_pos, if_neg, not_true_eq_false, not_false_eq_true, or_true, true_or, or_false, false_or, false_and, and_false, Nat.reduceEqDiff, Nat.reduceLT, Nat.reduceMul, Nat.not_lt_zero, Nat.zero_le, Nat.le_refl, ne_eq, reduceIte, reduceCtorEq]
  by_cases hf : 30 < t - 8
  · have e2 : ¬ t - 8 ≤ 30 := by omega
    rw [if_pos (Or.inr hf), if_neg (by omega), if_pos hf]
    refine ⟨X, ?_, hSC⟩
    rw [cls2, cls3, B_69_31]
    simp (disch := omega) only [e_iconst, e_bipush, e_sipush, e_istore_n, e_istore, e_astore_n, e_astore, e_iadd, e_isub, e_imul, e_iand, e_ishr, e_idiv, e_i2c, e_dup_i, e_dup_r, e_dup2, e_pop, e_goto, e_nop, e_if_eq, e_if_ne, e_if_lt, e_if_ge, e_if_gt, e_if_le, e_icmp_eq, e_icmp_ne, e_icmp_lt, e_icmp_ge, e_icmp_gt, e_icmp_le, e_tsw, e_ret0, e_ret1, e_retn, e_getI, e_getZ, e_getV, e_getC, e_putI, e_putZ, e_putF, e_gst0, e_gst1, e_sld, e_iald, e_cald, e_bald, e_iast, e_cast, e_aald, e_aast, e_alen, e_slen, e_blen, e_newa, e_newq, e_new, e_oinit, e_ctor, e_virt, e_stat, e_min, e_copy, e_ldc, f_al0, f_il0, f_ii0, f_al1, f_il1, f_ii1, f_al2, f_il2, f_ii2, f_al3, f_il3, f_ii3, f_al4, f_il4, f_ii4, f_al5, f_il5, f_ii5, f_al6, f_il6, f_ii6, f_al7, f_il7, f_ii7, f_al8, f_il8, f_ii8, f_al9, f_il9, f_ii9, f_getR, List.cons_append, List.nil_append, List.append_nil, List.length_cons, List.length_nil, List.replicate_succ, List.replicate_zero, List.getElem?_cons_zero, List.getElem?_cons_succ, List.set_cons_zero, List.set_cons_succ, List.take_succ_cons, List.take_zero, List.drop_succ_cons, List.drop_zero, List.reverse_cons, List.reverse_nil, Option.toList_some, Option.toList_none, Nat.reduceSub, Nat.reduceAdd, Nat.reduceLeDiff, true_and, and_true, and_self, Option.some.injEq, exists_eq_left', Nat.zero_add, Value.int.injEq, Value.ref.injEq, List.cons.injEq, exists_and_left, and_assoc, exists_eq_left, List.all_cons, List.all_nil, m1_i, m1_r, Bool.and_self, Bool.and_true, bk_69_31, n_sub, o_le_l, e2, not_true_eq_false, not_false_eq_true, or_true, true_or, or_false, false_or, false_and, and_false, Nat.reduceEqDiff, Nat.reduceLT, Nat.reduceMul, Nat.not_lt_zero, Nat.zero_le, Nat.le_refl, ne_eq, ↓reduceIte, reduceCtorEq]
  have e2 : t - 8 ≤ 30 := by omega
  rw [if_neg (by omega)]
  obtain ⟨h00, h01⟩ := k0A rfl
  subst h00
  subst h01
  obtain ⟨R1, I1, w1, w2⟩ := write_act (s := s) (c := t - 8) (q := 8) hs e2 (by omega) (fun j hj => hx.2.2.2.2.2.2.2.2.2.2.2 (8 + j) (by omega) (by omega)) (REL_scr hrel hSC) (rW_out hwA (fun x p1 p2 => x1 x (by omega)))
  refine ⟨R1, I1, ?_, w2⟩
  rw [cls2, cls3, B_69_31]
  simp (disch := omega) only [e_iconst, e_bipush, e_sipush, e_istore_n, e_istore, e_astore_n, e_astore, e_iadd, e_isub, e_imul, e_iand, e_ishr, e_idiv, e_i2c, e_dup_i, e_dup_r, e_dup2, e_pop, e_goto, e_nop, e_if_eq, e_if_ne, e_if_lt, e_if_ge, e_if_gt, e_if_le, e_icmp_eq, e_icmp_ne, e_icmp_lt, e_icmp_ge, e_icmp_gt, e_icmp_le, e_tsw, e_ret0, e_ret1, e_retn, e_getI, e_getZ, e_getV, e_getC, e_putI, e_putZ, e_putF, e_gst0, e_gst1, e_sld, e_iald, e_cald, e_bald, e_iast, e_cast, e_aald, e_aast, e_alen, e_slen, e_blen, e_newa, e_newq, e_new, e_oinit, e_ctor, e_virt, e_stat, e_min, e_copy, e_ldc, f_al0, f_il0, f_ii0, f_al1, f_il1, f_ii1, f_al2, f_il2, f_ii2, f_al3, f_il3, f_ii3, f_al4, f_il4, f_ii4, f_al5, f_il5, f_ii5, f_al6, f_il6, f_ii6, f_al7, f_il7, f_ii7, f_al8, f_il8, f_ii8, f_al9, f_il9, f_ii9, f_getR, List.cons_append, List.nil_append, List.append_nil, List.length_cons, List.length_nil, List.replicate_succ, List.replicate_zero, List.getElem?_cons_zero, List.getElem?_cons_succ, List.set_cons_zero, List.set_cons_succ, List.take_succ_cons, List.take_zero, List.drop_succ_cons, List.drop_zero, List.reverse_cons, List.reverse_nil, Option.toList_some, Option.toList_none, Nat.reduceSub, Nat.reduceAdd, Nat.reduceLeDiff, true_and, and_true, and_self, Option.some.injEq, exists_eq_left', Nat.zero_add, Value.int.injEq, Value.ref.injEq, List.cons.injEq, exists_and_left, and_assoc, exists_eq_left, List.all_cons, List.all_nil, m1_i, m1_r, Bool.and_self, Bool.and_true, bk_69_31, n_sub, o_le_l, e2, not_true_eq_false, not_false_eq_true, or_true, true_or, or_false, false_or, false_and, and_false, Nat.reduceEqDiff, Nat.reduceLT, Nat.reduceMul, Nat.not_lt_zero, Nat.zero_le, Nat.le_refl, ne_eq, ↓reduceIte, reduceCtorEq]
  refine Ev_mono ?_ w1
  rintro v k ⟨rfl, rfl⟩
  simp (disch := omega) only [e_iconst, e_bipush, e_sipush, e_istore_n, e_istore, e_astore_n, e_astore, e_iadd, e_isub, e_imul, e_iand, e_ishr, e_idiv, e_i2c, e_dup_i, e_dup_r, e_dup2, e_pop, e_goto, e_nop, e_if_eq, e_if_ne, e_if_lt, e_if_ge, e_if_gt, e_if_le, e_icmp_eq, e_icmp_ne, e_icmp_lt, e_icmp_ge, e_icmp_gt, e_icmp_le, e_tsw, e_ret0, e_ret1, e_retn, e_getI, e_getZ, e_getV, e_getC, e_putI, e_putZ, e_putF, e_gst0, e_gst1, e_sld, e_iald, e_cald, e_bald, e_iast, e_cast, e_aald, e_aast, e_alen, e_slen, e_blen, e_newa, e_newq, e_new, e_oinit, e_ctor, e_virt, e_stat, e_min, e_copy, e_ldc, f_al0, f_il0, f_ii0, f_al1, f_il1, f_ii1, f_al2, f_il2, f_ii2, f_al3, f_il3, f_ii3, f_al4, f_il4, f_ii4, f_al5, f_il5, f_ii5, f_al6, f_il6, f_ii6, f_al7, f_il7, f_ii7, f_al8, f_il8, f_ii8, f_al9, f_il9, f_ii9, f_getR, List.cons_append, List.nil_append, List.append_nil, List.length_cons, List.length_nil, List.replicate_succ, List.replicate_zero, List.getElem?_cons_zero, List.getElem?_cons_succ, List.set_cons_zero, List.set_cons_succ, List.take_succ_cons, List.take_zero, List.drop_succ_cons, List.drop_zero, List.reverse_cons, List.reverse_nil, Option.toList_some, Option.toList_none, Nat.reduceSub, Nat.reduceAdd, Nat.reduceLeDiff, true_and, and_true, and_self, Option.some.injEq, exists_eq_left', Nat.zero_add, Value.int.injEq, Value.ref.injEq, List.cons.injEq, exists_and_left, and_assoc, exists_eq_left, List.all_cons, List.all_nil, m1_i, m1_r, Bool.and_self, Bool.and_true, not_true_eq_false, not_false_eq_true, or_true, true_or, or_false, false_or, false_and, and_false, Nat.reduceEqDiff, Nat.reduceLT, Nat.reduceMul, Nat.not_lt_zero, Nat.zero_le, Nat.le_refl, ne_eq, ↓reduceIte, reduceCtorEq]
