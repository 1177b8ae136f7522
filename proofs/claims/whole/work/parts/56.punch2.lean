/-! punch: the act, the op -/
set_option maxHeartbeats 8000000 in
theorem punch_act {s cl c : Nat} {y : Int32} (hs : s < 6) : ∀ K R I, REL K R I → rW I (7 + 4 * s) (I 195) s 1 cl c → (∀ i, i < c → I 187 i = nbR (I 195) s c y i) → (∀ i, i < c → nbR (I 195) s c y i ≠ -1) → I 186 1 = nI (cnt (pMi (nbR (I 195) s c y) (trR (I 195) s)) c) →
    ∃ R1 I1, Ev 65 (mB 65 62) [.ref 0, .int (nI s), .int y, .ref (7 + 4 * s)] [] (K, R, I) (fun v k => v = some (.int (nI (cnt (pMi (nbR (I 195) s c y) (trR (I 195) s)) c))) ∧ k = (K, R1, I1)) ∧ zM K R1 ∧ (∀ x, 194 ≤ x → I1 x = I x) ∧ ∀ J, SCR I1 J → Ev 112 (mB 112 59) [.ref 194, .int (nI s), .int y, .null, .null] [] (K, R1, rdC J s c y c) (OPo K (nI (cnt (pMi (nbR (I 195) s c y) (trR (I 195) s)) c))) := by
  intro K R I hrel
  obtain ⟨f, n, g, hv, hn2, hn, hk, hH, hP, hT⟩ := id hrel
  have q4 := qTu_lt g hn2
  obtain ⟨gm, gs, -, gh, gw, gr, gr', ⟨a0, a1, a2, a3, a4, a5, a6, a7, a8⟩, ⟨b0, b1, b2⟩, cc0⟩ := id g
  have gs0 : K.2.2.1 1 = (1, 4) := gs.1
  have gs1 : R 1 0 = some 2 := gs.2.1
  have gs2 : K.2.2.1 2 = (4, 6) := gs.2.2.1
  have gs3 : R 1 1 = some 3 := gs.2.2.2.1
  have gs4 : zL K R 3 := gs.2.2.2.2.1
  have gW : ∀ s, s < 6 → zW K R (7 + 4 * s) := fun s hs => (gs.2.2.2.2.2.2 s hs).2
  have gR : ∀ s, s < 6 → R 2 s = some (7 + 4 * s) := fun s hs => (gs.2.2.2.2.2.2 s hs).1
  have gh0 := gh.1
  have gsl : K.2.2.1 3 = (1, 2) := gs4.1
  obtain ⟨m0, m1, m2, m3, m4, m5, m6, m7, m8, m9, m10, m11, m12, m13, m14⟩ := id gm
  have gT := zG_tu (n := n) g
  have gmt : zM K (RTu R n) := gT.1
  have gst : zS K (RTu R n) 1 := gT.2.1
  have gt1 : RTu R n 1 0 = some 2 := gst.2.1
  have gt3 : RTu R n 1 1 = some 3 := gst.2.2.2.1
  have gt4 : zL K (RTu R n) 3 := gst.2.2.2.2.1
  have gWt : ∀ s, s < 6 → zW K (RTu R n) (7 + 4 * s) := fun s hs => (gst.2.2.2.2.2.2 s hs).2
  have gRt : ∀ s, s < 6 → RTu R n 2 s = some (7 + 4 * s) := fun s hs => (gst.2.2.2.2.2.2 s hs).1
  obtain ⟨-, m1t, -⟩ := id gmt
  obtain ⟨-, a1t, a2t, a3t, a4t, a5t, a6t, a7t, a8t⟩ := gT.2.2.2.2.2.2.2.1
  intro hw h7 hu h86
  have hV := rW_V hw
  obtain ⟨wf, vf, k0, k1, k2, k3, k4, k5⟩ := id hw
  obtain ⟨f1, f2, f3, f4, f5, f6⟩ := id wf
  obtain ⟨v1, v2, v3, -⟩ := id vf
  have zwt := gWt s hs
  have zw0 : K.2.2.1 (7 + 4 * s) = (1, 6) := zwt.1
  obtain ⟨e2, e3, e4, e5, e6, e7, e8, e9, e10, ln, l1, l2, l3, l4⟩ := id hv.2
  have grz := gr.1
  have gra := gr.2.1
  have grt := gT.2.2.2.2.2.1
  have grr : RTu R n 186 0 = some 187 := grt.2.2.1
  generalize hmis : cnt (pMi (nbR (I 195) s c y) (trR (I 195) s)) c = mis at h86 ⊢
  obtain ⟨q, hq0⟩ : ∃ q, nbR (I 195) s c y = q := ⟨_, rfl⟩
  have hq : ∀ i, i < c → ∃ t, t < 8 ∧ q i = nI t := by
    intro i hi
    rw [← hq0]
    exact (nbR_c (I 195) s c y i).resolve_left (hu i hi)
  -- the class
  obtain ⟨P, hPd⟩ : ∃ P, cPu (hRm I (qTu f n) n) (7 + 4 * s) 187 cl c = P := ⟨_, rfl⟩
  have pO : ∀ x j, x < 7 + 4 * s ∨ 7 + 4 * s + 3 < x ∨ (x = 7 + 4 * s ∧ j ≠ 4 ∧ j ≠ 6) → P x j = hRm I (qTu f n) n x j := fun x j h => by rw [← hPd]; exact cPu_o h
  have p4 : P (7 + 4 * s) 4 = nI cl := by rw [← hPd]; exact cPu_4 f5 (by rw [hRm_l (by omega)]; exact f2)
  have p6 : P (7 + 4 * s) 6 = 0 := by rw [← hPd]; exact cPu_6
  have pg : ∀ j, j < c + 1 + cl → P (7 + 4 * s + 1) j = nomQ q c j ∧ P (7 + 4 * s + 2) j = nomQ q c j := by
    intro j hj
    have h7' : ∀ i, i < c → hRm I (qTu f n) n 187 i = q i := fun i hi => by rw [hRm_o (by omega) (by omega), ← hq0]; exact h7 i hi
    rw [← hPd]
    exact ⟨cPu_g (Or.inl rfl) (by omega) h7' hj f5, cPu_g (Or.inr rfl) (by omega) h7' hj f5⟩
  have pt0 : P (7 + 4 * s + 3) 0 = -1 := by rw [← hPd]; exact cPu_t0
  have pt : ∀ i, i < c → P (7 + 4 * s + 3) (i + 1) = I (7 + 4 * s + 3) (i + 1) := fun i hi => by rw [← hPd, cPu_t hi, hRm_l (by omega)]
  have pte : cl = 1 → P (7 + 4 * s + 3) (c + 1) = -1 := fun e => by rw [← hPd, e]; exact cPu_te
  have pOl : ∀ x j, x < 31 → (x < 7 + 4 * s ∨ 7 + 4 * s + 3 < x ∨ (x = 7 + 4 * s ∧ j ≠ 4 ∧ j ≠ 6)) → P x j = I x j := fun x j h h2 => by rw [pO x j h2, hRm_l h]
  have wfH : wF (hRm I (qTu f n) n) (7 + 4 * s) 1 cl c := by unfold wF; rw [hRm_l (by omega)]; exact wf
  have wfP : wF P (7 + 4 * s) 1 cl c := ⟨by rw [pOl _ _ (by omega) (by omega)]; exact f1, p4, by rw [pOl _ _ (by omega) (by omega)]; exact f3, f4, f5, f6⟩
  have hpa : ∀ {Q : Option Value → mH → Prop}, EvM 50 [.ref (7 + 4 * s), .ref 187] (K, RTu R n, hRm I (qTu f n) n) Q ↔ Q none (K, RTu R n, P) := by
    intro Q
    rw [← hPd]
    exact m_punchAll zwt wfH gra (by omega)
  have hsm : sm (P (7 + 4 * s + 2)) (ngp 1 cl c) = sm (nomQ q c) (c + 1 + cl) := sm_cg _ (fun j hj => (pg j hj).2)
  have p15 : P 1 5 = I 195 591 := by rw [pOl _ _ (by omega) (by omega)]; exact e5
  have p33 : P 3 3 = nI ln := by rw [pOl _ _ (by omega) (by omega)]; exact l2
  have p86 : P 186 1 = nI mis := by rw [pO _ _ (by omega), hRm_o (by omega) (by omega)]; exact h86
  refine ⟨RTu R n, lAd (mSet P 1 5 (I 195 591 + sm (nomQ q c) (c + 1 + cl))) 3 ln 6 (nI s) y, ?_, gmt, fun x hx => by funext j; simp (disch := omega) only [lAd_o, s_ne, pO, hRm_o], fun J0 hJ0 => ?_⟩
  · rw [B_65_62]
    simp (disch := omega) only [e_iconst, e_bipush, e_sipush, e_iload_n, e_iload, e_aload_n, e_aload, e_istore_n, e_istore, e_astore_n, e_astore, e_iinc, e_iadd, e_isub, e_imul, e_iand, e_ishr, e_idiv, e_i2c, e_dup_i, e_dup_r, e_dup2, e_pop, e_goto, e_nop, e_if_eq, e_if_ne, e_if_lt, e_if_ge, e_if_gt, e_if_le, e_icmp_eq, e_icmp_ne, e_icmp_lt, e_icmp_ge, e_icmp_gt, e_icmp_le, e_tsw, e_ret0, e_ret1, e_retn, e_getI, e_getZ, e_getR, e_getV, e_getC, e_putI, e_putZ, e_putF, e_gst0, e_gst1, e_sld, e_iald, e_cald, e_bald, e_iast, e_cast, e_aald, e_aast, e_alen, e_slen, e_blen, e_newa, e_newq, e_new, e_oinit, e_ctor, e_virt, e_stat, e_min, e_copy, e_ldc, List.cons_append, List.nil_append, List.append_nil, List.length_cons, List.length_nil, List.replicate_succ, List.replicate_zero, List.getElem?_cons_zero, List.getElem?_cons_succ, List.set_cons_zero, List.set_cons_succ, List.take_succ_cons, List.take_zero, List.drop_succ_cons, List.drop_zero, List.reverse_cons, List.reverse_nil, Option.toList_some, Option.toList_none, Nat.reduceSub, Nat.reduceAdd, Nat.reduceLeDiff, true_and, and_true, and_self, Option.some.injEq, exists_eq_left', Nat.zero_add, Value.int.injEq, Value.ref.injEq, List.cons.injEq, exists_and_left, and_assoc, exists_eq_left, bk_65_62, a0, a1, a2, a1t, a6t, gs0, gh0, grz, grr, zw0, gt3, gsl, C_9, C_50, C_54, C_14, a_remember g hv hn hn2, hpa, m_sumOfNominals zwt wfP, hsm, p15, if_pos, if_neg, not_true_eq_false, not_false_eq_true, or_true, true_or, or_false, false_or, false_and, and_false, Nat.reduceEqDiff, Nat.reduceLT, Nat.reduceMul, Nat.not_lt_zero, Nat.zero_le, Nat.le_refl, ne_eq, reduceIte, reduceCtorEq]
    rw [m_logAdd gt4 (n := ln) ?_ l1]
    · simp (disch := omega) only [e_iconst, e_bipush, e_sipush, e_iload_n, e_iload, e_aload_n, e_aload, e_istore_n, e_istore, e_astore_n, e_astore, e_iinc, e_iadd, e_isub, e_imul, e_iand, e_ishr, e_idiv, e_i2c, e_dup_i, e_dup_r, e_dup2, e_pop, e_goto, e_nop, e_if_eq, e_if_ne, e_if_lt, e_if_ge, e_if_gt, e_if_le, e_icmp_eq, e_icmp_ne, e_icmp_lt, e_icmp_ge, e_icmp_gt, e_icmp_le, e_tsw, e_ret0, e_ret1, e_retn, e_getI, e_getZ, e_getR, e_getV, e_getC, e_putI, e_putZ, e_putF, e_gst0, e_gst1, e_sld, e_iald, e_cald, e_bald, e_iast, e_cast, e_aald, e_aast, e_alen, e_slen, e_blen, e_newa, e_newq, e_new, e_oinit, e_ctor, e_virt, e_stat, e_min, e_copy, e_ldc, List.cons_append, List.nil_append, List.append_nil, List.length_cons, List.length_nil, List.replicate_succ, List.replicate_zero, List.getElem?_cons_zero, List.getElem?_cons_succ, List.set_cons_zero, List.set_cons_succ, List.take_succ_cons, List.take_zero, List.drop_succ_cons, List.drop_zero, List.reverse_cons, List.reverse_nil, Option.toList_some, Option.toList_none, Nat.reduceSub, Nat.reduceAdd, Nat.reduceLeDiff, true_and, and_true, and_self, Option.some.injEq, exists_eq_left', Nat.zero_add, Value.int.injEq, Value.ref.injEq, List.cons.injEq, exists_and_left, and_assoc, exists_eq_left, a0, a6t, grz, lAd_o, s_ne, p86, if_pos, if_neg, not_true_eq_false, not_false_eq_true, or_true, true_or, or_false, false_or, false_and, and_false, Nat.reduceEqDiff, Nat.reduceLT, Nat.reduceMul, Nat.not_lt_zero, Nat.zero_le, Nat.le_refl, ne_eq, reduceIte, reduceCtorEq]
    · simp (disch := omega) only [s_ne]; exact p33
  · have hJ := SCR_rdC (s := s) (c := c) (k := c) (way := y) hJ0
    have i5 : J0 195 = I 195 := by rw [SCR_row hJ0 (by omega)]; funext j; simp (disch := omega) only [lAd_o, s_ne, pO, hRm_o]
    have vj : vF (J0 195) s 1 cl c := by rw [i5]; exact vf
    have vV : okV (J0 195) s cl c := by rw [i5]; exact hV
    have hwr := fun (Q : Option Value → mH → Prop) => r_wr (what := 0) (way := y) (Q := Q) gmt hs vj vV
    have hcd : ∀ i, i < c → rdC J0 s c y c 199 i = q i := by
      intro i hi
      obtain ⟨t, t1, t2⟩ := hq i hi
      rw [rdC_i hi, i5, show rdN (vL (I 195) s) 0 c y i = q i by rw [← hq0]; rfl, t2, ec_n (by omega)]
    generalize rdC J0 s c y c = J at hJ hwr hcd ⊢
    have j5 : J 195 = I 195 := by rw [SCR_row hJ (by omega)]; funext j; simp (disch := omega) only [lAd_o, s_ne, pO, hRm_o]
    have j2 : J 194 2 = nI n := by rw [SCR_m hJ (by omega)]; simp (disch := omega) only [lAd_o, s_ne, pO, hRm_o]; exact hk
    have jr : rRec J n 195 = I 195 := by rw [rRec_o (by omega)]; exact j5
    rw [i5, hq0] at hwr
    rw [hq0] at hmis
    rw [B_112_59]
    simp (disch := omega) only [e_iconst, e_bipush, e_sipush, e_iload_n, e_iload, e_aload_n, e_aload, e_istore_n, e_istore, e_astore_n, e_astore, e_iinc, e_iadd, e_isub, e_imul, e_iand, e_ishr, e_idiv, e_i2c, e_dup_i, e_dup_r, e_dup2, e_pop, e_goto, e_nop, e_if_eq, e_if_ne, e_if_lt, e_if_ge, e_if_gt, e_if_le, e_icmp_eq, e_icmp_ne, e_icmp_lt, e_icmp_ge, e_icmp_gt, e_icmp_le, e_tsw, e_ret0, e_ret1, e_retn, e_getI, e_getZ, e_getR, e_getV, e_getC, e_putI, e_putZ, e_putF, e_gst0, e_gst1, e_sld, e_iald, e_cald, e_bald, e_iast, e_cast, e_aald, e_aast, e_alen, e_slen, e_blen, e_newa, e_newq, e_new, e_oinit, e_ctor, e_virt, e_stat, e_min, e_copy, e_ldc, List.cons_append, List.nil_append, List.append_nil, List.length_cons, List.length_nil, List.replicate_succ, List.replicate_zero, List.getElem?_cons_zero, List.getElem?_cons_succ, List.set_cons_zero, List.set_cons_succ, List.take_succ_cons, List.take_zero, List.drop_succ_cons, List.drop_zero, List.reverse_cons, List.reverse_nil, Option.toList_some, Option.toList_none, Nat.reduceSub, Nat.reduceAdd, Nat.reduceLeDiff, true_and, and_true, and_self, Option.some.injEq, exists_eq_left', Nat.zero_add, Value.int.injEq, Value.ref.injEq, List.cons.injEq, exists_and_left, and_assoc, exists_eq_left, bk_112_59, m0, C_110, C_95, C_99, hwr, wrR_0, hmis, r_record gmt j2 hn2, r_punches0 gmt hs, jr, if_pos, if_neg, not_true_eq_false, not_false_eq_true, or_true, true_or, or_false, false_or, false_and, and_false, Nat.reduceEqDiff, Nat.reduceLT, Nat.reduceMul, Nat.not_lt_zero, Nat.zero_le, Nat.le_refl, ne_eq, reduceIte, reduceCtorEq]
    have r1 := vPn_s (v := I 195) (s := s) (nom := nomQ q c) (m := 0) hs (by omega)
    rw [vPn_0 hs, nomQ_0] at r1
    have main : Ev 112 (mB 112 82) [.ref 194, .int (nI s), .int y, .int (nI mis), .int 0] [] (K, RTu R n, rSet (rRec J n) 195 (vPn (rRec J n 195) s (nomQ q c) 1)) (OPo K (nI mis)) := by
      refine r_pun (ln := ln) (cl := cl) gmt hs (by rw [jr]; exact v2) f5 (by rw [jr]; exact v3) f6 (fun i hi => by rw [rRec_o (by omega)]; exact hcd i hi) (by rw [jr]; exact l3) l1 ?_
      rw [jr]
      refine OPo_act g hv hn2 hH hP hT (fun x x1 x2 => by funext j; simp (disch := omega) only [lAd_o, s_ne, pO]) (by funext j; simp (disch := omega) only [lAd_o, s_ne, pO, hRm_o]) (fun x hx => by funext j; simp (disch := omega) only [lAd_o, s_ne, pO, hRm_o]) ?_ hJ
      refine RC_upd (fun z => z = s) hv (fun z _ hz => ?_) (fun z hz1 hz2 => ⟨fun d hd => ?_, fun x x1 x2 => ?_⟩) ?_
      · subst hz
        have hng : ngp 1 cl c = c + 1 + cl := rfl
        refine ⟨1, cl, c, ⟨?_, ?_, ?_, by omega, f5, f6⟩, ⟨?_, ?_, ?_, by omega, f5, f6⟩, fun q => absurd q (by omega), fun _ => ?_, fun _ => ?_, fun k hk => ?_, fun i hi => ?_, fun e => ?_⟩
        · simp (disch := omega) only [lAd_o, s_ne, pOl]; exact f1
        · simp (disch := omega) only [lAd_o, s_ne]; exact p4
        · simp (disch := omega) only [lAd_o, s_ne, pOl]; exact f3
        · simp (disch := omega) only [vTl_o, u_ne, vPn_o]; exact v1
        · simp (disch := omega) only [vTl_o, u_ne, vPn_o]; exact v2
        · simp (disch := omega) only [vTl_o, u_ne, vPn_o]; exact v3
        · simp (disch := omega) only [lAd_o, s_ne, vTl_o, u_eq]; exact p6
        · simp (disch := omega) only [lAd_o, s_ne]; exact pt0
        · rw [hng] at hk
          simp (disch := omega) only [lAd_o, s_ne, vTl_o, u_ne, vPn_l, vPn_n]
          exact ⟨(pg k hk).1, (pg k hk).2, nomQ_ok hq⟩
        · simp (disch := omega) only [lAd_o, s_ne, vTl_o, u_ne, vPn_o, pt]; exact k4 i hi
        · simp (disch := omega) only [lAd_o, s_ne]; exact pte e
      · funext j; simp (disch := omega) only [lAd_o, s_ne, pOl]
      · simp (disch := omega) only [vTl_o, u_ne, vPn_o]
      · refine rE_mk ?_ ?_ ?_ ?_ ?_ ?_ ?_ ?_ ?_ (rL_add l1 ?_ ?_ (fun e he => ?_)) <;> simp (disch := omega) only [lAd_o, s_ne, s_eq, pOl, vTl_o, u_ne, u_eq, vPn_o, vPn_u, e2, e3, e4, e5, e6, e7, e8]
        · exact e9
        · exact e10
        · exact l2
        · exact l3
        · exact l4 e he
    rw [jr] at main
    rw [show (0 + 1) = 1 from rfl] at r1
    rw [← r1] at main
    exact main
set_option maxHeartbeats 8000000 in
theorem op_punch (x y : Int32) : OPx 65 112 [.int x, .int y] := by
  intro K R I hrel
  obtain ⟨f, n, g, hv, hn2, hn, hk, hH, hP, hT⟩ := id hrel
  have q4 := qTu_lt g hn2
  obtain ⟨gm, gs, -, gh, gw, gr, gr', ⟨a0, a1, a2, a3, a4, a5, a6, a7, a8⟩, ⟨b0, b1, b2⟩, cc0⟩ := id g
  have gs0 : K.2.2.1 1 = (1, 4) := gs.1
  have gs1 : R 1 0 = some 2 := gs.2.1
  have gs2 : K.2.2.1 2 = (4, 6) := gs.2.2.1
  have gs3 : R 1 1 = some 3 := gs.2.2.2.1
  have gs4 : zL K R 3 := gs.2.2.2.2.1
  have gW : ∀ s, s < 6 → zW K R (7 + 4 * s) := fun s hs => (gs.2.2.2.2.2.2 s hs).2
  have gR : ∀ s, s < 6 → R 2 s = some (7 + 4 * s) := fun s hs => (gs.2.2.2.2.2.2 s hs).1
  have gh0 := gh.1
  have gsl : K.2.2.1 3 = (1, 2) := gs4.1
  obtain ⟨m0, m1, m2, m3, m4, m5, m6, m7, m8, m9, m10, m11, m12, m13, m14⟩ := id gm
  have gT := zG_tu (n := n) g
  have gmt : zM K (RTu R n) := gT.1
  have gst : zS K (RTu R n) 1 := gT.2.1
  have gt1 : RTu R n 1 0 = some 2 := gst.2.1
  have gt3 : RTu R n 1 1 = some 3 := gst.2.2.2.1
  have gt4 : zL K (RTu R n) 3 := gst.2.2.2.2.1
  have gWt : ∀ s, s < 6 → zW K (RTu R n) (7 + 4 * s) := fun s hs => (gst.2.2.2.2.2.2 s hs).2
  have gRt : ∀ s, s < 6 → RTu R n 2 s = some (7 + 4 * s) := fun s hs => (gst.2.2.2.2.2.2 s hs).1
  obtain ⟨-, m1t, -⟩ := id gmt
  obtain ⟨-, a1t, a2t, a3t, a4t, a5t, a6t, a7t, a8t⟩ := gT.2.2.2.2.2.2.2.1
  rcases sp_cases x (n := 6) (by omega) with ⟨s, hs, rfl⟩ | q
  rotate_left
  · refine ⟨-1, R, I, ?_, ⟨gm, fun _ _ => rfl⟩, fun J hJ => ?_⟩
    · simp (disch := omega) only [e_iconst, e_bipush, e_sipush, e_iload_n, e_iload, e_aload_n, e_aload, e_istore_n, e_istore, e_astore_n, e_astore, e_iinc, e_iadd, e_isub, e_imul, e_iand, e_ishr, e_idiv, e_i2c, e_dup_i, e_dup_r, e_dup2, e_pop, e_goto, e_nop, e_if_eq, e_if_ne, e_if_lt, e_if_ge, e_if_gt, e_if_le, e_icmp_eq, e_icmp_ne, e_icmp_lt, e_icmp_ge, e_icmp_gt, e_icmp_le, e_tsw, e_ret0, e_ret1, e_retn, e_getI, e_getZ, e_getR, e_getV, e_getC, e_putI, e_putZ, e_putF, e_gst0, e_gst1, e_sld, e_iald, e_cald, e_bald, e_iast, e_cast, e_aald, e_aast, e_alen, e_slen, e_blen, e_newa, e_newq, e_new, e_oinit, e_ctor, e_virt, e_stat, e_min, e_copy, e_ldc, List.cons_append, List.nil_append, List.append_nil, List.length_cons, List.length_nil, List.replicate_succ, List.replicate_zero, List.getElem?_cons_zero, List.getElem?_cons_succ, List.set_cons_zero, List.set_cons_succ, List.take_succ_cons, List.take_zero, List.drop_succ_cons, List.drop_zero, List.reverse_cons, List.reverse_nil, Option.toList_some, Option.toList_none, Nat.reduceSub, Nat.reduceAdd, Nat.reduceLeDiff, true_and, and_true, and_self, Option.some.injEq, exists_eq_left', Nat.zero_add, Value.int.injEq, Value.ref.injEq, List.cons.injEq, exists_and_left, and_assoc, exists_eq_left, E_in 65, N_65, B_65_0, bk_65_0, C_82, m_noSp q, if_pos, if_neg, not_true_eq_false, not_false_eq_true, or_true, true_or, or_false, false_or, false_and, and_false, Nat.reduceEqDiff, Nat.reduceLT, Nat.reduceMul, Nat.not_lt_zero, Nat.zero_le, Nat.le_refl, ne_eq, reduceIte, reduceCtorEq]
    · simp (disch := omega) only [e_iconst, e_bipush, e_sipush, e_iload_n, e_iload, e_aload_n, e_aload, e_istore_n, e_istore, e_astore_n, e_astore, e_iinc, e_iadd, e_isub, e_imul, e_iand, e_ishr, e_idiv, e_i2c, e_dup_i, e_dup_r, e_dup2, e_pop, e_goto, e_nop, e_if_eq, e_if_ne, e_if_lt, e_if_ge, e_if_gt, e_if_le, e_icmp_eq, e_icmp_ne, e_icmp_lt, e_icmp_ge, e_icmp_gt, e_icmp_le, e_tsw, e_ret0, e_ret1, e_retn, e_getI, e_getZ, e_getR, e_getV, e_getC, e_putI, e_putZ, e_putF, e_gst0, e_gst1, e_sld, e_iald, e_cald, e_bald, e_iast, e_cast, e_aald, e_aast, e_alen, e_slen, e_blen, e_newa, e_newq, e_new, e_oinit, e_ctor, e_virt, e_stat, e_min, e_copy, e_ldc, List.cons_append, List.nil_append, List.append_nil, List.length_cons, List.length_nil, List.replicate_succ, List.replicate_zero, List.getElem?_cons_zero, List.getElem?_cons_succ, List.set_cons_zero, List.set_cons_succ, List.take_succ_cons, List.take_zero, List.drop_succ_cons, List.drop_zero, List.reverse_cons, List.reverse_nil, Option.toList_some, Option.toList_none, Nat.reduceSub, Nat.reduceAdd, Nat.reduceLeDiff, true_and, and_true, and_self, Option.some.injEq, exists_eq_left', Nat.zero_add, Value.int.injEq, Value.ref.injEq, List.cons.injEq, exists_and_left, and_assoc, exists_eq_left, E_in 112, N_112, B_112_0, bk_112_0, C_90, r_noSp q, o_eq, if_pos, if_neg, not_true_eq_false, not_false_eq_true, or_true, true_or, or_false, false_or, false_and, and_false, Nat.reduceEqDiff, Nat.reduceLT, Nat.reduceMul, Nat.not_lt_zero, Nat.zero_le, Nat.le_refl, ne_eq, reduceIte, reduceCtorEq]
      exact OPo_same hrel hJ
  by_cases cy : y < 0 ∨ 2 < y
  · refine ⟨-2, R, I, ?_, ⟨gm, fun _ _ => rfl⟩, fun J hJ => ?_⟩
    · simp (disch := omega) only [e_iconst, e_bipush, e_sipush, e_iload_n, e_iload, e_aload_n, e_aload, e_istore_n, e_istore, e_astore_n, e_astore, e_iinc, e_iadd, e_isub, e_imul, e_iand, e_ishr, e_idiv, e_i2c, e_dup_i, e_dup_r, e_dup2, e_pop, e_goto, e_nop, e_if_eq, e_if_ne, e_if_lt, e_if_ge, e_if_gt, e_if_le, e_icmp_eq, e_icmp_ne, e_icmp_lt, e_icmp_ge, e_icmp_gt, e_icmp_le, e_tsw, e_ret0, e_ret1, e_retn, e_getI, e_getZ, e_getR, e_getV, e_getC, e_putI, e_putZ, e_putF, e_gst0, e_gst1, e_sld, e_iald, e_cald, e_bald, e_iast, e_cast, e_aald, e_aast, e_alen, e_slen, e_blen, e_newa, e_newq, e_new, e_oinit, e_ctor, e_virt, e_stat, e_min, e_copy, e_ldc, List.cons_append, List.nil_append, List.append_nil, List.length_cons, List.length_nil, List.replicate_succ, List.replicate_zero, List.getElem?_cons_zero, List.getElem?_cons_succ, List.set_cons_zero, List.set_cons_succ, List.take_succ_cons, List.take_zero, List.drop_succ_cons, List.drop_zero, List.reverse_cons, List.reverse_nil, Option.toList_some, Option.toList_none, Nat.reduceSub, Nat.reduceAdd, Nat.reduceLeDiff, true_and, and_true, and_self, Option.some.injEq, exists_eq_left', Nat.zero_add, Value.int.injEq, Value.ref.injEq, List.cons.injEq, exists_and_left, and_assoc, exists_eq_left, E_in 65, N_65, B_65_0, bk_65_0, B_65_9, bk_65_9, C_82, C_84, m_isSp hs, m_wayO cy, o_eq, if_pos, if_neg, not_true_eq_false, not_false_eq_true, or_true, true_or, or_false, false_or, false_and, and_false, Nat.reduceEqDiff, Nat.reduceLT, Nat.reduceMul, Nat.not_lt_zero, Nat.zero_le, Nat.le_refl, ne_eq, reduceIte, reduceCtorEq]
    · simp (disch := omega) only [e_iconst, e_bipush, e_sipush, e_iload_n, e_iload, e_aload_n, e_aload, e_istore_n, e_istore, e_astore_n, e_astore, e_iinc, e_iadd, e_isub, e_imul, e_iand, e_ishr, e_idiv, e_i2c, e_dup_i, e_dup_r, e_dup2, e_pop, e_goto, e_nop, e_if_eq, e_if_ne, e_if_lt, e_if_ge, e_if_gt, e_if_le, e_icmp_eq, e_icmp_ne, e_icmp_lt, e_icmp_ge, e_icmp_gt, e_icmp_le, e_tsw, e_ret0, e_ret1, e_retn, e_getI, e_getZ, e_getR, e_getV, e_getC, e_putI, e_putZ, e_putF, e_gst0, e_gst1, e_sld, e_iald, e_cald, e_bald, e_iast, e_cast, e_aald, e_aast, e_alen, e_slen, e_blen, e_newa, e_newq, e_new, e_oinit, e_ctor, e_virt, e_stat, e_min, e_copy, e_ldc, List.cons_append, List.nil_append, List.append_nil, List.length_cons, List.length_nil, List.replicate_succ, List.replicate_zero, List.getElem?_cons_zero, List.getElem?_cons_succ, List.set_cons_zero, List.set_cons_succ, List.take_succ_cons, List.take_zero, List.drop_succ_cons, List.drop_zero, List.reverse_cons, List.reverse_nil, Option.toList_some, Option.toList_none, Nat.reduceSub, Nat.reduceAdd, Nat.reduceLeDiff, true_and, and_true, and_self, Option.some.injEq, exists_eq_left', Nat.zero_add, Value.int.injEq, Value.ref.injEq, List.cons.injEq, exists_and_left, and_assoc, exists_eq_left, E_in 112, N_112, B_112_0, bk_112_0, B_112_9, bk_112_9, C_90, C_89, r_isSp hs, r_rngO cy, o_eq, if_pos, if_neg, not_true_eq_false, not_false_eq_true, or_true, true_or, or_false, false_or, false_and, and_false, Nat.reduceEqDiff, Nat.reduceLT, Nat.reduceMul, Nat.not_lt_zero, Nat.zero_le, Nat.le_refl, ne_eq, reduceIte, reduceCtorEq]
      exact OPo_same hrel hJ
  obtain ⟨pA, clA, cA, hwA⟩ := hv.1 s hs
  rw [show 1 + 6 + 4 * s = 7 + 4 * s by omega] at hwA
  obtain ⟨wfA, vfA, k0A, k1A, k2A, k3A, k4A, k5A⟩ := id hwA
  obtain ⟨f1A, f2A, f3A, f4A, f5A, f6A⟩ := id wfA
  obtain ⟨v1A, v2A, v3A, -⟩ := id vfA
  have zwA := gW s hs
  have zwtA := gWt s hs
  have rwA := gR s hs
  have rwtA := gRt s hs
  have zw0A : K.2.2.1 (7 + 4 * s) = (1, 6) := zwA.1
  have cls : ∀ Q, Ev 65 (mB 65 19) [.ref 0, .int (nI s), .int y, .null] [] (K, R, I) Q = EvM 65 [.ref 0, .int (nI s), .int y] (K, R, I) Q := by
    intro Q
    apply propext
    simp (disch := omega) only [e_iconst, e_bipush, e_sipush, e_iload_n, e_iload, e_aload_n, e_aload, e_istore_n, e_istore, e_astore_n, e_astore, e_iinc, e_iadd, e_isub, e_imul, e_iand, e_ishr, e_idiv, e_i2c, e_dup_i, e_dup_r, e_dup2, e_pop, e_goto, e_nop, e_if_eq, e_if_ne, e_if_lt, e_if_ge, e_if_gt, e_if_le, e_icmp_eq, e_icmp_ne, e_icmp_lt, e_icmp_ge, e_icmp_gt, e_icmp_le, e_tsw, e_ret0, e_ret1, e_retn, e_getI, e_getZ, e_getR, e_getV, e_getC, e_putI, e_putZ, e_putF, e_gst0, e_gst1, e_sld, e_iald, e_cald, e_bald, e_iast, e_cast, e_aald, e_aast, e_alen, e_slen, e_blen, e_newa, e_newq, e_new, e_oinit, e_ctor, e_virt, e_stat, e_min, e_copy, e_ldc, List.cons_append, List.nil_append, List.append_nil, List.length_cons, List.length_nil, List.replicate_succ, List.replicate_zero, List.getElem?_cons_zero, List.getElem?_cons_succ, List.set_cons_zero, List.set_cons_succ, List.take_succ_cons, List.take_zero, List.drop_succ_cons, List.drop_zero, List.reverse_cons, List.reverse_nil, Option.toList_some, Option.toList_none, Nat.reduceSub, Nat.reduceAdd, Nat.reduceLeDiff, true_and, and_true, and_self, Option.some.injEq, exists_eq_left', Nat.zero_add, Value.int.injEq, Value.ref.injEq, List.cons.injEq, exists_and_left, and_assoc, exists_eq_left, E_in 65, N_65, B_65_0, bk_65_0, B_65_9, bk_65_9, C_82, C_84, m_isSp hs, m_wayI cy, o_eq, if_pos, if_neg, not_true_eq_false, not_false_eq_true, or_true, true_or, or_false, false_or, false_and, and_false, Nat.reduceEqDiff, Nat.reduceLT, Nat.reduceMul, Nat.not_lt_zero, Nat.zero_le, Nat.le_refl, ne_eq, reduceIte, reduceCtorEq]
  have ref : ∀ R J Q, Ev 112 (mB 112 21) [.ref 194, .int (nI s), .int y, .null, .null] [] (K, R, J) Q = EvM 112 [.ref 194, .int (nI s), .int y] (K, R, J) Q := by
    intro R J Q
    apply propext
    simp (disch := omega) only [e_iconst, e_bipush, e_sipush, e_iload_n, e_iload, e_aload_n, e_aload, e_istore_n, e_istore, e_astore_n, e_astore, e_iinc, e_iadd, e_isub, e_imul, e_iand, e_ishr, e_idiv, e_i2c, e_dup_i, e_dup_r, e_dup2, e_pop, e_goto, e_nop, e_if_eq, e_if_ne, e_if_lt, e_if_ge, e_if_gt, e_if_le, e_icmp_eq, e_icmp_ne, e_icmp_lt, e_icmp_ge, e_icmp_gt, e_icmp_le, e_tsw, e_ret0, e_ret1, e_retn, e_getI, e_getZ, e_getR, e_getV, e_getC, e_putI, e_putZ, e_putF, e_gst0, e_gst1, e_sld, e_iald, e_cald, e_bald, e_iast, e_cast, e_aald, e_aast, e_alen, e_slen, e_blen, e_newa, e_newq, e_new, e_oinit, e_ctor, e_virt, e_stat, e_min, e_copy, e_ldc, List.cons_append, List.nil_append, List.append_nil, List.length_cons, List.length_nil, List.replicate_succ, List.replicate_zero, List.getElem?_cons_zero, List.getElem?_cons_succ, List.set_cons_zero, List.set_cons_succ, List.take_succ_cons, List.take_zero, List.drop_succ_cons, List.drop_zero, List.reverse_cons, List.reverse_nil, Option.toList_some, Option.toList_none, Nat.reduceSub, Nat.reduceAdd, Nat.reduceLeDiff, true_and, and_true, and_self, Option.some.injEq, exists_eq_left', Nat.zero_add, Value.int.injEq, Value.ref.injEq, List.cons.injEq, exists_and_left, and_assoc, exists_eq_left, E_in 112, N_112, B_112_0, bk_112_0, B_112_9, bk_112_9, C_90, C_89, r_isSp hs, r_rngI cy, o_eq, if_pos, if_neg, not_true_eq_false, not_false_eq_true, or_true, true_or, or_false, false_or, false_and, and_false, Nat.reduceEqDiff, Nat.reduceLT, Nat.reduceMul, Nat.not_lt_zero, Nat.zero_le, Nat.le_refl, ne_eq, reduceIte, reduceCtorEq]
  by_cases cb : pA = 0 ∨ (y = 2 ∧ clA = 0)
  · refine ⟨-4, R, I, ?_, ⟨gm, fun _ _ => rfl⟩, fun J hJ => ?_⟩
    · rw [← cls, B_65_19]
      simp (disch := omega) only [e_iconst, e_bipush, e_sipush, e_iload_n, e_iload, e_aload_n, e_aload, e_istore_n, e_istore, e_astore_n, e_astore, e_iinc, e_iadd, e_isub, e_imul, e_iand, e_ishr, e_idiv, e_i2c, e_dup_i, e_dup_r, e_dup2, e_pop, e_goto, e_nop, e_if_eq, e_if_ne, e_if_lt, e_if_ge, e_if_gt, e_if_le, e_icmp_eq, e_icmp_ne, e_icmp_lt, e_icmp_ge, e_icmp_gt, e_icmp_le, e_tsw, e_ret0, e_ret1, e_retn, e_getI, e_getZ, e_getR, e_getV, e_getC, e_putI, e_putZ, e_putF, e_gst0, e_gst1, e_sld, e_iald, e_cald, e_bald, e_iast, e_cast, e_aald, e_aast, e_alen, e_slen, e_blen, e_newa, e_newq, e_new, e_oinit, e_ctor, e_virt, e_stat, e_min, e_copy, e_ldc, List.cons_append, List.nil_append, List.append_nil, List.length_cons, List.length_nil, List.replicate_succ, List.replicate_zero, List.getElem?_cons_zero, List.getElem?_cons_succ, List.set_cons_zero, List.set_cons_succ, List.take_succ_cons, List.take_zero, List.drop_succ_cons, List.drop_zero, List.reverse_cons, List.reverse_nil, Option.toList_some, Option.toList_none, Nat.reduceSub, Nat.reduceAdd, Nat.reduceLeDiff, true_and, and_true, and_self, Option.some.injEq, exists_eq_left', Nat.zero_add, Value.int.injEq, Value.ref.injEq, List.cons.injEq, exists_and_left, and_assoc, exists_eq_left, bk_65_19, C_40, m_canO zwA wfA cb, a0, a1, gs0, gs1, gs2, zw0A, rwA, n_in, n_cl, true_or, or_true, o_eq, if_pos, if_neg, not_true_eq_false, not_false_eq_true, or_true, true_or, or_false, false_or, false_and, and_false, Nat.reduceEqDiff, Nat.reduceLT, Nat.reduceMul, Nat.not_lt_zero, Nat.zero_le, Nat.le_refl, ne_eq, reduceIte, reduceCtorEq]
    · have j5 : J 195 = I 195 := SCR_row hJ (by omega)
      have vj : vF (J 195) s pA clA cA := by rw [j5]; exact vfA
      rw [← ref, B_112_21]
      rcases (show pA = 0 ∨ pA = 1 by omega) with rfl | rfl
      · simp (disch := omega) only [e_iconst, e_bipush, e_sipush, e_iload_n, e_iload, e_aload_n, e_aload, e_istore_n, e_istore, e_astore_n, e_astore, e_iinc, e_iadd, e_isub, e_imul, e_iand, e_ishr, e_idiv, e_i2c, e_dup_i, e_dup_r, e_dup2, e_pop, e_goto, e_nop, e_if_eq, e_if_ne, e_if_lt, e_if_ge, e_if_gt, e_if_le, e_icmp_eq, e_icmp_ne, e_icmp_lt, e_icmp_ge, e_icmp_gt, e_icmp_le, e_tsw, e_ret0, e_ret1, e_retn, e_getI, e_getZ, e_getR, e_getV, e_getC, e_putI, e_putZ, e_putF, e_gst0, e_gst1, e_sld, e_iald, e_cald, e_bald, e_iast, e_cast, e_aald, e_aast, e_alen, e_slen, e_blen, e_newa, e_newq, e_new, e_oinit, e_ctor, e_virt, e_stat, e_min, e_copy, e_ldc, List.cons_append, List.nil_append, List.append_nil, List.length_cons, List.length_nil, List.replicate_succ, List.replicate_zero, List.getElem?_cons_zero, List.getElem?_cons_succ, List.set_cons_zero, List.set_cons_succ, List.take_succ_cons, List.take_zero, List.drop_succ_cons, List.drop_zero, List.reverse_cons, List.reverse_nil, Option.toList_some, Option.toList_none, Nat.reduceSub, Nat.reduceAdd, Nat.reduceLeDiff, true_and, and_true, and_self, Option.some.injEq, exists_eq_left', Nat.zero_add, Value.int.injEq, Value.ref.injEq, List.cons.injEq, exists_and_left, and_assoc, exists_eq_left, bk_112_21, B_112_38, bk_112_38, m0, C_93, r_isEmpty gm hs, j5, v1A, o_eq_l, o_eq, if_pos, if_neg, not_true_eq_false, not_false_eq_true, or_true, true_or, or_false, false_or, false_and, and_false, Nat.reduceEqDiff, Nat.reduceLT, Nat.reduceMul, Nat.not_lt_zero, Nat.zero_le, Nat.le_refl, ne_eq, reduceIte, reduceCtorEq]
        exact OPo_same hrel hJ
      · have cb' := cb.resolve_left (by omega)
        simp (disch := omega) only [e_iconst, e_bipush, e_sipush, e_iload_n, e_iload, e_aload_n, e_aload, e_istore_n, e_istore, e_astore_n, e_astore, e_iinc, e_iadd, e_isub, e_imul, e_iand, e_ishr, e_idiv, e_i2c, e_dup_i, e_dup_r, e_dup2, e_pop, e_goto, e_nop, e_if_eq, e_if_ne, e_if_lt, e_if_ge, e_if_gt, e_if_le, e_icmp_eq, e_icmp_ne, e_icmp_lt, e_icmp_ge, e_icmp_gt, e_icmp_le, e_tsw, e_ret0, e_ret1, e_retn, e_getI, e_getZ, e_getR, e_getV, e_getC, e_putI, e_putZ, e_putF, e_gst0, e_gst1, e_sld, e_iald, e_cald, e_bald, e_iast, e_cast, e_aald, e_aast, e_alen, e_slen, e_blen, e_newa, e_newq, e_new, e_oinit, e_ctor, e_virt, e_stat, e_min, e_copy, e_ldc, List.cons_append, List.nil_append, List.append_nil, List.length_cons, List.length_nil, List.replicate_succ, List.replicate_zero, List.getElem?_cons_zero, List.getElem?_cons_succ, List.set_cons_zero, List.set_cons_succ, List.take_succ_cons, List.take_zero, List.drop_succ_cons, List.drop_zero, List.reverse_cons, List.reverse_nil, Option.toList_some, Option.toList_none, Nat.reduceSub, Nat.reduceAdd, Nat.reduceLeDiff, true_and, and_true, and_self, Option.some.injEq, exists_eq_left', Nat.zero_add, Value.int.injEq, Value.ref.injEq, List.cons.injEq, exists_and_left, and_assoc, exists_eq_left, bk_112_21, B_112_38, bk_112_38, m0, C_93, C_109, r_isEmpty gm hs, r_barO gm hs vj cb', j5, v1A, o_eq_l, o_eq, if_neg, if_pos, if_neg, not_true_eq_false, not_false_eq_true, or_true, true_or, or_false, false_or, false_and, and_false, Nat.reduceEqDiff, Nat.reduceLT, Nat.reduceMul, Nat.not_lt_zero, Nat.zero_le, Nat.le_refl, ne_eq, reduceIte, reduceCtorEq]
        exact OPo_same hrel hJ
  have hp1 : pA = 1 := by
    rcases (show pA = 0 ∨ pA = 1 by omega) with e | e
    · exact absurd (Or.inl e) cb
    · exact e
  subst hp1
  have hw : y = 2 → clA = 1 := fun e => by
    rcases (show clA = 0 ∨ clA = 1 by omega) with e2 | e2
    · exact absurd (Or.inr ⟨e, e2⟩) cb
    · exact e2
  have hV := rW_V hwA
  obtain ⟨d1, d2, d3, d4, d5⟩ := rd_cls (r := 186) hwA hw
  have grz := gr.1
  have gra := gr.2.1
  have grr := gr.2.2.1
  have cls2 : ∀ Q, Ev 65 (mB 65 40) [.ref 0, .int (nI s), .int y, .ref (7 + 4 * s)] [] (K, R, I) Q = EvM 65 [.ref 0, .int (nI s), .int y] (K, R, I) Q := by
    intro Q
    rw [← cls, B_65_19]
    apply propext
    simp (disch := omega) only [e_iconst, e_bipush, e_sipush, e_iload_n, e_iload, e_aload_n, e_aload, e_istore_n, e_istore, e_astore_n, e_astore, e_iinc, e_iadd, e_isub, e_imul, e_iand, e_ishr, e_idiv, e_i2c, e_dup_i, e_dup_r, e_dup2, e_pop, e_goto, e_nop, e_if_eq, e_if_ne, e_if_lt, e_if_ge, e_if_gt, e_if_le, e_icmp_eq, e_icmp_ne, e_icmp_lt, e_icmp_ge, e_icmp_gt, e_icmp_le, e_tsw, e_ret0, e_ret1, e_retn, e_getI, e_getZ, e_getR, e_getV, e_getC, e_putI, e_putZ, e_putF, e_gst0, e_gst1, e_sld, e_iald, e_cald, e_bald, e_iast, e_cast, e_aald, e_aast, e_alen, e_slen, e_blen, e_newa, e_newq, e_new, e_oinit, e_ctor, e_virt, e_stat, e_min, e_copy, e_ldc, List.cons_append, List.nil_append, List.append_nil, List.length_cons, List.length_nil, List.replicate_succ, List.replicate_zero, List.getElem?_cons_zero, List.getElem?_cons_succ, List.set_cons_zero, List.set_cons_succ, List.take_succ_cons, List.take_zero, List.drop_succ_cons, List.drop_zero, List.reverse_cons, List.reverse_nil, Option.toList_some, Option.toList_none, Nat.reduceSub, Nat.reduceAdd, Nat.reduceLeDiff, true_and, and_true, and_self, Option.some.injEq, exists_eq_left', Nat.zero_add, Value.int.injEq, Value.ref.injEq, List.cons.injEq, exists_and_left, and_assoc, exists_eq_left, bk_65_19, C_40, m_canI zwA wfA hw, a0, a1, gs0, gs1, gs2, zw0A, rwA, n_in, n_cl, true_or, or_true, o_eq, if_pos, if_neg, not_true_eq_false, not_false_eq_true, or_true, true_or, or_false, false_or, false_and, and_false, Nat.reduceEqDiff, Nat.reduceLT, Nat.reduceMul, Nat.not_lt_zero, Nat.zero_le, Nat.le_refl, ne_eq, reduceIte, reduceCtorEq]
  have ref2 : ∀ R J Q, zM K R → J 195 = I 195 → Ev 112 (mB 112 41) [.ref 194, .int (nI s), .int y, .null, .null] [] (K, R, J) Q = EvM 112 [.ref 194, .int (nI s), .int y] (K, R, J) Q := by
    intro R J Q gm j5
    have vj : vF (J 195) s 1 clA cA := by rw [j5]; exact vfA
    have m0 := gm.1
    rw [← ref, B_112_21]
    apply propext
    simp (disch := omega) only [e_iconst, e_bipush, e_sipush, e_iload_n, e_iload, e_aload_n, e_aload, e_istore_n, e_istore, e_astore_n, e_astore, e_iinc, e_iadd, e_isub, e_imul, e_iand, e_ishr, e_idiv, e_i2c, e_dup_i, e_dup_r, e_dup2, e_pop, e_goto, e_nop, e_if_eq, e_if_ne, e_if_lt, e_if_ge, e_if_gt, e_if_le, e_icmp_eq, e_icmp_ne, e_icmp_lt, e_icmp_ge, e_icmp_gt, e_icmp_le, e_tsw, e_ret0, e_ret1, e_retn, e_getI, e_getZ, e_getR, e_getV, e_getC, e_putI, e_putZ, e_putF, e_gst0, e_gst1, e_sld, e_iald, e_cald, e_bald, e_iast, e_cast, e_aald, e_aast, e_alen, e_slen, e_blen, e_newa, e_newq, e_new, e_oinit, e_ctor, e_virt, e_stat, e_min, e_copy, e_ldc, List.cons_append, List.nil_append, List.append_nil, List.length_cons, List.length_nil, List.replicate_succ, List.replicate_zero, List.getElem?_cons_zero, List.getElem?_cons_succ, List.set_cons_zero, List.set_cons_succ, List.take_succ_cons, List.take_zero, List.drop_succ_cons, List.drop_zero, List.reverse_cons, List.reverse_nil, Option.toList_some, Option.toList_none, Nat.reduceSub, Nat.reduceAdd, Nat.reduceLeDiff, true_and, and_true, and_self, Option.some.injEq, exists_eq_left', Nat.zero_add, Value.int.injEq, Value.ref.injEq, List.cons.injEq, exists_and_left, and_assoc, exists_eq_left, bk_112_21, m0, C_93, C_109, r_isEmpty gm hs, r_barI gm hs vj hw, j5, v1A, o_eq_l, o_eq, if_neg, if_pos, if_neg, not_true_eq_false, not_false_eq_true, or_true, true_or, or_false, false_or, false_and, and_false, Nat.reduceEqDiff, Nat.reduceLT, Nat.reduceMul, Nat.not_lt_zero, Nat.zero_le, Nat.le_refl, ne_eq, reduceIte, reduceCtorEq]
  by_cases hun : cnt (pUn (nbR (I 195) s cA y) (trR (I 195) s)) cA = 0
  rotate_left
  · have hle := cnt_le (pUn (nbR (I 195) s cA y) (trR (I 195) s)) cA
    refine ⟨-4, R, rdS I 186 (7 + 4 * s) cA y, ?_, ⟨gm, fun x hx => rdS_o (by omega)⟩, fun J hJ => ?_⟩
    · rw [← cls2, B_65_40]
      simp (disch := omega) only [e_iconst, e_bipush, e_sipush, e_iload_n, e_iload, e_aload_n, e_aload, e_istore_n, e_istore, e_astore_n, e_astore, e_iinc, e_iadd, e_isub, e_imul, e_iand, e_ishr, e_idiv, e_i2c, e_dup_i, e_dup_r, e_dup2, e_pop, e_goto, e_nop, e_if_eq, e_if_ne, e_if_lt, e_if_ge, e_if_gt, e_if_le, e_icmp_eq, e_icmp_ne, e_icmp_lt, e_icmp_ge, e_icmp_gt, e_icmp_le, e_tsw, e_ret0, e_ret1, e_retn, e_getI, e_getZ, e_getR, e_getV, e_getC, e_putI, e_putZ, e_putF, e_gst0, e_gst1, e_sld, e_iald, e_cald, e_bald, e_iast, e_cast, e_aald, e_aast, e_alen, e_slen, e_blen, e_newa, e_newq, e_new, e_oinit, e_ctor, e_virt, e_stat, e_min, e_copy, e_ldc, List.cons_append, List.nil_append, List.append_nil, List.length_cons, List.length_nil, List.replicate_succ, List.replicate_zero, List.getElem?_cons_zero, List.getElem?_cons_succ, List.set_cons_zero, List.set_cons_succ, List.take_succ_cons, List.take_zero, List.drop_succ_cons, List.drop_zero, List.reverse_cons, List.reverse_nil, Option.toList_some, Option.toList_none, Nat.reduceSub, Nat.reduceAdd, Nat.reduceLeDiff, true_and, and_true, and_self, Option.some.injEq, exists_eq_left', Nat.zero_add, Value.int.injEq, Value.ref.injEq, List.cons.injEq, exists_and_left, and_assoc, exists_eq_left, bk_65_40, a0, a6, C_18, m_rd gr zwA (by omega) hwA hw, grz, d4, o_le_l, if_neg, if_pos, if_neg, not_true_eq_false, not_false_eq_true, or_true, true_or, or_false, false_or, false_and, and_false, Nat.reduceEqDiff, Nat.reduceLT, Nat.reduceMul, Nat.not_lt_zero, Nat.zero_le, Nat.le_refl, ne_eq, reduceIte, reduceCtorEq]
    · have j5 : J 195 = I 195 := by rw [SCR_row hJ (by omega), rdS_o (by omega)]
      have vj : vF (J 195) s 1 clA cA := by rw [j5]; exact vfA
      have vV : okV (J 195) s clA cA := by rw [j5]; exact hV
      rw [← ref2 _ J _ gm j5, B_112_41]
      simp (disch := omega) only [e_iconst, e_bipush, e_sipush, e_iload_n, e_iload, e_aload_n, e_aload, e_istore_n, e_istore, e_astore_n, e_astore, e_iinc, e_iadd, e_isub, e_imul, e_iand, e_ishr, e_idiv, e_i2c, e_dup_i, e_dup_r, e_dup2, e_pop, e_goto, e_nop, e_if_eq, e_if_ne, e_if_lt, e_if_ge, e_if_gt, e_if_le, e_icmp_eq, e_icmp_ne, e_icmp_lt, e_icmp_ge, e_icmp_gt, e_icmp_le, e_tsw, e_ret0, e_ret1, e_retn, e_getI, e_getZ, e_getR, e_getV, e_getC, e_putI, e_putZ, e_putF, e_gst0, e_gst1, e_sld, e_iald, e_cald, e_bald, e_iast, e_cast, e_aald, e_aast, e_alen, e_slen, e_blen, e_newa, e_newq, e_new, e_oinit, e_ctor, e_virt, e_stat, e_min, e_copy, e_ldc, List.cons_append, List.nil_append, List.append_nil, List.length_cons, List.length_nil, List.replicate_succ, List.replicate_zero, List.getElem?_cons_zero, List.getElem?_cons_succ, List.set_cons_zero, List.set_cons_succ, List.take_succ_cons, List.take_zero, List.drop_succ_cons, List.drop_zero, List.reverse_cons, List.reverse_nil, Option.toList_some, Option.toList_none, Nat.reduceSub, Nat.reduceAdd, Nat.reduceLeDiff, true_and, and_true, and_self, Option.some.injEq, exists_eq_left', Nat.zero_add, Value.int.injEq, Value.ref.injEq, List.cons.injEq, exists_and_left, and_assoc, exists_eq_left, bk_112_41, m0, C_108, C_110, r_rd gm hs vj vV hw, r_wr gm hs vj vV, wrR_1, j5, o_le_l, if_neg, if_pos, if_neg, not_true_eq_false, not_false_eq_true, or_true, true_or, or_false, false_or, false_and, and_false, Nat.reduceEqDiff, Nat.reduceLT, Nat.reduceMul, Nat.not_lt_zero, Nat.zero_le, Nat.le_refl, ne_eq, reduceIte, reduceCtorEq]
      exact OPo_same hrel (SCR_tr (SCR_rd (by omega)) (SCR_rdC hJ))
  have hrel0 : REL K R (rdS I 186 (7 + 4 * s) cA y) := REL_scr hrel (SCR_rd (by omega))
  have r5 : rdS I 186 (7 + 4 * s) cA y 195 = I 195 := rdS_o (by omega)
  have hu : ∀ i, i < cA → nbR (I 195) s cA y i ≠ -1 := by
    intro i hi e
    have z : ∀ k, i < k → k ≤ cA → cnt (pUn (nbR (I 195) s cA y) (trR (I 195) s)) k ≠ 0 := by
      intro k
      induction k with
      | zero => intro h; omega
      | succ k ih =>
        intro h1 h2
        unfold cnt
        rcases Nat.lt_or_ge i k with q | q
        · have := ih q (by omega); omega
        · have e2 : k = i := by omega
          subst e2
          obtain ⟨t, t1, t2⟩ := hV.2.1 k hi
          have e3 : ¬ (-1 : Int32) = trR (I 195) s k := by
            show ¬ (-1 : Int32) = I 195 (98 * s + (68 + k))
            rw [t2]; exact n_m1' (by omega)
          rw [if_pos (by simp [pUn, e, e3])]
          omega
    exact z cA hi (Nat.le_refl _) hun
  obtain ⟨R1, I1, y1, y2, y3', y4⟩ := punch_act (y := y) hs K R _ hrel0 (by rw [r5]; exact rW_out hwA (fun x x1 x2 => rdS_o (by omega))) (by rw [r5]; exact d2) (by rw [r5]; exact hu) (by rw [r5]; exact d3)
  have y3 := y3' 195 (by omega)
  rw [r5] at y1 y3 y4
  refine ⟨nI (cnt (pMi (nbR (I 195) s cA y) (trR (I 195) s)) cA), R1, I1, ?_, ⟨y2, fun x hx => by rw [y3' x hx, rdS_o (by omega)]⟩, fun J hJ => ?_⟩
  · rw [← cls2, B_65_40]
    simp (disch := omega) only [e_iconst, e_bipush, e_sipush, e_iload_n, e_iload, e_aload_n, e_aload, e_istore_n, e_istore, e_astore_n, e_astore, e_iinc, e_iadd, e_isub, e_imul, e_iand, e_ishr, e_idiv, e_i2c, e_dup_i, e_dup_r, e_dup2, e_pop, e_goto, e_nop, e_if_eq, e_if_ne, e_if_lt, e_if_ge, e_if_gt, e_if_le, e_icmp_eq, e_icmp_ne, e_icmp_lt, e_icmp_ge, e_icmp_gt, e_icmp_le, e_tsw, e_ret0, e_ret1, e_retn, e_getI, e_getZ, e_getR, e_getV, e_getC, e_putI, e_putZ, e_putF, e_gst0, e_gst1, e_sld, e_iald, e_cald, e_bald, e_iast, e_cast, e_aald, e_aast, e_alen, e_slen, e_blen, e_newa, e_newq, e_new, e_oinit, e_ctor, e_virt, e_stat, e_min, e_copy, e_ldc, List.cons_append, List.nil_append, List.append_nil, List.length_cons, List.length_nil, List.replicate_succ, List.replicate_zero, List.getElem?_cons_zero, List.getElem?_cons_succ, List.set_cons_zero, List.set_cons_succ, List.take_succ_cons, List.take_zero, List.drop_succ_cons, List.drop_zero, List.reverse_cons, List.reverse_nil, Option.toList_some, Option.toList_none, Nat.reduceSub, Nat.reduceAdd, Nat.reduceLeDiff, true_and, and_true, and_self, Option.some.injEq, exists_eq_left', Nat.zero_add, Value.int.injEq, Value.ref.injEq, List.cons.injEq, exists_and_left, and_assoc, exists_eq_left, bk_65_40, a0, a6, C_18, m_rd gr zwA (by omega) hwA hw, grz, d4, hun, o_le_l, if_pos, Nat.le_refl, if_pos, if_neg, not_true_eq_false, not_false_eq_true, or_true, true_or, or_false, false_or, false_and, and_false, Nat.reduceEqDiff, Nat.reduceLT, Nat.reduceMul, Nat.not_lt_zero, Nat.zero_le, Nat.le_refl, ne_eq, reduceIte, reduceCtorEq]
    exact y1
  · have j5 : J 195 = I 195 := by rw [SCR_row hJ (by omega), y3]
    have vj : vF (J 195) s 1 clA cA := by rw [j5]; exact vfA
    have vV : okV (J 195) s clA cA := by rw [j5]; exact hV
    have m0' := y2.1
    rw [← ref2 R1 J _ y2 j5, B_112_41]
    simp (disch := omega) only [e_iconst, e_bipush, e_sipush, e_iload_n, e_iload, e_aload_n, e_aload, e_istore_n, e_istore, e_astore_n, e_astore, e_iinc, e_iadd, e_isub, e_imul, e_iand, e_ishr, e_idiv, e_i2c, e_dup_i, e_dup_r, e_dup2, e_pop, e_goto, e_nop, e_if_eq, e_if_ne, e_if_lt, e_if_ge, e_if_gt, e_if_le, e_icmp_eq, e_icmp_ne, e_icmp_lt, e_icmp_ge, e_icmp_gt, e_icmp_le, e_tsw, e_ret0, e_ret1, e_retn, e_getI, e_getZ, e_getR, e_getV, e_getC, e_putI, e_putZ, e_putF, e_gst0, e_gst1, e_sld, e_iald, e_cald, e_bald, e_iast, e_cast, e_aald, e_aast, e_alen, e_slen, e_blen, e_newa, e_newq, e_new, e_oinit, e_ctor, e_virt, e_stat, e_min, e_copy, e_ldc, List.cons_append, List.nil_append, List.append_nil, List.length_cons, List.length_nil, List.replicate_succ, List.replicate_zero, List.getElem?_cons_zero, List.getElem?_cons_succ, List.set_cons_zero, List.set_cons_succ, List.take_succ_cons, List.take_zero, List.drop_succ_cons, List.drop_zero, List.reverse_cons, List.reverse_nil, Option.toList_some, Option.toList_none, Nat.reduceSub, Nat.reduceAdd, Nat.reduceLeDiff, true_and, and_true, and_self, Option.some.injEq, exists_eq_left', Nat.zero_add, Value.int.injEq, Value.ref.injEq, List.cons.injEq, exists_and_left, and_assoc, exists_eq_left, bk_112_41, m0', C_108, C_110, r_rd y2 hs vj vV hw, r_wr y2 hs vj vV, wrR_1, j5, hun, o_le_l, if_pos, Nat.le_refl, if_pos, if_neg, not_true_eq_false, not_false_eq_true, or_true, true_or, or_false, false_or, false_and, and_false, Nat.reduceEqDiff, Nat.reduceLT, Nat.reduceMul, Nat.not_lt_zero, Nat.zero_le, Nat.le_refl, ne_eq, reduceIte, reduceCtorEq]
    exact y4 J hJ
