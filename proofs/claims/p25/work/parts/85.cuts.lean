/-! THE LAW's acts: cuts, splices -/
theorem cut_f {v : Nat → Int32} {s l lw : Nat} (hlw : gLow v = lw) (hlw6 : lw < 6) (hs : s < 6) (hne : s ≠ lw) (hc : gc v s ≤ 30) (hcl : gl v s ≤ 1) (hl : l < gc v s) (hp : gp v s = 1) (h0 : v (98 * s) = nI (gp v s)) (hN : gNom v s) :
    gp (wCut v s l) s = 1 ∧ gl (wCut v s l) s = 0 ∧ gc (wCut v s l) s = l ∧ gp (wCut v s l) lw = 1 ∧ gl (wCut v s l) lw = gl v s ∧ gc (wCut v s l) lw = gc v s - l ∧ wCut v s l (98 * lw + 3) = nI 0 ∧
      wCut v s l 591 = v 591 + nI 5000 ∧ wCut v s l 593 = v 593 ∧ (∀ x, x < 588 → ¬ (98 * s ≤ x ∧ x < 98 * s + 98) → ¬ (98 * lw ≤ x ∧ x < 98 * lw + 98) → wCut v s l x = v x) ∧ gNom (wCut v s l) s ∧ gNom (wCut v s l) lw ∧
      sm (fun k => wCut v s l (98 * s + (4 + k))) (l + 1) + sm (fun k => wCut v s l (98 * lw + (4 + k))) (gc v s - l + 1 + gl v s) = sm (fun k => v (98 * s + (4 + k))) (gn v s) + nI 5000 := by
  unfold wCut
  rw [hlw]
  generalize hw : vTl (vU (vU (vU (vU (vU (vU (vU (vU (vU (vTr (vCc v s l lw 0 (gc v s - l + gl v s)) s l lw 0 (gc v s - l)) (98 * lw + 4) 5000) (98 * lw + 36) 5000) 591 (v 591 + 5000)) (98 * lw) 1) (98 * lw + 1) (nI (gl v s))) (98 * lw + 2) (nI (gc v s - l))) (98 * lw + 3) 0) (98 * s + 1) 0) (98 * s + 2) (nI l)) (gln v) 3 (nI s) (nI lw) = w
  have e0 : w (98 * s) = nI 1 := by rw [← hw]; simp (disch := omega) only [vTl_o, u_ne, vTr_o, vCc_o]; rw [h0, hp]
  have e1 : w (98 * s + 1) = nI 0 := by rw [← hw]; simp (disch := omega) only [vTl_o, u_ne, u_eq]; rfl
  have e2 : w (98 * s + 2) = nI l := by rw [← hw]; simp (disch := omega) only [vTl_o, u_ne, u_eq]
  have d0 : w (98 * lw) = nI 1 := by rw [← hw]; simp (disch := omega) only [vTl_o, u_ne, u_eq]; rfl
  have d1 : w (98 * lw + 1) = nI (gl v s) := by rw [← hw]; simp (disch := omega) only [vTl_o, u_ne, u_eq]
  have d2 : w (98 * lw + 2) = nI (gc v s - l) := by rw [← hw]; simp (disch := omega) only [vTl_o, u_ne, u_eq]
  have d3 : w (98 * lw + 3) = nI 0 := by rw [← hw]; simp (disch := omega) only [vTl_o, u_ne, u_eq]; rfl
  have g0 := gp_of e0 (by omega)
  have g1 := gl_of e1 (by omega)
  have g2 := gc_of e2 (by omega)
  have k0 := gp_of d0 (by omega)
  have k1 := gl_of d1 (by omega)
  have k2 := gc_of d2 (by omega)
  have sL : ∀ k, k < 32 → w (98 * s + (4 + k)) = v (98 * s + (4 + k)) := by
    intro k hk; rw [← hw]; simp (disch := omega) only [vTl_o, u_ne, vTr_o, vCc_o]
  have sN : ∀ k, k < 32 → w (98 * s + (36 + k)) = v (98 * s + (36 + k)) := by
    intro k hk; rw [← hw]; simp (disch := omega) only [vTl_o, u_ne, vTr_o, vCc_o]
  have t0 : w (98 * lw + (4 + 0)) = 5000 := by
    show w (98 * lw + 4) = 5000
    rw [← hw]; simp (disch := omega) only [vTl_o, u_ne, u_eq]
  have tN0 : w (98 * lw + 36) = 5000 := by
    rw [← hw]; simp (disch := omega) only [vTl_o, u_ne, u_eq]
  have tL : ∀ k, k < gc v s - l + gl v s → w (98 * lw + (4 + (0 + 1 + k))) = v (98 * s + (4 + (l + 1 + k))) := by
    intro k hk; rw [← hw]; simp (disch := omega) only [vTl_o, u_ne, vTr_o]; exact vCc_l hk
  have tN : ∀ k, k < gc v s - l + gl v s → w (98 * lw + (36 + (0 + 1 + k))) = v (98 * s + (36 + (l + 1 + k))) := by
    intro k hk; rw [← hw]; simp (disch := omega) only [vTl_o, u_ne, vTr_o]; exact vCc_n hk (by omega)
  obtain ⟨n1, n2, n3⟩ := hN hp
  refine ⟨g0, g1, g2, k0, k1, k2, d3, ?_, ?_, fun x hx hx2 hx3 => ?_, fun _ => ?_, fun _ => ?_, ?_⟩
  · rw [← hw]; simp (disch := omega) only [vTl_o, u_ne, u_eq]; rfl
  · rw [← hw]; simp (disch := omega) only [vTl_o, u_ne, vTr_o, vCc_o]
  · rw [← hw]; simp (disch := omega) only [vTl_o, u_ne, vTr_o, vCc_o]
  · rw [g1, g2]
    refine ⟨?_, fun i hi => ?_, fun z => by omega⟩
    · have := sN 0 (by omega)
      rw [show 36 + 0 = 36 from rfl] at this
      rw [this]; exact n1
    · rw [sN (i + 1) (by omega)]; exact n2 i (by omega)
  · rw [k1, k2]
    refine ⟨tN0, fun i hi => ?_, fun z => ?_⟩
    · have := tN i (by omega)
      rw [show 0 + 1 + i = i + 1 by omega, show l + 1 + i = l + i + 1 by omega] at this
      rw [this]; exact n2 (l + i) (by omega)
    · have := tN (gc v s - l) (by omega)
      rw [show 0 + 1 + (gc v s - l) = gc v s - l + 1 by omega, show l + 1 + (gc v s - l) = gc v s + 1 by omega] at this
      rw [this]; exact n3 z
  · rw [sm_cq (l + 1) (fun j hj => sL j (by omega)), show gc v s - l + 1 + gl v s = 1 + (gc v s - l + gl v s) by omega, sm_add (f := fun k => w (98 * lw + (4 + k))) 1]
    have a1 : sm (fun k => w (98 * lw + (4 + k))) 1 = nI 5000 := by
      show (0 : Int32) + w (98 * lw + (4 + 0)) = _
      rw [t0]; rfl
    have a2 : sm (fun j => w (98 * lw + (4 + (1 + j)))) (gc v s - l + gl v s) = sm (fun j => v (98 * s + (4 + (l + 1 + j)))) (gc v s - l + gl v s) := sm_cq _ (fun j hj => by
      have := tL j hj
      rw [show 0 + 1 + j = 1 + j by omega] at this
      exact this)
    rw [a1, a2, show gn v s = l + 1 + (gc v s - l + gl v s) by unfold gn; omega, sm_add (f := fun k => v (98 * s + (4 + k))) (l + 1), Int32.add_comm (nI 5000), Int32.add_assoc]
theorem gNom_all2 {v w : Nat → Int32} {s t : Nat} {K : mK} {G : gS} (hv : G.1 = v) (hG : Good K G) (h : ∀ x, x < 588 → ¬ (98 * s ≤ x ∧ x < 98 * s + 98) → ¬ (98 * t ≤ x ∧ x < 98 * t + 98) → w x = v x) (hN : ∀ r, r < 6 → gNom v r) (h1 : gNom w s) (h2 : gNom w t) : ∀ r, r < 6 → gNom w r := by
  intro r hr
  by_cases e : r = s
  · rw [e]; exact h1
  · by_cases e2 : r = t
    · rw [e2]; exact h2
    · have := gd_w hG hr
      rw [hv] at this
      exact gNom_o (fun x hx1 hx2 => h x (by omega) (by omega) (by omega)) this.2.2.2.2.2.1 (hN r hr)
section CUTS
variable {K : mK} {G : gS} {b s : Nat} {g : Int32}
theorem ne_b {v : Nat → Int32} {s p : Nat} (h : v (98 * s) = nI p) (hp : p < 1000) : (!(v (98 * s) == 0)) = !(p == 0) := by
  rw [h]
  by_cases e : p = 0
  · subst e; rfl
  · have z : ¬ nI p = 0 := by rw [show (0 : Int32) = nI 0 from rfl, n_eq (by omega) (by omega)]; exact e
    have a : (nI p == 0) = false := beq_eq_false_iff_ne.mpr z
    have b : (p == 0) = false := beq_eq_false_iff_ne.mpr e
    rw [a, b]
set_option maxHeartbeats 4000000 in
theorem l_cuts (hG : Good K G) (hI : Inv b G) (hs : s < 6) (hp : gp G.1 s = 1) : EgM K 103 [.ref 0, .int (nI s), .int g] G (Pst K b G) := by
  have hK := gd_K hG
  obtain ⟨⟨kb, kb1, kb2⟩, hN⟩ := id hI
  obtain ⟨w1, w2, w3, w4, w5, w6, w7, w8, w9⟩ := gd_w hG hs
  have same : Pst K b G (some (.int (nI 1))) G := ⟨rfl, hG, Inv_s hI, StG_0⟩
  have s0 := sp_0 hp
  have s1 := sp_1 hp
  have s2 := sp_2 hp
  obtain ⟨l, hl, el⟩ := low_e g (n := gc G.1 s + 1) (by omega)
  have hF := fB_cnt (P := fun s => G.1 (98 * s) == 0) (n := 6) 6 (Nat.le_refl _)
  have hF6 := (fB_le (fun s => G.1 (98 * s) == 0) 6 6 (Nat.le_refl _))
  have hcn := cnt_le (fun s => !(G.1 (98 * s) == 0)) 6
  have ecn : ∀ (v : Nat → Int32) n, aCount v n 0 = nI (cnt (fun s => !(v (98 * s) == 0)) 6) := fun _ _ => rfl
  unfold EgM
  rw [B_103_0]
  by_cases e1 : l = gc G.1 s
  · have a1 : aCut G.1 s l = -1 := by unfold aCut; rw [if_pos (by omega)]
    have a2 : nCut G s l = G := by unfold nCut; rw [if_pos (by omega)]
    subst e1
    simp (disch := first | assumption | omega) only [g_iconst, g_iconstN, g_bipush, g_bipushN, g_sipush, g_sipushN, g_ldc, g_ldc2, g_al0, g_il0, g_ii0, g_ll0, g_al1, g_il1, g_ii1, g_ll1, g_al2, g_il2, g_ii2, g_ll2, g_al3, g_il3, g_ii3, g_ll3, g_al4, g_il4, g_ii4, g_ll4, g_al5, g_il5, g_ii5, g_ll5, g_al6, g_il6, g_ii6, g_ll6, g_al7, g_il7, g_ii7, g_ll7, g_al8, g_il8, g_ii8, g_ll8, g_al9, g_il9, g_ii9, g_ll9, g_al10, g_il10, g_ii10, g_ll10, g_al11, g_il11, g_ii11, g_ll11, g_al12, g_il12, g_ii12, g_ll12, g_al13, g_il13, g_ii13, g_ll13, g_al14, g_il14, g_ii14, g_ll14, g_al15, g_il15, g_ii15, g_ll15, g_al16, g_il16, g_ii16, g_ll16, g_al17, g_il17, g_ii17, g_ll17, g_al18, g_il18, g_ii18, g_ll18, g_istore_n, g_istore, g_lstore_n, g_lstore, g_iadd, g_isub, g_imul, g_iand, g_ishr, g_idiv, g_irem, g_i2c, g_i2l, g_ladd, g_lmul, g_lcmp, g_pop, g_goto, g_nop, g_if_eq, g_if_ne, g_if_lt, g_if_ge, g_if_gt, g_if_le, g_icmp_eq, g_icmp_ne, g_icmp_lt, g_icmp_ge, g_icmp_gt, g_icmp_le, g_ret0, g_ret1, g_retn, g_retl, g_sld, g_slen, g_stat, List.cons_append, List.nil_append, List.append_nil, List.length_cons, List.length_nil, List.replicate_succ, List.replicate_zero, List.getElem?_cons_zero, List.getElem?_cons_succ, List.set_cons_zero, List.set_cons_succ, List.take_succ_cons, List.take_zero, List.drop_succ_cons, List.drop_zero, List.reverse_cons, List.reverse_nil, Option.toList_some, Option.toList_none, Nat.reduceSub, Nat.reduceAdd, Nat.reduceLeDiff, true_and, and_true, and_self, Option.some.injEq, exists_eq_left', Nat.zero_add, Value.int.injEq, Value.ref.injEq, List.cons.injEq, exists_and_left, and_assoc, exists_eq_left, List.all_cons, List.all_nil, m1_i, m1_r, Bool.and_self, Bool.and_true, g_stat, N_103, bk_103_0, g_count hK, g_spool hK, g_cut hK, ct_3, s0, s1, s2, n_add, l_low, el, a1, a2, not_true_eq_false, not_false_eq_true, or_true, true_or, or_false, false_or, false_and, and_false, Nat.reduceEqDiff, Nat.reduceLT, Nat.reduceMul, Nat.not_lt_zero, Nat.zero_le, Nat.le_refl, ne_eq, ↓reduceIte, reduceCtorEq]
    rw [B_103_68]
    simp (disch := first | assumption | omega) only [g_iconst, g_iconstN, g_bipush, g_bipushN, g_sipush, g_sipushN, g_ldc, g_ldc2, g_al0, g_il0, g_ii0, g_ll0, g_al1, g_il1, g_ii1, g_ll1, g_al2, g_il2, g_ii2, g_ll2, g_al3, g_il3, g_ii3, g_ll3, g_al4, g_il4, g_ii4, g_ll4, g_al5, g_il5, g_ii5, g_ll5, g_al6, g_il6, g_ii6, g_ll6, g_al7, g_il7, g_ii7, g_ll7, g_al8, g_il8, g_ii8, g_ll8, g_al9, g_il9, g_ii9, g_ll9, g_al10, g_il10, g_ii10, g_ll10, g_al11, g_il11, g_ii11, g_ll11, g_al12, g_il12, g_ii12, g_ll12, g_al13, g_il13, g_ii13, g_ll13, g_al14, g_il14, g_ii14, g_ll14, g_al15, g_il15, g_ii15, g_ll15, g_al16, g_il16, g_ii16, g_ll16, g_al17, g_il17, g_ii17, g_ll17, g_al18, g_il18, g_ii18, g_ll18, g_istore_n, g_istore, g_lstore_n, g_lstore, g_iadd, g_isub, g_imul, g_iand, g_ishr, g_idiv, g_irem, g_i2c, g_i2l, g_ladd, g_lmul, g_lcmp, g_pop, g_goto, g_nop, g_if_eq, g_if_ne, g_if_lt, g_if_ge, g_if_gt, g_if_le, g_icmp_eq, g_icmp_ne, g_icmp_lt, g_icmp_ge, g_icmp_gt, g_icmp_le, g_ret0, g_ret1, g_retn, g_retl, g_sld, g_slen, g_stat, List.cons_append, List.nil_append, List.append_nil, List.length_cons, List.length_nil, List.replicate_succ, List.replicate_zero, List.getElem?_cons_zero, List.getElem?_cons_succ, List.set_cons_zero, List.set_cons_succ, List.take_succ_cons, List.take_zero, List.drop_succ_cons, List.drop_zero, List.reverse_cons, List.reverse_nil, Option.toList_some, Option.toList_none, Nat.reduceSub, Nat.reduceAdd, Nat.reduceLeDiff, true_and, and_true, and_self, Option.some.injEq, exists_eq_left', Nat.zero_add, Value.int.injEq, Value.ref.injEq, List.cons.injEq, exists_and_left, and_assoc, exists_eq_left, List.all_cons, List.all_nil, m1_i, m1_r, Bool.and_self, Bool.and_true, g_stat, bk_103_68, not_true_eq_false, not_false_eq_true, or_true, true_or, or_false, false_or, false_and, and_false, Nat.reduceEqDiff, Nat.reduceLT, Nat.reduceMul, Nat.not_lt_zero, Nat.zero_le, Nat.le_refl, ne_eq, ↓reduceIte, reduceCtorEq]
    rw [B_103_82]
    simp (disch := first | assumption | omega) only [g_iconst, g_iconstN, g_bipush, g_bipushN, g_sipush, g_sipushN, g_ldc, g_ldc2, g_al0, g_il0, g_ii0, g_ll0, g_al1, g_il1, g_ii1, g_ll1, g_al2, g_il2, g_ii2, g_ll2, g_al3, g_il3, g_ii3, g_ll3, g_al4, g_il4, g_ii4, g_ll4, g_al5, g_il5, g_ii5, g_ll5, g_al6, g_il6, g_ii6, g_ll6, g_al7, g_il7, g_ii7, g_ll7, g_al8, g_il8, g_ii8, g_ll8, g_al9, g_il9, g_ii9, g_ll9, g_al10, g_il10, g_ii10, g_ll10, g_al11, g_il11, g_ii11, g_ll11, g_al12, g_il12, g_ii12, g_ll12, g_al13, g_il13, g_ii13, g_ll13, g_al14, g_il14, g_ii14, g_ll14, g_al15, g_il15, g_ii15, g_ll15, g_al16, g_il16, g_ii16, g_ll16, g_al17, g_il17, g_ii17, g_ll17, g_al18, g_il18, g_ii18, g_ll18, g_istore_n, g_istore, g_lstore_n, g_lstore, g_iadd, g_isub, g_imul, g_iand, g_ishr, g_idiv, g_irem, g_i2c, g_i2l, g_ladd, g_lmul, g_lcmp, g_pop, g_goto, g_nop, g_if_eq, g_if_ne, g_if_lt, g_if_ge, g_if_gt, g_if_le, g_icmp_eq, g_icmp_ne, g_icmp_lt, g_icmp_ge, g_icmp_gt, g_icmp_le, g_ret0, g_ret1, g_retn, g_retl, g_sld, g_slen, g_stat, List.cons_append, List.nil_append, List.append_nil, List.length_cons, List.length_nil, List.replicate_succ, List.replicate_zero, List.getElem?_cons_zero, List.getElem?_cons_succ, List.set_cons_zero, List.set_cons_succ, List.take_succ_cons, List.take_zero, List.drop_succ_cons, List.drop_zero, List.reverse_cons, List.reverse_nil, Option.toList_some, Option.toList_none, Nat.reduceSub, Nat.reduceAdd, Nat.reduceLeDiff, true_and, and_true, and_self, Option.some.injEq, exists_eq_left', Nat.zero_add, Value.int.injEq, Value.ref.injEq, List.cons.injEq, exists_and_left, and_assoc, exists_eq_left, List.all_cons, List.all_nil, m1_i, m1_r, Bool.and_self, Bool.and_true, g_stat, bk_103_82, g_count hK, ct_3, B_103_100, bk_103_100, one_1, not_true_eq_false, not_false_eq_true, or_true, true_or, or_false, false_or, false_and, and_false, Nat.reduceEqDiff, Nat.reduceLT, Nat.reduceMul, Nat.not_lt_zero, Nat.zero_le, Nat.le_refl, ne_eq, ↓reduceIte, reduceCtorEq]
    exact same
  · have ee : ¬ nI l = nI (gc G.1 s) := by rw [n_eq (by omega) (by omega)]; exact e1
    by_cases e6 : cnt (fun s => !(G.1 (98 * s) == 0)) 6 = 6
    · have hlo : gLow G.1 = 6 := hF.mpr e6
      have a1 : aCut G.1 s l = -3 := by unfold aCut; rw [if_neg (by omega), if_pos hlo]
      have a2 : nCut G s l = G := by unfold nCut; rw [if_neg (by omega), if_pos hlo]
      simp (disch := first | assumption | omega) only [g_iconst, g_iconstN, g_bipush, g_bipushN, g_sipush, g_sipushN, g_ldc, g_ldc2, g_al0, g_il0, g_ii0, g_ll0, g_al1, g_il1, g_ii1, g_ll1, g_al2, g_il2, g_ii2, g_ll2, g_al3, g_il3, g_ii3, g_ll3, g_al4, g_il4, g_ii4, g_ll4, g_al5, g_il5, g_ii5, g_ll5, g_al6, g_il6, g_ii6, g_ll6, g_al7, g_il7, g_ii7, g_ll7, g_al8, g_il8, g_ii8, g_ll8, g_al9, g_il9, g_ii9, g_ll9, g_al10, g_il10, g_ii10, g_ll10, g_al11, g_il11, g_ii11, g_ll11, g_al12, g_il12, g_ii12, g_ll12, g_al13, g_il13, g_ii13, g_ll13, g_al14, g_il14, g_ii14, g_ll14, g_al15, g_il15, g_ii15, g_ll15, g_al16, g_il16, g_ii16, g_ll16, g_al17, g_il17, g_ii17, g_ll17, g_al18, g_il18, g_ii18, g_ll18, g_istore_n, g_istore, g_lstore_n, g_lstore, g_iadd, g_isub, g_imul, g_iand, g_ishr, g_idiv, g_irem, g_i2c, g_i2l, g_ladd, g_lmul, g_lcmp, g_pop, g_goto, g_nop, g_if_eq, g_if_ne, g_if_lt, g_if_ge, g_if_gt, g_if_le, g_icmp_eq, g_icmp_ne, g_icmp_lt, g_icmp_ge, g_icmp_gt, g_icmp_le, g_ret0, g_ret1, g_retn, g_retl, g_sld, g_slen, g_stat, List.cons_append, List.nil_append, List.append_nil, List.length_cons, List.length_nil, List.replicate_succ, List.replicate_zero, List.getElem?_cons_zero, List.getElem?_cons_succ, List.set_cons_zero, List.set_cons_succ, List.take_succ_cons, List.take_zero, List.drop_succ_cons, List.drop_zero, List.reverse_cons, List.reverse_nil, Option.toList_some, Option.toList_none, Nat.reduceSub, Nat.reduceAdd, Nat.reduceLeDiff, true_and, and_true, and_self, Option.some.injEq, exists_eq_left', Nat.zero_add, Value.int.injEq, Value.ref.injEq, List.cons.injEq, exists_and_left, and_assoc, exists_eq_left, List.all_cons, List.all_nil, m1_i, m1_r, Bool.and_self, Bool.and_true, g_stat, N_103, bk_103_0, g_count hK, g_spool hK, g_cut hK, ct_3, ecn, e6, s0, s1, s2, n_add, l_low, el, a1, a2, ee, not_true_eq_false, not_false_eq_true, or_true, true_or, or_false, false_or, false_and, and_false, Nat.reduceEqDiff, Nat.reduceLT, Nat.reduceMul, Nat.not_lt_zero, Nat.zero_le, Nat.le_refl, ne_eq, ↓reduceIte, reduceCtorEq]
      rw [B_103_68]
      simp (disch := first | assumption | omega) only [g_iconst, g_iconstN, g_bipush, g_bipushN, g_sipush, g_sipushN, g_ldc, g_ldc2, g_al0, g_il0, g_ii0, g_ll0, g_al1, g_il1, g_ii1, g_ll1, g_al2, g_il2, g_ii2, g_ll2, g_al3, g_il3, g_ii3, g_ll3, g_al4, g_il4, g_ii4, g_ll4, g_al5, g_il5, g_ii5, g_ll5, g_al6, g_il6, g_ii6, g_ll6, g_al7, g_il7, g_ii7, g_ll7, g_al8, g_il8, g_ii8, g_ll8, g_al9, g_il9, g_ii9, g_ll9, g_al10, g_il10, g_ii10, g_ll10, g_al11, g_il11, g_ii11, g_ll11, g_al12, g_il12, g_ii12, g_ll12, g_al13, g_il13, g_ii13, g_ll13, g_al14, g_il14, g_ii14, g_ll14, g_al15, g_il15, g_ii15, g_ll15, g_al16, g_il16, g_ii16, g_ll16, g_al17, g_il17, g_ii17, g_ll17, g_al18, g_il18, g_ii18, g_ll18, g_istore_n, g_istore, g_lstore_n, g_lstore, g_iadd, g_isub, g_imul, g_iand, g_ishr, g_idiv, g_irem, g_i2c, g_i2l, g_ladd, g_lmul, g_lcmp, g_pop, g_goto, g_nop, g_if_eq, g_if_ne, g_if_lt, g_if_ge, g_if_gt, g_if_le, g_icmp_eq, g_icmp_ne, g_icmp_lt, g_icmp_ge, g_icmp_gt, g_icmp_le, g_ret0, g_ret1, g_retn, g_retl, g_sld, g_slen, g_stat, List.cons_append, List.nil_append, List.append_nil, List.length_cons, List.length_nil, List.replicate_succ, List.replicate_zero, List.getElem?_cons_zero, List.getElem?_cons_succ, List.set_cons_zero, List.set_cons_succ, List.take_succ_cons, List.take_zero, List.drop_succ_cons, List.drop_zero, List.reverse_cons, List.reverse_nil, Option.toList_some, Option.toList_none, Nat.reduceSub, Nat.reduceAdd, Nat.reduceLeDiff, true_and, and_true, and_self, Option.some.injEq, exists_eq_left', Nat.zero_add, Value.int.injEq, Value.ref.injEq, List.cons.injEq, exists_and_left, and_assoc, exists_eq_left, List.all_cons, List.all_nil, m1_i, m1_r, Bool.and_self, Bool.and_true, g_stat, bk_103_68, ee, not_true_eq_false, not_false_eq_true, or_true, true_or, or_false, false_or, false_and, and_false, Nat.reduceEqDiff, Nat.reduceLT, Nat.reduceMul, Nat.not_lt_zero, Nat.zero_le, Nat.le_refl, ne_eq, ↓reduceIte, reduceCtorEq]
      rw [B_103_80]
      simp (disch := first | assumption | omega) only [g_iconst, g_iconstN, g_bipush, g_bipushN, g_sipush, g_sipushN, g_ldc, g_ldc2, g_al0, g_il0, g_ii0, g_ll0, g_al1, g_il1, g_ii1, g_ll1, g_al2, g_il2, g_ii2, g_ll2, g_al3, g_il3, g_ii3, g_ll3, g_al4, g_il4, g_ii4, g_ll4, g_al5, g_il5, g_ii5, g_ll5, g_al6, g_il6, g_ii6, g_ll6, g_al7, g_il7, g_ii7, g_ll7, g_al8, g_il8, g_ii8, g_ll8, g_al9, g_il9, g_ii9, g_ll9, g_al10, g_il10, g_ii10, g_ll10, g_al11, g_il11, g_ii11, g_ll11, g_al12, g_il12, g_ii12, g_ll12, g_al13, g_il13, g_ii13, g_ll13, g_al14, g_il14, g_ii14, g_ll14, g_al15, g_il15, g_ii15, g_ll15, g_al16, g_il16, g_ii16, g_ll16, g_al17, g_il17, g_ii17, g_ll17, g_al18, g_il18, g_ii18, g_ll18, g_istore_n, g_istore, g_lstore_n, g_lstore, g_iadd, g_isub, g_imul, g_iand, g_ishr, g_idiv, g_irem, g_i2c, g_i2l, g_ladd, g_lmul, g_lcmp, g_pop, g_goto, g_nop, g_if_eq, g_if_ne, g_if_lt, g_if_ge, g_if_gt, g_if_le, g_icmp_eq, g_icmp_ne, g_icmp_lt, g_icmp_ge, g_icmp_gt, g_icmp_le, g_ret0, g_ret1, g_retn, g_retl, g_sld, g_slen, g_stat, List.cons_append, List.nil_append, List.append_nil, List.length_cons, List.length_nil, List.replicate_succ, List.replicate_zero, List.getElem?_cons_zero, List.getElem?_cons_succ, List.set_cons_zero, List.set_cons_succ, List.take_succ_cons, List.take_zero, List.drop_succ_cons, List.drop_zero, List.reverse_cons, List.reverse_nil, Option.toList_some, Option.toList_none, Nat.reduceSub, Nat.reduceAdd, Nat.reduceLeDiff, true_and, and_true, and_self, Option.some.injEq, exists_eq_left', Nat.zero_add, Value.int.injEq, Value.ref.injEq, List.cons.injEq, exists_and_left, and_assoc, exists_eq_left, List.all_cons, List.all_nil, m1_i, m1_r, Bool.and_self, Bool.and_true, g_stat, bk_103_80, not_true_eq_false, not_false_eq_true, or_true, true_or, or_false, false_or, false_and, and_false, Nat.reduceEqDiff, Nat.reduceLT, Nat.reduceMul, Nat.not_lt_zero, Nat.zero_le, Nat.le_refl, ne_eq, ↓reduceIte, reduceCtorEq]
      rw [B_103_82]
      simp (disch := first | assumption | omega) only [g_iconst, g_iconstN, g_bipush, g_bipushN, g_sipush, g_sipushN, g_ldc, g_ldc2, g_al0, g_il0, g_ii0, g_ll0, g_al1, g_il1, g_ii1, g_ll1, g_al2, g_il2, g_ii2, g_ll2, g_al3, g_il3, g_ii3, g_ll3, g_al4, g_il4, g_ii4, g_ll4, g_al5, g_il5, g_ii5, g_ll5, g_al6, g_il6, g_ii6, g_ll6, g_al7, g_il7, g_ii7, g_ll7, g_al8, g_il8, g_ii8, g_ll8, g_al9, g_il9, g_ii9, g_ll9, g_al10, g_il10, g_ii10, g_ll10, g_al11, g_il11, g_ii11, g_ll11, g_al12, g_il12, g_ii12, g_ll12, g_al13, g_il13, g_ii13, g_ll13, g_al14, g_il14, g_ii14, g_ll14, g_al15, g_il15, g_ii15, g_ll15, g_al16, g_il16, g_ii16, g_ll16, g_al17, g_il17, g_ii17, g_ll17, g_al18, g_il18, g_ii18, g_ll18, g_istore_n, g_istore, g_lstore_n, g_lstore, g_iadd, g_isub, g_imul, g_iand, g_ishr, g_idiv, g_irem, g_i2c, g_i2l, g_ladd, g_lmul, g_lcmp, g_pop, g_goto, g_nop, g_if_eq, g_if_ne, g_if_lt, g_if_ge, g_if_gt, g_if_le, g_icmp_eq, g_icmp_ne, g_icmp_lt, g_icmp_ge, g_icmp_gt, g_icmp_le, g_ret0, g_ret1, g_retn, g_retl, g_sld, g_slen, g_stat, List.cons_append, List.nil_append, List.append_nil, List.length_cons, List.length_nil, List.replicate_succ, List.replicate_zero, List.getElem?_cons_zero, List.getElem?_cons_succ, List.set_cons_zero, List.set_cons_succ, List.take_succ_cons, List.take_zero, List.drop_succ_cons, List.drop_zero, List.reverse_cons, List.reverse_nil, Option.toList_some, Option.toList_none, Nat.reduceSub, Nat.reduceAdd, Nat.reduceLeDiff, true_and, and_true, and_self, Option.some.injEq, exists_eq_left', Nat.zero_add, Value.int.injEq, Value.ref.injEq, List.cons.injEq, exists_and_left, and_assoc, exists_eq_left, List.all_cons, List.all_nil, m1_i, m1_r, Bool.and_self, Bool.and_true, g_stat, bk_103_82, g_count hK, ct_3, B_103_100, bk_103_100, one_1, not_true_eq_false, not_false_eq_true, or_true, true_or, or_false, false_or, false_and, and_false, Nat.reduceEqDiff, Nat.reduceLT, Nat.reduceMul, Nat.not_lt_zero, Nat.zero_le, Nat.le_refl, ne_eq, ↓reduceIte, reduceCtorEq]
      exact same
    · obtain ⟨lw, elw⟩ : ∃ lw, gLow G.1 = lw := ⟨_, rfl⟩
      have hlo : ¬ lw = 6 := fun q => e6 (hF.mp (elw.trans q))
      have hlw : lw < 6 := by
        have := hF6.1
        have h2 : fB (fun s => G.1 (98 * s) == 0) 6 6 = lw := elw
        omega
      have hem : (G.1 (98 * lw) == 0) = true := by
        have h2 : fB (fun s => G.1 (98 * s) == 0) 6 6 = lw := elw
        have := (hF6.2.1 (by omega)).2
        rw [h2] at this
        exact this
      have hne : s ≠ lw := by
        intro q
        have h3 : G.1 (98 * s) = 0 := by rw [q]; exact eq_of_beq hem
        rw [w1, hp] at h3
        exact absurd h3 (by decide)
      have a1 : aCut G.1 s l = nI lw := by unfold aCut; rw [if_neg (by omega), elw, if_neg hlo]
      have a2 : nCut G s l = gA G (wCut G.1 s l) := by unfold nCut; rw [if_neg (by omega), elw, if_neg hlo]
      have gd := gd_cut hG hs (l := l) (by omega)
      rw [a2] at gd
      obtain ⟨f0, f1, f2, f3, f4, f5, f6, f7, f8, f9, f10, f11, f12⟩ := cut_f (l := l) elw hlw hs hne w6 w5 (by omega) hp w1 (hN s hs)
      have x0 := sp_0 f0
      have x1 := sp_1 f0
      have x2 := sp_2 f0
      have y0 := sp_0 f3
      have y1 := sp_1 f3
      have y2 := sp_2 f3
      have y4 := sp_4 f3
      rw [f2] at x0
      rw [f1] at x1
      rw [f5] at y0
      rw [f4] at y1
      rw [f6] at y4
      rw [show gn (wCut G.1 s l) s = l + 1 by unfold gn; rw [f2, f1]] at x2
      rw [show gn (wCut G.1 s l) lw = gc G.1 s - l + 1 + gl G.1 s by unfold gn; rw [f5, f4]] at y2
      have c0 : ∀ n, aCount (wCut G.1 s l) n 0 = nI (cnt (fun s => !(G.1 (98 * s) == 0)) 6 + 1) := by
        intro n
        rw [ecn]
        congr 1
        have z3 := (gd_w gd hlw).1
        have z4 := (gd_w gd hs).1
        refine cnt_up (i := lw) (by rw [hem]; rfl) ?_ 6 hlw (fun j hj hj2 => ?_)
        · rw [ne_b (v := wCut G.1 s l) (p := 1) (by rw [← f3]; exact z3) (by omega)]; rfl
        · by_cases q : j = s
          · subst q
            rw [ne_b (v := wCut G.1 j l) (p := 1) (by rw [← f0]; exact z4) (by omega), ne_b (v := G.1) (p := 1) (by rw [w1, hp]) (by omega)]
          · rw [f9 (98 * j) (by omega) (by omega) (by omega)]
      have ev : aEvent (wCut G.1 s l) 0 2 = nI lw := by
        obtain ⟨l1, l2⟩ := gd_e hG
        unfold wCut
        rw [elw]
        refine (ev_0 ?_ l1).2.2
        simp (disch := omega) only [u_ne, vTr_o, vCc_o]
        exact l2
      have t6 : nI (cnt (fun s => !(G.1 (98 * s) == 0)) 6) = nI 6 ↔ cnt (fun s => !(G.1 (98 * s) == 0)) 6 = 6 := n_eq (by omega) (by omega)
      have t7 : ¬ nI lw = nI s := by rw [n_eq (by omega) (by omega)]; omega
      have t8 : ¬ nI lw < nI 0 := by rw [n_lt (by omega) (by omega)]; omega
      rw [← x2, ← y2, ← s2] at f12
      simp (disch := first | assumption | omega) only [g_iconst, g_iconstN, g_bipush, g_bipushN, g_sipush, g_sipushN, g_ldc, g_ldc2, g_al0, g_il0, g_ii0, g_ll0, g_al1, g_il1, g_ii1, g_ll1, g_al2, g_il2, g_ii2, g_ll2, g_al3, g_il3, g_ii3, g_ll3, g_al4, g_il4, g_ii4, g_ll4, g_al5, g_il5, g_ii5, g_ll5, g_al6, g_il6, g_ii6, g_ll6, g_al7, g_il7, g_ii7, g_ll7, g_al8, g_il8, g_ii8, g_ll8, g_al9, g_il9, g_ii9, g_ll9, g_al10, g_il10, g_ii10, g_ll10, g_al11, g_il11, g_ii11, g_ll11, g_al12, g_il12, g_ii12, g_ll12, g_al13, g_il13, g_ii13, g_ll13, g_al14, g_il14, g_ii14, g_ll14, g_al15, g_il15, g_ii15, g_ll15, g_al16, g_il16, g_ii16, g_ll16, g_al17, g_il17, g_ii17, g_ll17, g_al18, g_il18, g_ii18, g_ll18, g_istore_n, g_istore, g_lstore_n, g_lstore, g_iadd, g_isub, g_imul, g_iand, g_ishr, g_idiv, g_irem, g_i2c, g_i2l, g_ladd, g_lmul, g_lcmp, g_pop, g_goto, g_nop, g_if_eq, g_if_ne, g_if_lt, g_if_ge, g_if_gt, g_if_le, g_icmp_eq, g_icmp_ne, g_icmp_lt, g_icmp_ge, g_icmp_gt, g_icmp_le, g_ret0, g_ret1, g_retn, g_retl, g_sld, g_slen, g_stat, List.cons_append, List.nil_append, List.append_nil, List.length_cons, List.length_nil, List.replicate_succ, List.replicate_zero, List.getElem?_cons_zero, List.getElem?_cons_succ, List.set_cons_zero, List.set_cons_succ, List.take_succ_cons, List.take_zero, List.drop_succ_cons, List.drop_zero, List.reverse_cons, List.reverse_nil, Option.toList_some, Option.toList_none, Nat.reduceSub, Nat.reduceAdd, Nat.reduceLeDiff, true_and, and_true, and_self, Option.some.injEq, exists_eq_left', Nat.zero_add, Value.int.injEq, Value.ref.injEq, List.cons.injEq, exists_and_left, and_assoc, exists_eq_left, List.all_cons, List.all_nil, m1_i, m1_r, Bool.and_self, Bool.and_true, g_stat, N_103, bk_103_0, g_count hK, g_spool hK, g_cut hK, ct_3, ecn, t6, e6, s0, s1, n_add, l_low, el, a1, a2, ee, not_true_eq_false, not_false_eq_true, or_true, true_or, or_false, false_or, false_and, and_false, Nat.reduceEqDiff, Nat.reduceLT, Nat.reduceMul, Nat.not_lt_zero, Nat.zero_le, Nat.le_refl, ne_eq, ↓reduceIte, reduceCtorEq]
      rw [B_103_101]
      simp (disch := first | assumption | omega) only [g_iconst, g_iconstN, g_bipush, g_bipushN, g_sipush, g_sipushN, g_ldc, g_ldc2, g_al0, g_il0, g_ii0, g_ll0, g_al1, g_il1, g_ii1, g_ll1, g_al2, g_il2, g_ii2, g_ll2, g_al3, g_il3, g_ii3, g_ll3, g_al4, g_il4, g_ii4, g_ll4, g_al5, g_il5, g_ii5, g_ll5, g_al6, g_il6, g_ii6, g_ll6, g_al7, g_il7, g_ii7, g_ll7, g_al8, g_il8, g_ii8, g_ll8, g_al9, g_il9, g_ii9, g_ll9, g_al10, g_il10, g_ii10, g_ll10, g_al11, g_il11, g_ii11, g_ll11, g_al12, g_il12, g_ii12, g_ll12, g_al13, g_il13, g_ii13, g_ll13, g_al14, g_il14, g_ii14, g_ll14, g_al15, g_il15, g_ii15, g_ll15, g_al16, g_il16, g_ii16, g_ll16, g_al17, g_il17, g_ii17, g_ll17, g_al18, g_il18, g_ii18, g_ll18, g_istore_n, g_istore, g_lstore_n, g_lstore, g_iadd, g_isub, g_imul, g_iand, g_ishr, g_idiv, g_irem, g_i2c, g_i2l, g_ladd, g_lmul, g_lcmp, g_pop, g_goto, g_nop, g_if_eq, g_if_ne, g_if_lt, g_if_ge, g_if_gt, g_if_le, g_icmp_eq, g_icmp_ne, g_icmp_lt, g_icmp_ge, g_icmp_gt, g_icmp_le, g_ret0, g_ret1, g_retn, g_retl, g_sld, g_slen, g_stat, List.cons_append, List.nil_append, List.append_nil, List.length_cons, List.length_nil, List.replicate_succ, List.replicate_zero, List.getElem?_cons_zero, List.getElem?_cons_succ, List.set_cons_zero, List.set_cons_succ, List.take_succ_cons, List.take_zero, List.drop_succ_cons, List.drop_zero, List.reverse_cons, List.reverse_nil, Option.toList_some, Option.toList_none, Nat.reduceSub, Nat.reduceAdd, Nat.reduceLeDiff, true_and, and_true, and_self, Option.some.injEq, exists_eq_left', Nat.zero_add, Value.int.injEq, Value.ref.injEq, List.cons.injEq, exists_and_left, and_assoc, exists_eq_left, List.all_cons, List.all_nil, m1_i, m1_r, Bool.and_self, Bool.and_true, g_stat, bk_103_101, g_count hK, g_spool hK, g_event hK, ct_3, c0, t7, t8, n_add, n_sub, gA_1, f7, x0, x1, y0, y1, y4, f12, ev, B_103_233, bk_103_233, one_1, not_true_eq_false, not_false_eq_true, or_true, true_or, or_false, false_or, false_and, and_false, Nat.reduceEqDiff, Nat.reduceLT, Nat.reduceMul, Nat.not_lt_zero, Nat.zero_le, Nat.le_refl, ne_eq, ↓reduceIte, reduceCtorEq]
      exact ⟨rfl, gd, ⟨⟨kb, by omega, by rw [gA_1, f8]; exact kb2⟩, gNom_all2 rfl hG f9 hN f10 f11⟩, StG_A⟩
end CUTS
theorem splice_f {v : Nat → Int32} {s t : Nat} (hs : s < 6) (ht : t < 6) (hne : s ≠ t) (hc : gc v s + gc v t ≤ 30) (hcl : gl v t ≤ 1) (hp : gp v s = 1) (hpt : gp v t = 1) (h0 : v (98 * s) = nI (gp v s)) (hN : gNom v s) (hNt : gNom v t) :
    gp (wSplice v s t) s = 1 ∧ gl (wSplice v s t) s = gl v t ∧ gc (wSplice v s t) s = gc v s + gc v t ∧ gp (wSplice v s t) t = 0 ∧ wSplice v s t 591 = v 591 ∧ wSplice v s t 593 = v 593 ∧ (∀ x, x < 588 → ¬ (98 * s ≤ x ∧ x < 98 * s + 98) → ¬ (98 * t ≤ x ∧ x < 98 * t + 98) → wSplice v s t x = v x) ∧ gNom (wSplice v s t) s ∧ gNom (wSplice v s t) t := by
  unfold wSplice
  generalize hw : vTl (vU (vU (vU (vU (vU (vTr (vCc v t 0 s (gc v s) (gc v t + gl v t)) t 0 s (gc v s) (gc v t)) (98 * s + 1) (nI (gl v t))) (98 * s + 2) (nI (gc v s + gc v t))) (98 * t) 0) (98 * t + 1) 0) (98 * t + 2) 0) (gln v) 4 (nI s) (nI (gc v s + gc v t)) = w
  have e0 : w (98 * s) = nI 1 := by rw [← hw]; simp (disch := omega) only [vTl_o, u_ne, vTr_o, vCc_o]; rw [h0, hp]
  have e1 : w (98 * s + 1) = nI (gl v t) := by rw [← hw]; simp (disch := omega) only [vTl_o, u_ne, u_eq]
  have e2 : w (98 * s + 2) = nI (gc v s + gc v t) := by rw [← hw]; simp (disch := omega) only [vTl_o, u_ne, u_eq]
  have d0 : w (98 * t) = nI 0 := by rw [← hw]; simp (disch := omega) only [vTl_o, u_ne, u_eq]; rfl
  have g0 := gp_of e0 (by omega)
  have g1 := gl_of e1 (by omega)
  have g2 := gc_of e2 (by omega)
  have k0 := gp_of d0 (by omega)
  have sN : ∀ k, k ≤ gc v s → w (98 * s + (36 + k)) = v (98 * s + (36 + k)) := by
    intro k hk; rw [← hw]; simp (disch := omega) only [vTl_o, u_ne, vTr_o, vCc_o]
  have tN : ∀ k, k < gc v t + gl v t → w (98 * s + (36 + (gc v s + 1 + k))) = v (98 * t + (36 + (0 + 1 + k))) := by
    intro k hk; rw [← hw]; simp (disch := omega) only [vTl_o, u_ne, vTr_o]; exact vCc_n hk (by omega)
  obtain ⟨n1, n2, n3⟩ := hN hp
  obtain ⟨m1', m2, m3⟩ := hNt hpt
  refine ⟨g0, g1, g2, k0, ?_, ?_, fun x hx hx2 hx3 => ?_, fun _ => ?_, fun q => ?_⟩
  · rw [← hw]; simp (disch := omega) only [vTl_o, u_ne, vTr_o, vCc_o]
  · rw [← hw]; simp (disch := omega) only [vTl_o, u_ne, vTr_o, vCc_o]
  · rw [← hw]; simp (disch := omega) only [vTl_o, u_ne, vTr_o, vCc_o]
  · rw [g1, g2]
    refine ⟨?_, fun i hi => ?_, fun z => ?_⟩
    · have := sN 0 (by omega)
      rw [show 36 + 0 = 36 from rfl] at this
      rw [this]; exact n1
    · by_cases c : i < gc v s
      · rw [sN (i + 1) (by omega)]; exact n2 i c
      · have := tN (i - gc v s) (by omega)
        rw [show gc v s + 1 + (i - gc v s) = i + 1 by omega, show 0 + 1 + (i - gc v s) = i - gc v s + 1 by omega] at this
        rw [this]; exact m2 (i - gc v s) (by omega)
    · have := tN (gc v t) (by omega)
      rw [show gc v s + 1 + gc v t = gc v s + gc v t + 1 by omega, show 0 + 1 + gc v t = gc v t + 1 by omega] at this
      rw [this]; exact m3 z
  · rw [k0] at q; omega
section SPLICES
variable {K : mK} {G : gS} {b s : Nat} {g : Int32}
set_option maxHeartbeats 4000000 in
theorem l_splices (hG : Good K G) (hI : Inv b G) (hs : s < 6) (hp : gp G.1 s = 1) : EgM K 104 [.ref 0, .int (nI s), .int g] G (Pst K b G) := by
  have hK := gd_K hG
  obtain ⟨⟨kb, kb1, kb2⟩, hN⟩ := id hI
  obtain ⟨w1, w2, w3, w4, w5, w6, w7, w8, w9⟩ := gd_w hG hs
  have same : Pst K b G (some (.int (nI 1))) G := ⟨rfl, hG, Inv_s hI, StG_0⟩
  have s0 := sp_0 hp
  have ecn : ∀ (v : Nat → Int32) n, aCount v n 0 = nI (cnt (fun s => !(v (98 * s) == 0)) 6) := fun _ _ => rfl
  obtain ⟨t, ht, et⟩ := low_e g (n := 6) (by omega)
  obtain ⟨u1, u2, u3, u4, u5, u6, u7, u8, u9⟩ := gd_w hG ht
  have d4 : ¬ nI 0 ≤ (-4 : Int32) := by decide
  have d5 : ¬ nI (gc G.1 s) < nI 0 := by rw [n_lt (by omega) (by omega)]; omega
  unfold EgM
  rw [B_104_0]
  by_cases e1 : t = s
  · have a1 : aSplice G.1 s s = -2 := if_pos rfl
    have a2 : nSplice G s s = G := if_pos rfl
    rw [e1] at et
    simp (disch := first | assumption | omega) only [g_iconst, g_iconstN, g_bipush, g_bipushN, g_sipush, g_sipushN, g_ldc, g_ldc2, g_al0, g_il0, g_ii0, g_ll0, g_al1, g_il1, g_ii1, g_ll1, g_al2, g_il2, g_ii2, g_ll2, g_al3, g_il3, g_ii3, g_ll3, g_al4, g_il4, g_ii4, g_ll4, g_al5, g_il5, g_ii5, g_ll5, g_al6, g_il6, g_ii6, g_ll6, g_al7, g_il7, g_ii7, g_ll7, g_al8, g_il8, g_ii8, g_ll8, g_al9, g_il9, g_ii9, g_ll9, g_al10, g_il10, g_ii10, g_ll10, g_al11, g_il11, g_ii11, g_ll11, g_al12, g_il12, g_ii12, g_ll12, g_al13, g_il13, g_ii13, g_ll13, g_al14, g_il14, g_ii14, g_ll14, g_al15, g_il15, g_ii15, g_ll15, g_al16, g_il16, g_ii16, g_ll16, g_al17, g_il17, g_ii17, g_ll17, g_al18, g_il18, g_ii18, g_ll18, g_istore_n, g_istore, g_lstore_n, g_lstore, g_iadd, g_isub, g_imul, g_iand, g_ishr, g_idiv, g_irem, g_i2c, g_i2l, g_ladd, g_lmul, g_lcmp, g_pop, g_goto, g_nop, g_if_eq, g_if_ne, g_if_lt, g_if_ge, g_if_gt, g_if_le, g_icmp_eq, g_icmp_ne, g_icmp_lt, g_icmp_ge, g_icmp_gt, g_icmp_le, g_ret0, g_ret1, g_retn, g_retl, g_sld, g_slen, g_stat, List.cons_append, List.nil_append, List.append_nil, List.length_cons, List.length_nil, List.replicate_succ, List.replicate_zero, List.getElem?_cons_zero, List.getElem?_cons_succ, List.set_cons_zero, List.set_cons_succ, List.take_succ_cons, List.take_zero, List.drop_succ_cons, List.drop_zero, List.reverse_cons, List.reverse_nil, Option.toList_some, Option.toList_none, Nat.reduceSub, Nat.reduceAdd, Nat.reduceLeDiff, true_and, and_true, and_self, Option.some.injEq, exists_eq_left', Nat.zero_add, Value.int.injEq, Value.ref.injEq, List.cons.injEq, exists_and_left, and_assoc, exists_eq_left, List.all_cons, List.all_nil, m1_i, m1_r, Bool.and_self, Bool.and_true, g_stat, N_104, bk_104_0, g_count hK, g_spool hK, g_splice hK, ct_3, s0, l_low, et, a1, a2, B_104_70, bk_104_70, one_1, not_true_eq_false, not_false_eq_true, or_true, true_or, or_false, false_or, false_and, and_false, Nat.reduceEqDiff, Nat.reduceLT, Nat.reduceMul, Nat.not_lt_zero, Nat.zero_le, Nat.le_refl, ne_eq, ↓reduceIte, reduceCtorEq]
    exact same
  · have ee : ¬ nI t = nI s := by rw [n_eq (by omega) (by omega)]; exact e1
    rcases (show gp G.1 t = 0 ∨ gp G.1 t = 1 by omega) with hpt | hpt
    · have a1 : aSplice G.1 s t = -4 := by unfold aSplice; rw [if_neg (by omega), if_pos (by omega)]
      have a2 : nSplice G s t = G := by unfold nSplice; rw [if_neg (by omega), if_pos (by omega)]
      simp (disch := first | assumption | omega) only [g_iconst, g_iconstN, g_bipush, g_bipushN, g_sipush, g_sipushN, g_ldc, g_ldc2, g_al0, g_il0, g_ii0, g_ll0, g_al1, g_il1, g_ii1, g_ll1, g_al2, g_il2, g_ii2, g_ll2, g_al3, g_il3, g_ii3, g_ll3, g_al4, g_il4, g_ii4, g_ll4, g_al5, g_il5, g_ii5, g_ll5, g_al6, g_il6, g_ii6, g_ll6, g_al7, g_il7, g_ii7, g_ll7, g_al8, g_il8, g_ii8, g_ll8, g_al9, g_il9, g_ii9, g_ll9, g_al10, g_il10, g_ii10, g_ll10, g_al11, g_il11, g_ii11, g_ll11, g_al12, g_il12, g_ii12, g_ll12, g_al13, g_il13, g_ii13, g_ll13, g_al14, g_il14, g_ii14, g_ll14, g_al15, g_il15, g_ii15, g_ll15, g_al16, g_il16, g_ii16, g_ll16, g_al17, g_il17, g_ii17, g_ll17, g_al18, g_il18, g_ii18, g_ll18, g_istore_n, g_istore, g_lstore_n, g_lstore, g_iadd, g_isub, g_imul, g_iand, g_ishr, g_idiv, g_irem, g_i2c, g_i2l, g_ladd, g_lmul, g_lcmp, g_pop, g_goto, g_nop, g_if_eq, g_if_ne, g_if_lt, g_if_ge, g_if_gt, g_if_le, g_icmp_eq, g_icmp_ne, g_icmp_lt, g_icmp_ge, g_icmp_gt, g_icmp_le, g_ret0, g_ret1, g_retn, g_retl, g_sld, g_slen, g_stat, List.cons_append, List.nil_append, List.append_nil, List.length_cons, List.length_nil, List.replicate_succ, List.replicate_zero, List.getElem?_cons_zero, List.getElem?_cons_succ, List.set_cons_zero, List.set_cons_succ, List.take_succ_cons, List.take_zero, List.drop_succ_cons, List.drop_zero, List.reverse_cons, List.reverse_nil, Option.toList_some, Option.toList_none, Nat.reduceSub, Nat.reduceAdd, Nat.reduceLeDiff, true_and, and_true, and_self, Option.some.injEq, exists_eq_left', Nat.zero_add, Value.int.injEq, Value.ref.injEq, List.cons.injEq, exists_and_left, and_assoc, exists_eq_left, List.all_cons, List.all_nil, m1_i, m1_r, Bool.and_self, Bool.and_true, g_stat, N_104, bk_104_0, g_count hK, g_spool hK, g_splice hK, ct_3, s0, sp_f hpt, l_low, et, a1, a2, ee, not_true_eq_false, not_false_eq_true, or_true, true_or, or_false, false_or, false_and, and_false, Nat.reduceEqDiff, Nat.reduceLT, Nat.reduceMul, Nat.not_lt_zero, Nat.zero_le, Nat.le_refl, ne_eq, ↓reduceIte, reduceCtorEq]
      rw [B_104_71]
      simp (disch := first | assumption | omega) only [g_iconst, g_iconstN, g_bipush, g_bipushN, g_sipush, g_sipushN, g_ldc, g_ldc2, g_al0, g_il0, g_ii0, g_ll0, g_al1, g_il1, g_ii1, g_ll1, g_al2, g_il2, g_ii2, g_ll2, g_al3, g_il3, g_ii3, g_ll3, g_al4, g_il4, g_ii4, g_ll4, g_al5, g_il5, g_ii5, g_ll5, g_al6, g_il6, g_ii6, g_ll6, g_al7, g_il7, g_ii7, g_ll7, g_al8, g_il8, g_ii8, g_ll8, g_al9, g_il9, g_ii9, g_ll9, g_al10, g_il10, g_ii10, g_ll10, g_al11, g_il11, g_ii11, g_ll11, g_al12, g_il12, g_ii12, g_ll12, g_al13, g_il13, g_ii13, g_ll13, g_al14, g_il14, g_ii14, g_ll14, g_al15, g_il15, g_ii15, g_ll15, g_al16, g_il16, g_ii16, g_ll16, g_al17, g_il17, g_ii17, g_ll17, g_al18, g_il18, g_ii18, g_ll18, g_istore_n, g_istore, g_lstore_n, g_lstore, g_iadd, g_isub, g_imul, g_iand, g_ishr, g_idiv, g_irem, g_i2c, g_i2l, g_ladd, g_lmul, g_lcmp, g_pop, g_goto, g_nop, g_if_eq, g_if_ne, g_if_lt, g_if_ge, g_if_gt, g_if_le, g_icmp_eq, g_icmp_ne, g_icmp_lt, g_icmp_ge, g_icmp_gt, g_icmp_le, g_ret0, g_ret1, g_retn, g_retl, g_sld, g_slen, g_stat, List.cons_append, List.nil_append, List.append_nil, List.length_cons, List.length_nil, List.replicate_succ, List.replicate_zero, List.getElem?_cons_zero, List.getElem?_cons_succ, List.set_cons_zero, List.set_cons_succ, List.take_succ_cons, List.take_zero, List.drop_succ_cons, List.drop_zero, List.reverse_cons, List.reverse_nil, Option.toList_some, Option.toList_none, Nat.reduceSub, Nat.reduceAdd, Nat.reduceLeDiff, true_and, and_true, and_self, Option.some.injEq, exists_eq_left', Nat.zero_add, Value.int.injEq, Value.ref.injEq, List.cons.injEq, exists_and_left, and_assoc, exists_eq_left, List.all_cons, List.all_nil, m1_i, m1_r, Bool.and_self, Bool.and_true, g_stat, bk_104_71, d5, d4, not_true_eq_false, not_false_eq_true, or_true, true_or, or_false, false_or, false_and, and_false, Nat.reduceEqDiff, Nat.reduceLT, Nat.reduceMul, Nat.not_lt_zero, Nat.zero_le, Nat.le_refl, ne_eq, ↓reduceIte, reduceCtorEq]
      rw [B_104_81]
      simp (disch := first | assumption | omega) only [g_iconst, g_iconstN, g_bipush, g_bipushN, g_sipush, g_sipushN, g_ldc, g_ldc2, g_al0, g_il0, g_ii0, g_ll0, g_al1, g_il1, g_ii1, g_ll1, g_al2, g_il2, g_ii2, g_ll2, g_al3, g_il3, g_ii3, g_ll3, g_al4, g_il4, g_ii4, g_ll4, g_al5, g_il5, g_ii5, g_ll5, g_al6, g_il6, g_ii6, g_ll6, g_al7, g_il7, g_ii7, g_ll7, g_al8, g_il8, g_ii8, g_ll8, g_al9, g_il9, g_ii9, g_ll9, g_al10, g_il10, g_ii10, g_ll10, g_al11, g_il11, g_ii11, g_ll11, g_al12, g_il12, g_ii12, g_ll12, g_al13, g_il13, g_ii13, g_ll13, g_al14, g_il14, g_ii14, g_ll14, g_al15, g_il15, g_ii15, g_ll15, g_al16, g_il16, g_ii16, g_ll16, g_al17, g_il17, g_ii17, g_ll17, g_al18, g_il18, g_ii18, g_ll18, g_istore_n, g_istore, g_lstore_n, g_lstore, g_iadd, g_isub, g_imul, g_iand, g_ishr, g_idiv, g_irem, g_i2c, g_i2l, g_ladd, g_lmul, g_lcmp, g_pop, g_goto, g_nop, g_if_eq, g_if_ne, g_if_lt, g_if_ge, g_if_gt, g_if_le, g_icmp_eq, g_icmp_ne, g_icmp_lt, g_icmp_ge, g_icmp_gt, g_icmp_le, g_ret0, g_ret1, g_retn, g_retl, g_sld, g_slen, g_stat, List.cons_append, List.nil_append, List.append_nil, List.length_cons, List.length_nil, List.replicate_succ, List.replicate_zero, List.getElem?_cons_zero, List.getElem?_cons_succ, List.set_cons_zero, List.set_cons_succ, List.take_succ_cons, List.take_zero, List.drop_succ_cons, List.drop_zero, List.reverse_cons, List.reverse_nil, Option.toList_some, Option.toList_none, Nat.reduceSub, Nat.reduceAdd, Nat.reduceLeDiff, true_and, and_true, and_self, Option.some.injEq, exists_eq_left', Nat.zero_add, Value.int.injEq, Value.ref.injEq, List.cons.injEq, exists_and_left, and_assoc, exists_eq_left, List.all_cons, List.all_nil, m1_i, m1_r, Bool.and_self, Bool.and_true, g_stat, bk_104_81, B_104_93, bk_104_93, one_1, not_true_eq_false, not_false_eq_true, or_true, true_or, or_false, false_or, false_and, and_false, Nat.reduceEqDiff, Nat.reduceLT, Nat.reduceMul, Nat.not_lt_zero, Nat.zero_le, Nat.le_refl, ne_eq, ↓reduceIte, reduceCtorEq]
      exact same
    · have t0 := sp_0 hpt
      have t1 := sp_1 hpt
      have d6 : nI 0 ≤ nI (gc G.1 t) := by rw [n_le (by omega) (by omega)]; omega
      by_cases e3 : 30 < gc G.1 s + gc G.1 t
      · have a1 : aSplice G.1 s t = -3 := by unfold aSplice; rw [if_neg (by omega), if_neg (by omega), if_pos e3]
        have a2 : nSplice G s t = G := by unfold nSplice; rw [if_neg (by omega), if_neg (by omega), if_pos e3]
        have d7 : ¬ gc G.1 s + gc G.1 t ≤ 30 := by omega
        simp (disch := first | assumption | omega) only [g_iconst, g_iconstN, g_bipush, g_bipushN, g_sipush, g_sipushN, g_ldc, g_ldc2, g_al0, g_il0, g_ii0, g_ll0, g_al1, g_il1, g_ii1, g_ll1, g_al2, g_il2, g_ii2, g_ll2, g_al3, g_il3, g_ii3, g_ll3, g_al4, g_il4, g_ii4, g_ll4, g_al5, g_il5, g_ii5, g_ll5, g_al6, g_il6, g_ii6, g_ll6, g_al7, g_il7, g_ii7, g_ll7, g_al8, g_il8, g_ii8, g_ll8, g_al9, g_il9, g_ii9, g_ll9, g_al10, g_il10, g_ii10, g_ll10, g_al11, g_il11, g_ii11, g_ll11, g_al12, g_il12, g_ii12, g_ll12, g_al13, g_il13, g_ii13, g_ll13, g_al14, g_il14, g_ii14, g_ll14, g_al15, g_il15, g_ii15, g_ll15, g_al16, g_il16, g_ii16, g_ll16, g_al17, g_il17, g_ii17, g_ll17, g_al18, g_il18, g_ii18, g_ll18, g_istore_n, g_istore, g_lstore_n, g_lstore, g_iadd, g_isub, g_imul, g_iand, g_ishr, g_idiv, g_irem, g_i2c, g_i2l, g_ladd, g_lmul, g_lcmp, g_pop, g_goto, g_nop, g_if_eq, g_if_ne, g_if_lt, g_if_ge, g_if_gt, g_if_le, g_icmp_eq, g_icmp_ne, g_icmp_lt, g_icmp_ge, g_icmp_gt, g_icmp_le, g_ret0, g_ret1, g_retn, g_retl, g_sld, g_slen, g_stat, List.cons_append, List.nil_append, List.append_nil, List.length_cons, List.length_nil, List.replicate_succ, List.replicate_zero, List.getElem?_cons_zero, List.getElem?_cons_succ, List.set_cons_zero, List.set_cons_succ, List.take_succ_cons, List.take_zero, List.drop_succ_cons, List.drop_zero, List.reverse_cons, List.reverse_nil, Option.toList_some, Option.toList_none, Nat.reduceSub, Nat.reduceAdd, Nat.reduceLeDiff, true_and, and_true, and_self, Option.some.injEq, exists_eq_left', Nat.zero_add, Value.int.injEq, Value.ref.injEq, List.cons.injEq, exists_and_left, and_assoc, exists_eq_left, List.all_cons, List.all_nil, m1_i, m1_r, Bool.and_self, Bool.and_true, g_stat, N_104, bk_104_0, g_count hK, g_spool hK, g_splice hK, ct_3, s0, t0, t1, l_low, et, a1, a2, ee, not_true_eq_false, not_false_eq_true, or_true, true_or, or_false, false_or, false_and, and_false, Nat.reduceEqDiff, Nat.reduceLT, Nat.reduceMul, Nat.not_lt_zero, Nat.zero_le, Nat.le_refl, ne_eq, ↓reduceIte, reduceCtorEq]
        rw [B_104_71]
        simp (disch := first | assumption | omega) only [g_iconst, g_iconstN, g_bipush, g_bipushN, g_sipush, g_sipushN, g_ldc, g_ldc2, g_al0, g_il0, g_ii0, g_ll0, g_al1, g_il1, g_ii1, g_ll1, g_al2, g_il2, g_ii2, g_ll2, g_al3, g_il3, g_ii3, g_ll3, g_al4, g_il4, g_ii4, g_ll4, g_al5, g_il5, g_ii5, g_ll5, g_al6, g_il6, g_ii6, g_ll6, g_al7, g_il7, g_ii7, g_ll7, g_al8, g_il8, g_ii8, g_ll8, g_al9, g_il9, g_ii9, g_ll9, g_al10, g_il10, g_ii10, g_ll10, g_al11, g_il11, g_ii11, g_ll11, g_al12, g_il12, g_ii12, g_ll12, g_al13, g_il13, g_ii13, g_ll13, g_al14, g_il14, g_ii14, g_ll14, g_al15, g_il15, g_ii15, g_ll15, g_al16, g_il16, g_ii16, g_ll16, g_al17, g_il17, g_ii17, g_ll17, g_al18, g_il18, g_ii18, g_ll18, g_istore_n, g_istore, g_lstore_n, g_lstore, g_iadd, g_isub, g_imul, g_iand, g_ishr, g_idiv, g_irem, g_i2c, g_i2l, g_ladd, g_lmul, g_lcmp, g_pop, g_goto, g_nop, g_if_eq, g_if_ne, g_if_lt, g_if_ge, g_if_gt, g_if_le, g_icmp_eq, g_icmp_ne, g_icmp_lt, g_icmp_ge, g_icmp_gt, g_icmp_le, g_ret0, g_ret1, g_retn, g_retl, g_sld, g_slen, g_stat, List.cons_append, List.nil_append, List.append_nil, List.length_cons, List.length_nil, List.replicate_succ, List.replicate_zero, List.getElem?_cons_zero, List.getElem?_cons_succ, List.set_cons_zero, List.set_cons_succ, List.take_succ_cons, List.take_zero, List.drop_succ_cons, List.drop_zero, List.reverse_cons, List.reverse_nil, Option.toList_some, Option.toList_none, Nat.reduceSub, Nat.reduceAdd, Nat.reduceLeDiff, true_and, and_true, and_self, Option.some.injEq, exists_eq_left', Nat.zero_add, Value.int.injEq, Value.ref.injEq, List.cons.injEq, exists_and_left, and_assoc, exists_eq_left, List.all_cons, List.all_nil, m1_i, m1_r, Bool.and_self, Bool.and_true, g_stat, bk_104_71, d5, d6, not_true_eq_false, not_false_eq_true, or_true, true_or, or_false, false_or, false_and, and_false, Nat.reduceEqDiff, Nat.reduceLT, Nat.reduceMul, Nat.not_lt_zero, Nat.zero_le, Nat.le_refl, ne_eq, ↓reduceIte, reduceCtorEq]
        rw [B_104_94]
        simp (disch := first | assumption | omega) only [g_iconst, g_iconstN, g_bipush, g_bipushN, g_sipush, g_sipushN, g_ldc, g_ldc2, g_al0, g_il0, g_ii0, g_ll0, g_al1, g_il1, g_ii1, g_ll1, g_al2, g_il2, g_ii2, g_ll2, g_al3, g_il3, g_ii3, g_ll3, g_al4, g_il4, g_ii4, g_ll4, g_al5, g_il5, g_ii5, g_ll5, g_al6, g_il6, g_ii6, g_ll6, g_al7, g_il7, g_ii7, g_ll7, g_al8, g_il8, g_ii8, g_ll8, g_al9, g_il9, g_ii9, g_ll9, g_al10, g_il10, g_ii10, g_ll10, g_al11, g_il11, g_ii11, g_ll11, g_al12, g_il12, g_ii12, g_ll12, g_al13, g_il13, g_ii13, g_ll13, g_al14, g_il14, g_ii14, g_ll14, g_al15, g_il15, g_ii15, g_ll15, g_al16, g_il16, g_ii16, g_ll16, g_al17, g_il17, g_ii17, g_ll17, g_al18, g_il18, g_ii18, g_ll18, g_istore_n, g_istore, g_lstore_n, g_lstore, g_iadd, g_isub, g_imul, g_iand, g_ishr, g_idiv, g_irem, g_i2c, g_i2l, g_ladd, g_lmul, g_lcmp, g_pop, g_goto, g_nop, g_if_eq, g_if_ne, g_if_lt, g_if_ge, g_if_gt, g_if_le, g_icmp_eq, g_icmp_ne, g_icmp_lt, g_icmp_ge, g_icmp_gt, g_icmp_le, g_ret0, g_ret1, g_retn, g_retl, g_sld, g_slen, g_stat, List.cons_append, List.nil_append, List.append_nil, List.length_cons, List.length_nil, List.replicate_succ, List.replicate_zero, List.getElem?_cons_zero, List.getElem?_cons_succ, List.set_cons_zero, List.set_cons_succ, List.take_succ_cons, List.take_zero, List.drop_succ_cons, List.drop_zero, List.reverse_cons, List.reverse_nil, Option.toList_some, Option.toList_none, Nat.reduceSub, Nat.reduceAdd, Nat.reduceLeDiff, true_and, and_true, and_self, Option.some.injEq, exists_eq_left', Nat.zero_add, Value.int.injEq, Value.ref.injEq, List.cons.injEq, exists_and_left, and_assoc, exists_eq_left, List.all_cons, List.all_nil, m1_i, m1_r, Bool.and_self, Bool.and_true, g_stat, bk_104_94, n_add, n_le, d7, g_count hK, B_104_126, bk_104_126, one_1, not_true_eq_false, not_false_eq_true, or_true, true_or, or_false, false_or, false_and, and_false, Nat.reduceEqDiff, Nat.reduceLT, Nat.reduceMul, Nat.not_lt_zero, Nat.zero_le, Nat.le_refl, ne_eq, ↓reduceIte, reduceCtorEq]
        exact same
      · have a1 : aSplice G.1 s t = nI (gc G.1 s + gc G.1 t) := by unfold aSplice; rw [if_neg (by omega), if_neg (by omega), if_neg e3]
        have a2 : nSplice G s t = gA G (wSplice G.1 s t) := by unfold nSplice; rw [if_neg (by omega), if_neg (by omega), if_neg e3]
        have d7 : gc G.1 s + gc G.1 t ≤ 30 := by omega
        have gd := gd_splice hG hs ht
        rw [a2] at gd
        obtain ⟨f0, f1, f2, f3, f4, f5, f6, f7, f8⟩ := splice_f hs ht (fun q => e1 q.symm) d7 u5 hp hpt w1 (hN s hs) (hN t ht)
        have x1 := sp_1 f0
        rw [f1] at x1
        have y0 := sp_f f3 0
        have c0 : cnt (fun s => !(G.1 (98 * s) == 0)) 6 = cnt (fun r => !(wSplice G.1 s t (98 * r) == 0)) 6 + 1 := by
          have z3 := (gd_w gd ht).1
          have z4 := (gd_w gd hs).1
          refine cnt_up (i := t) ?_ ?_ 6 ht (fun j hj hj2 => ?_)
          · rw [ne_b (v := wSplice G.1 s t) (p := 0) (by rw [← f3]; exact z3) (by omega)]; rfl
          · rw [ne_b (v := G.1) (p := 1) (by rw [u1, hpt]) (by omega)]; rfl
          · by_cases q : j = s
            · subst q
              rw [ne_b (v := wSplice G.1 j t) (p := 1) (by rw [← f0]; exact z4) (by omega), ne_b (v := G.1) (p := 1) (by rw [w1, hp]) (by omega)]
            · rw [f6 (98 * j) (by omega) (by omega) (by omega)]
        obtain ⟨ev0, ev1, -⟩ : aEvent (wSplice G.1 s t) 0 0 = 4 ∧ aEvent (wSplice G.1 s t) 0 1 = nI s ∧ aEvent (wSplice G.1 s t) 0 2 = nI (gc G.1 s + gc G.1 t) := by
          obtain ⟨l1, l2⟩ := gd_e hG
          unfold wSplice
          refine ev_0 ?_ l1
          simp (disch := omega) only [u_ne, vTr_o, vCc_o]
          exact l2
        have e4 : nI 4 = (4 : Int32) := rfl
        have ev0' : aEvent (wSplice G.1 s t) 0 0 = nI 4 := ev0
        have hcb := cnt_le (fun r => !(wSplice G.1 s t (98 * r) == 0)) 6
        simp (disch := first | assumption | omega) only [g_iconst, g_iconstN, g_bipush, g_bipushN, g_sipush, g_sipushN, g_ldc, g_ldc2, g_al0, g_il0, g_ii0, g_ll0, g_al1, g_il1, g_ii1, g_ll1, g_al2, g_il2, g_ii2, g_ll2, g_al3, g_il3, g_ii3, g_ll3, g_al4, g_il4, g_ii4, g_ll4, g_al5, g_il5, g_ii5, g_ll5, g_al6, g_il6, g_ii6, g_ll6, g_al7, g_il7, g_ii7, g_ll7, g_al8, g_il8, g_ii8, g_ll8, g_al9, g_il9, g_ii9, g_ll9, g_al10, g_il10, g_ii10, g_ll10, g_al11, g_il11, g_ii11, g_ll11, g_al12, g_il12, g_ii12, g_ll12, g_al13, g_il13, g_ii13, g_ll13, g_al14, g_il14, g_ii14, g_ll14, g_al15, g_il15, g_ii15, g_ll15, g_al16, g_il16, g_ii16, g_ll16, g_al17, g_il17, g_ii17, g_ll17, g_al18, g_il18, g_ii18, g_ll18, g_istore_n, g_istore, g_lstore_n, g_lstore, g_iadd, g_isub, g_imul, g_iand, g_ishr, g_idiv, g_irem, g_i2c, g_i2l, g_ladd, g_lmul, g_lcmp, g_pop, g_goto, g_nop, g_if_eq, g_if_ne, g_if_lt, g_if_ge, g_if_gt, g_if_le, g_icmp_eq, g_icmp_ne, g_icmp_lt, g_icmp_ge, g_icmp_gt, g_icmp_le, g_ret0, g_ret1, g_retn, g_retl, g_sld, g_slen, g_stat, List.cons_append, List.nil_append, List.append_nil, List.length_cons, List.length_nil, List.replicate_succ, List.replicate_zero, List.getElem?_cons_zero, List.getElem?_cons_succ, List.set_cons_zero, List.set_cons_succ, List.take_succ_cons, List.take_zero, List.drop_succ_cons, List.drop_zero, List.reverse_cons, List.reverse_nil, Option.toList_some, Option.toList_none, Nat.reduceSub, Nat.reduceAdd, Nat.reduceLeDiff, true_and, and_true, and_self, Option.some.injEq, exists_eq_left', Nat.zero_add, Value.int.injEq, Value.ref.injEq, List.cons.injEq, exists_and_left, and_assoc, exists_eq_left, List.all_cons, List.all_nil, m1_i, m1_r, Bool.and_self, Bool.and_true, g_stat, N_104, bk_104_0, g_count hK, g_spool hK, g_splice hK, ct_3, s0, t0, t1, l_low, et, a1, a2, ee, ecn, c0, not_true_eq_false, not_false_eq_true, or_true, true_or, or_false, false_or, false_and, and_false, Nat.reduceEqDiff, Nat.reduceLT, Nat.reduceMul, Nat.not_lt_zero, Nat.zero_le, Nat.le_refl, ne_eq, ↓reduceIte, reduceCtorEq]
        rw [B_104_71]
        simp (disch := first | assumption | omega) only [g_iconst, g_iconstN, g_bipush, g_bipushN, g_sipush, g_sipushN, g_ldc, g_ldc2, g_al0, g_il0, g_ii0, g_ll0, g_al1, g_il1, g_ii1, g_ll1, g_al2, g_il2, g_ii2, g_ll2, g_al3, g_il3, g_ii3, g_ll3, g_al4, g_il4, g_ii4, g_ll4, g_al5, g_il5, g_ii5, g_ll5, g_al6, g_il6, g_ii6, g_ll6, g_al7, g_il7, g_ii7, g_ll7, g_al8, g_il8, g_ii8, g_ll8, g_al9, g_il9, g_ii9, g_ll9, g_al10, g_il10, g_ii10, g_ll10, g_al11, g_il11, g_ii11, g_ll11, g_al12, g_il12, g_ii12, g_ll12, g_al13, g_il13, g_ii13, g_ll13, g_al14, g_il14, g_ii14, g_ll14, g_al15, g_il15, g_ii15, g_ll15, g_al16, g_il16, g_ii16, g_ll16, g_al17, g_il17, g_ii17, g_ll17, g_al18, g_il18, g_ii18, g_ll18, g_istore_n, g_istore, g_lstore_n, g_lstore, g_iadd, g_isub, g_imul, g_iand, g_ishr, g_idiv, g_irem, g_i2c, g_i2l, g_ladd, g_lmul, g_lcmp, g_pop, g_goto, g_nop, g_if_eq, g_if_ne, g_if_lt, g_if_ge, g_if_gt, g_if_le, g_icmp_eq, g_icmp_ne, g_icmp_lt, g_icmp_ge, g_icmp_gt, g_icmp_le, g_ret0, g_ret1, g_retn, g_retl, g_sld, g_slen, g_stat, List.cons_append, List.nil_append, List.append_nil, List.length_cons, List.length_nil, List.replicate_succ, List.replicate_zero, List.getElem?_cons_zero, List.getElem?_cons_succ, List.set_cons_zero, List.set_cons_succ, List.take_succ_cons, List.take_zero, List.drop_succ_cons, List.drop_zero, List.reverse_cons, List.reverse_nil, Option.toList_some, Option.toList_none, Nat.reduceSub, Nat.reduceAdd, Nat.reduceLeDiff, true_and, and_true, and_self, Option.some.injEq, exists_eq_left', Nat.zero_add, Value.int.injEq, Value.ref.injEq, List.cons.injEq, exists_and_left, and_assoc, exists_eq_left, List.all_cons, List.all_nil, m1_i, m1_r, Bool.and_self, Bool.and_true, g_stat, bk_104_71, d5, d6, not_true_eq_false, not_false_eq_true, or_true, true_or, or_false, false_or, false_and, and_false, Nat.reduceEqDiff, Nat.reduceLT, Nat.reduceMul, Nat.not_lt_zero, Nat.zero_le, Nat.le_refl, ne_eq, ↓reduceIte, reduceCtorEq]
        rw [B_104_94]
        simp (disch := first | assumption | omega) only [g_iconst, g_iconstN, g_bipush, g_bipushN, g_sipush, g_sipushN, g_ldc, g_ldc2, g_al0, g_il0, g_ii0, g_ll0, g_al1, g_il1, g_ii1, g_ll1, g_al2, g_il2, g_ii2, g_ll2, g_al3, g_il3, g_ii3, g_ll3, g_al4, g_il4, g_ii4, g_ll4, g_al5, g_il5, g_ii5, g_ll5, g_al6, g_il6, g_ii6, g_ll6, g_al7, g_il7, g_ii7, g_ll7, g_al8, g_il8, g_ii8, g_ll8, g_al9, g_il9, g_ii9, g_ll9, g_al10, g_il10, g_ii10, g_ll10, g_al11, g_il11, g_ii11, g_ll11, g_al12, g_il12, g_ii12, g_ll12, g_al13, g_il13, g_ii13, g_ll13, g_al14, g_il14, g_ii14, g_ll14, g_al15, g_il15, g_ii15, g_ll15, g_al16, g_il16, g_ii16, g_ll16, g_al17, g_il17, g_ii17, g_ll17, g_al18, g_il18, g_ii18, g_ll18, g_istore_n, g_istore, g_lstore_n, g_lstore, g_iadd, g_isub, g_imul, g_iand, g_ishr, g_idiv, g_irem, g_i2c, g_i2l, g_ladd, g_lmul, g_lcmp, g_pop, g_goto, g_nop, g_if_eq, g_if_ne, g_if_lt, g_if_ge, g_if_gt, g_if_le, g_icmp_eq, g_icmp_ne, g_icmp_lt, g_icmp_ge, g_icmp_gt, g_icmp_le, g_ret0, g_ret1, g_retn, g_retl, g_sld, g_slen, g_stat, List.cons_append, List.nil_append, List.append_nil, List.length_cons, List.length_nil, List.replicate_succ, List.replicate_zero, List.getElem?_cons_zero, List.getElem?_cons_succ, List.set_cons_zero, List.set_cons_succ, List.take_succ_cons, List.take_zero, List.drop_succ_cons, List.drop_zero, List.reverse_cons, List.reverse_nil, Option.toList_some, Option.toList_none, Nat.reduceSub, Nat.reduceAdd, Nat.reduceLeDiff, true_and, and_true, and_self, Option.some.injEq, exists_eq_left', Nat.zero_add, Value.int.injEq, Value.ref.injEq, List.cons.injEq, exists_and_left, and_assoc, exists_eq_left, List.all_cons, List.all_nil, m1_i, m1_r, Bool.and_self, Bool.and_true, g_stat, bk_104_94, n_add, n_le, d7, not_true_eq_false, not_false_eq_true, or_true, true_or, or_false, false_or, false_and, and_false, Nat.reduceEqDiff, Nat.reduceLT, Nat.reduceMul, Nat.not_lt_zero, Nat.zero_le, Nat.le_refl, ne_eq, ↓reduceIte, reduceCtorEq]
        rw [B_104_127]
        simp (disch := first | assumption | omega) only [g_iconst, g_iconstN, g_bipush, g_bipushN, g_sipush, g_sipushN, g_ldc, g_ldc2, g_al0, g_il0, g_ii0, g_ll0, g_al1, g_il1, g_ii1, g_ll1, g_al2, g_il2, g_ii2, g_ll2, g_al3, g_il3, g_ii3, g_ll3, g_al4, g_il4, g_ii4, g_ll4, g_al5, g_il5, g_ii5, g_ll5, g_al6, g_il6, g_ii6, g_ll6, g_al7, g_il7, g_ii7, g_ll7, g_al8, g_il8, g_ii8, g_ll8, g_al9, g_il9, g_ii9, g_ll9, g_al10, g_il10, g_ii10, g_ll10, g_al11, g_il11, g_ii11, g_ll11, g_al12, g_il12, g_ii12, g_ll12, g_al13, g_il13, g_ii13, g_ll13, g_al14, g_il14, g_ii14, g_ll14, g_al15, g_il15, g_ii15, g_ll15, g_al16, g_il16, g_ii16, g_ll16, g_al17, g_il17, g_ii17, g_ll17, g_al18, g_il18, g_ii18, g_ll18, g_istore_n, g_istore, g_lstore_n, g_lstore, g_iadd, g_isub, g_imul, g_iand, g_ishr, g_idiv, g_irem, g_i2c, g_i2l, g_ladd, g_lmul, g_lcmp, g_pop, g_goto, g_nop, g_if_eq, g_if_ne, g_if_lt, g_if_ge, g_if_gt, g_if_le, g_icmp_eq, g_icmp_ne, g_icmp_lt, g_icmp_ge, g_icmp_gt, g_icmp_le, g_ret0, g_ret1, g_retn, g_retl, g_sld, g_slen, g_stat, List.cons_append, List.nil_append, List.append_nil, List.length_cons, List.length_nil, List.replicate_succ, List.replicate_zero, List.getElem?_cons_zero, List.getElem?_cons_succ, List.set_cons_zero, List.set_cons_succ, List.take_succ_cons, List.take_zero, List.drop_succ_cons, List.drop_zero, List.reverse_cons, List.reverse_nil, Option.toList_some, Option.toList_none, Nat.reduceSub, Nat.reduceAdd, Nat.reduceLeDiff, true_and, and_true, and_self, Option.some.injEq, exists_eq_left', Nat.zero_add, Value.int.injEq, Value.ref.injEq, List.cons.injEq, exists_and_left, and_assoc, exists_eq_left, List.all_cons, List.all_nil, m1_i, m1_r, Bool.and_self, Bool.and_true, g_stat, bk_104_127, g_count hK, g_spool hK, g_event hK, gA_1, ct_3, ecn, n_add, n_sub, x1, y0, f4, ev0', ev1, Nat.add_sub_cancel, B_104_206, bk_104_206, one_1, not_true_eq_false, not_false_eq_true, or_true, true_or, or_false, false_or, false_and, and_false, Nat.reduceEqDiff, Nat.reduceLT, Nat.reduceMul, Nat.not_lt_zero, Nat.zero_le, Nat.le_refl, ne_eq, ↓reduceIte, reduceCtorEq]
        exact ⟨rfl, gd, ⟨⟨kb, by omega, by rw [gA_1, f5]; exact kb2⟩, gNom_all2 rfl hG f6 hN f7 f8⟩, StG_A⟩
end SPLICES
