/-! THE RELATION of a class state with a row of the reference; the class's states -/
def okG (x y : Int32) : Prop := ∃ m n : Nat, x = nI m ∧ y = nI n ∧ 2000 ≤ n ∧ n ≤ 9000 ∧ n ≤ m ∧ m ≤ 2 * n
def rW (I : Nat → Nat → Int32) (a : Nat) (v : Nat → Int32) (s p cl c : Nat) : Prop :=
  wF I a p cl c ∧ vF v s p cl c ∧ (p = 0 → cl = 0 ∧ c = 0) ∧ (p = 1 → I a 6 = v (98 * s + 3)) ∧ (p = 1 → I (a + 3) 0 = -1) ∧
  (∀ k, k < ngp p cl c → I (a + 1) k = v (98 * s + (4 + k)) ∧ I (a + 2) k = v (98 * s + (36 + k)) ∧ okG (v (98 * s + (4 + k))) (v (98 * s + (36 + k)))) ∧
  (∀ i, i < c → I (a + 3) (i + 1) = v (98 * s + (68 + i)) ∧ ∃ t, t < 8 ∧ v (98 * s + (68 + i)) = nI t) ∧ (cl = 1 → I (a + 3) (c + 1) = -1)
theorem rW_cong {I I' : Nat → Nat → Int32} {a a' s p cl c : Nat} {v v' : Nat → Int32} (h : rW I a v s p cl c) (hI : ∀ d j, d < 4 → (d = 0 → 3 ≤ j ∧ j ≤ 6) → j < 32 → I' (a' + d) j = I (a + d) j) (hv : ∀ x, 98 * s ≤ x → x < 98 * s + 98 → v' x = v x) : rW I' a' v' s p cl c := by
  obtain ⟨⟨f1, f2, f3, f4, f5, f6⟩, ⟨g1, g2, g3, -⟩, h3, h4, h5, h6, h7, h8⟩ := h
  have i0 : ∀ j, 3 ≤ j → j ≤ 6 → I' a' j = I a j := fun j j1 j2 => hI 0 j (by omega) (fun _ => ⟨j1, j2⟩) (by omega)
  have i1 : ∀ d j, d < 4 → d ≠ 0 → j < 32 → I' (a' + d) j = I (a + d) j := fun d j d1 d2 j1 => hI d j d1 (fun q => absurd q d2) j1
  have hn := ngp_le (p := p) f5 f6
  refine ⟨⟨by rw [i0 3 (by omega) (by omega)]; exact f1, by rw [i0 4 (by omega) (by omega)]; exact f2, by rw [i0 5 (by omega) (by omega)]; exact f3, f4, f5, f6⟩, ⟨by rw [hv _ (by omega) (by omega)]; exact g1, by rw [hv _ (by omega) (by omega)]; exact g2, by rw [hv _ (by omega) (by omega)]; exact g3, f4, f5, f6⟩, h3, fun q => ?_, fun q => ?_, fun k hk => ?_, fun i hi => ?_, fun q => ?_⟩
  · rw [i0 6 (by omega) (by omega), hv _ (by omega) (by omega)]; exact h4 q
  · rw [i1 3 0 (by omega) (by omega) (by omega)]; exact h5 q
  · rw [i1 1 k (by omega) (by omega) (by omega), i1 2 k (by omega) (by omega) (by omega), hv _ (by omega) (by omega), hv _ (by omega) (by omega)]; exact h6 k hk
  · rw [i1 3 (i + 1) (by omega) (by omega) (by omega), hv _ (by omega) (by omega)]; exact h7 i hi
  · rw [i1 3 (c + 1) (by omega) (by omega) (by omega)]; exact h8 q
/-- all but the wires -/
def rE (I : Nat → Nat → Int32) (a : Nat) (v : Nat → Int32) : Prop :=
  I a 2 = v 588 ∧ I a 3 = v 589 ∧ I a 4 = v 590 ∧ I a 5 = v 591 ∧ I a 6 = v 592 ∧ I a 7 = v 593 ∧ I a 8 = v 594 ∧ (∃ ru, ru ≤ 2 ∧ v 588 = nI ru) ∧ (∃ lm, 101 ≤ lm ∧ lm ≤ 200 ∧ v 589 = nI lm) ∧
  ∃ n, n ≤ 10 ∧ I (a + 2) 3 = nI n ∧ v 595 = nI n ∧ ∀ e, e < n → I (a + 3) e = v (596 + 3 * e) ∧ I (a + 4) e = v (597 + 3 * e) ∧ I (a + 5) e = v (598 + 3 * e)
def RC (I : Nat → Nat → Int32) (a : Nat) (v : Nat → Int32) : Prop := (∀ s, s < 6 → ∃ p cl c, rW I (a + 6 + 4 * s) v s p cl c) ∧ rE I a v
/-- which fields and places count, by the offset of the cell in its state -/
def vd (d j : Nat) : Prop := (d = 0 ∧ 2 ≤ j ∧ j ≤ 8) ∨ (d = 2 ∧ j = 3) ∨ (3 ≤ d ∧ d ≤ 5 ∧ j < 10) ∨ (6 ≤ d ∧ d < 30 ∧ d % 4 = 2 ∧ 3 ≤ j ∧ j ≤ 6) ∨ (6 ≤ d ∧ d < 30 ∧ d % 4 ≠ 2 ∧ j < 32)
theorem rE_cong {I I' : Nat → Nat → Int32} {a a' : Nat} {v v' : Nat → Int32} (h : rE I a v) (hI : ∀ d j, d < 6 → vd d j → I' (a' + d) j = I (a + d) j) (hv : ∀ x, 588 ≤ x → x < 626 → v' x = v x) : rE I' a' v' := by
  obtain ⟨h1, h2, h3, h4, h5, h6, h7, ⟨ru, h8, h9⟩, ⟨lm, h10, h11, h12⟩, n, h13, h14, h15, h16⟩ := h
  have i0 : ∀ j, 2 ≤ j → j ≤ 8 → I' a' j = I a j := fun j j1 j2 => hI 0 j (by omega) (Or.inl ⟨rfl, j1, j2⟩)
  have i2 : I' (a' + 2) 3 = I (a + 2) 3 := hI 2 3 (by omega) (Or.inr (Or.inl ⟨rfl, rfl⟩))
  have i3 : ∀ d j, 3 ≤ d → d ≤ 5 → j < 10 → I' (a' + d) j = I (a + d) j := fun d j d1 d2 j1 => hI d j (by omega) (Or.inr (Or.inr (Or.inl ⟨d1, d2, j1⟩)))
  refine ⟨by rw [i0 2 (by omega) (by omega), hv _ (by omega) (by omega)]; exact h1, by rw [i0 3 (by omega) (by omega), hv _ (by omega) (by omega)]; exact h2, by rw [i0 4 (by omega) (by omega), hv _ (by omega) (by omega)]; exact h3, by rw [i0 5 (by omega) (by omega), hv _ (by omega) (by omega)]; exact h4, by rw [i0 6 (by omega) (by omega), hv _ (by omega) (by omega)]; exact h5, by rw [i0 7 (by omega) (by omega), hv _ (by omega) (by omega)]; exact h6, by rw [i0 8 (by omega) (by omega), hv _ (by omega) (by omega)]; exact h7, ⟨ru, h8, by rw [hv _ (by omega) (by omega)]; exact h9⟩, ⟨lm, h10, h11, by rw [hv _ (by omega) (by omega)]; exact h12⟩, n, h13, by rw [i2]; exact h14, by rw [hv _ (by omega) (by omega)]; exact h15, fun e he => ?_⟩
  rw [i3 3 e (by omega) (by omega) (by omega), i3 4 e (by omega) (by omega) (by omega), i3 5 e (by omega) (by omega) (by omega), hv _ (by omega) (by omega), hv _ (by omega) (by omega), hv _ (by omega) (by omega)]
  exact h16 e he
theorem RC_cong {I I' : Nat → Nat → Int32} {a a' : Nat} {v v' : Nat → Int32} (h : RC I a v) (hI : ∀ d j, d < 30 → vd d j → I' (a' + d) j = I (a + d) j) (hv : ∀ x, x < 626 → v' x = v x) : RC I' a' v' := by
  refine ⟨fun s hs => ?_, rE_cong h.2 (fun d j hd => hI d j (by omega)) (fun x _ hx => hv x hx)⟩
  obtain ⟨p, cl, c, hw⟩ := h.1 s hs
  refine ⟨p, cl, c, rW_cong hw (fun d j hd hd0 hj => ?_) (fun x _ hx => hv x (by omega))⟩
  have := hI (6 + 4 * s + d) j (by omega) (by
    rcases Nat.eq_zero_or_pos d with q | q
    · exact Or.inr (Or.inr (Or.inr (Or.inl ⟨by omega, by omega, by omega, hd0 q⟩)))
    · exact Or.inr (Or.inr (Or.inr (Or.inr ⟨by omega, by omega, by omega, hj⟩))))
  rw [show a' + 6 + 4 * s + d = a' + (6 + 4 * s + d) by omega, show a + 6 + 4 * s + d = a + (6 + 4 * s + d) by omega]
  exact this
def zS (K : mK) (R : Nat → Nat → Option Nat) (a : Nat) : Prop := K.2.2.1 a = (1, 4) ∧ R a 0 = some (a + 1) ∧ K.2.2.1 (a + 1) = (4, 6) ∧ R a 1 = some (a + 2) ∧ zL K R (a + 2) ∧ a < 900 ∧ ∀ s, s < 6 → R (a + 1) s = some (a + 6 + 4 * s) ∧ zW K R (a + 6 + 4 * s)
/-- the state b on the state a -/
def sCp (I : Nat → Nat → Int32) (a b : Nat) : Nat → Nat → Int32 := fun x j =>
  if x = a ∧ 2 ≤ j ∧ j ≤ 8 then I b j else if x = a + 2 ∧ j = 3 then I (b + 2) j else if (x = a + 3 ∨ x = a + 4 ∨ x = a + 5) ∧ j < 10 then I (b + (x - a)) j
  else if a + 6 ≤ x ∧ x < a + 30 ∧ ((x - a) % 4 = 2 ∧ 3 ≤ j ∧ j ≤ 6 ∨ (x - a) % 4 ≠ 2 ∧ j < 32) then I (b + (x - a)) j else I x j
theorem sCp_in {I : Nat → Nat → Int32} {a b d j : Nat} (hd : d < 30) (h : vd d j) : sCp I a b (a + d) j = I (b + d) j := by
  unfold sCp
  rcases h with ⟨rfl, h⟩ | ⟨rfl, rfl⟩ | ⟨h1, h2, h3⟩ | ⟨h1, h2, h3, h4⟩ | ⟨h1, h2, h3, h4⟩
  · rw [if_pos ⟨rfl, h⟩]; rfl
  · rw [if_neg (by omega), if_pos ⟨rfl, rfl⟩]
  · rw [if_neg (by omega), if_neg (by omega), if_pos (by omega), show a + d - a = d by omega]
  · rw [if_neg (by omega), if_neg (by omega), if_neg (by omega), if_pos (by omega), show a + d - a = d by omega]
  · rw [if_neg (by omega), if_neg (by omega), if_neg (by omega), if_pos (by omega), show a + d - a = d by omega]
theorem sCp_o {I : Nat → Nat → Int32} {a b x j : Nat} (h : x < a ∨ a + 30 ≤ x) : sCp I a b x j = I x j := by
  unfold sCp
  rw [if_neg (by omega), if_neg (by omega), if_neg (by omega), if_neg (by omega)]
def sCw (I : Nat → Nat → Int32) (a b s : Nat) : Nat → Nat → Int32 := fun x j =>
  if a + 6 ≤ x ∧ x < a + 6 + 4 * s ∧ ((x - a) % 4 = 2 ∧ 3 ≤ j ∧ j ≤ 6 ∨ (x - a) % 4 ≠ 2 ∧ j < 32) then I (b + (x - a)) j else I x j
theorem sCw_o {I : Nat → Nat → Int32} {a b s x j : Nat} (h : x < a + 6 ∨ a + 6 + 4 * s ≤ x) : sCw I a b s x j = I x j := if_neg (by omega)
theorem sCw_s {I : Nat → Nat → Int32} {a b s : Nat} (hab : a + 30 ≤ b ∨ b + 30 ≤ a) (hs : s < 6) : wCp (sCw I a b s) (a + 6 + 4 * s) (b + 6 + 4 * s) = sCw I a b (s + 1) := by
  have e : ∀ d j, d < 4 → sCw I a b s (b + 6 + 4 * s + d) j = I (b + 6 + 4 * s + d) j := fun d j hd => sCw_o (by omega)
  have e0 : ∀ j, sCw I a b s (b + 6 + 4 * s) j = I (b + 6 + 4 * s) j := fun j => e 0 j (by omega)
  funext x j
  simp only [wCp]
  rw [e0, e 1 j (by omega), e 2 j (by omega), e 3 j (by omega)]
  simp only [sCw]
  by_cases c1 : x = a + 6 + 4 * s ∧ 3 ≤ j ∧ j ≤ 6
  · rw [if_pos c1, if_pos (by omega), show b + (x - a) = b + 6 + 4 * s by omega]
  · rw [if_neg c1]
    by_cases c2 : x = a + 6 + 4 * s + 1 ∧ j < 32
    · rw [if_pos c2, if_pos (by omega), show b + (x - a) = b + 6 + 4 * s + 1 by omega]
    · rw [if_neg c2]
      by_cases c3 : x = a + 6 + 4 * s + 2 ∧ j < 32
      · rw [if_pos c3, if_pos (by omega), show b + (x - a) = b + 6 + 4 * s + 2 by omega]
      · rw [if_neg c3]
        by_cases c4 : x = a + 6 + 4 * s + 3 ∧ j < 32
        · rw [if_pos c4, if_pos (by omega), show b + (x - a) = b + 6 + 4 * s + 3 by omega]
        · rw [if_neg c4]
          by_cases c5 : a + 6 ≤ x ∧ x < a + 6 + 4 * s ∧ ((x - a) % 4 = 2 ∧ 3 ≤ j ∧ j ≤ 6 ∨ (x - a) % 4 ≠ 2 ∧ j < 32)
          · rw [if_pos c5, if_pos (by omega)]
          · rw [if_neg c5, if_neg (by omega)]
set_option maxHeartbeats 4000000 in
theorem m_scopy {K : mK} {R : Nat → Nat → Option Nat} {I : Nat → Nat → Int32} {a b : Nat} {Q : Option Value → mH → Prop} (h : zS K R a) (h' : zS K R b) (hab : a + 30 ≤ b ∨ b + 30 ≤ a) (hb : ∀ s, s < 6 → ∃ p cl, p ≤ 1 ∧ cl ≤ 1 ∧ I (b + 6 + 4 * s) 3 = nI p ∧ I (b + 6 + 4 * s) 4 = nI cl) :
    EvM 25 [.ref a, .ref b] (K, R, I) Q ↔ Q none (K, R, sCp I a b) := by
  obtain ⟨h0, h1, h2, h3, h4, h5, h6⟩ := id h
  obtain ⟨h0', h1', h2', h3', h4', h5', h6'⟩ := id h'
  refine EvM_iff ?_
  unfold EvM
  rw [B_25_0]
  simp (disch := omega) only [e_iconst, e_bipush, e_sipush, e_iload_n, e_iload, e_aload_n, e_aload, e_istore_n, e_istore, e_astore_n, e_astore, e_iinc, e_iadd, e_isub, e_imul, e_iand, e_ishr, e_idiv, e_i2c, e_dup_i, e_dup_r, e_dup2, e_pop, e_goto, e_nop, e_if_eq, e_if_ne, e_if_lt, e_if_ge, e_if_gt, e_if_le, e_icmp_eq, e_icmp_ne, e_icmp_lt, e_icmp_ge, e_icmp_gt, e_icmp_le, e_tsw, e_ret0, e_ret1, e_retn, e_getI, e_getZ, e_getR, e_getV, e_getC, e_putI, e_putZ, e_putF, e_gst0, e_gst1, e_sld, e_iald, e_cald, e_bald, e_iast, e_cast, e_aald, e_aast, e_alen, e_slen, e_blen, e_newa, e_newq, e_new, e_oinit, e_ctor, e_virt, e_stat, e_min, e_copy, e_ldc, List.cons_append, List.nil_append, List.append_nil, List.length_cons, List.length_nil, List.replicate_succ, List.replicate_zero, List.getElem?_cons_zero, List.getElem?_cons_succ, List.set_cons_zero, List.set_cons_succ, List.take_succ_cons, List.take_zero, List.drop_succ_cons, List.drop_zero, List.reverse_cons, List.reverse_nil, Option.toList_some, Option.toList_none, Nat.reduceSub, Nat.reduceAdd, Nat.reduceLeDiff, true_and, and_true, and_self, Option.some.injEq, exists_eq_left', Nat.zero_add, Value.int.injEq, Value.ref.injEq, List.cons.injEq, exists_and_left, and_assoc, exists_eq_left, List.all_cons, List.all_nil, m1_i, m1_r, Bool.and_self, Bool.and_true, N_25, bk_25_0, if_pos, if_neg, not_true_eq_false, not_false_eq_true, or_true, true_or, or_false, false_or, false_and, and_false, Nat.reduceEqDiff, Nat.reduceLT, Nat.reduceMul, Nat.not_lt_zero, Nat.zero_le, Nat.le_refl, ne_eq, reduceIte, reduceCtorEq]
  have key := loop_dn (n := 6) (P := fun k => Ev 25 (mB 25 2) [.ref a, .ref b, .int (nI k)] [] (K, R, sCw I a b k) (fun v k => v = none ∧ k = (K, R, sCp I a b))) ?_ ?_
  · refine Ev_cg ?_ rfl key
    funext x j; rw [sCw_o (by omega)]
  · intro k hk hnext
    obtain ⟨e1, e2⟩ := h6 k hk
    obtain ⟨e1', e2'⟩ := h6' k hk
    obtain ⟨p, cl, p1, p2, p3, p4⟩ := hb k hk
    have hz := e2.1
    rw [B_25_2]
    simp (disch := omega) only [e_iconst, e_bipush, e_sipush, e_iload_n, e_iload, e_aload_n, e_aload, e_istore_n, e_istore, e_astore_n, e_astore, e_iinc, e_iadd, e_isub, e_imul, e_iand, e_ishr, e_idiv, e_i2c, e_dup_i, e_dup_r, e_dup2, e_pop, e_goto, e_nop, e_if_eq, e_if_ne, e_if_lt, e_if_ge, e_if_gt, e_if_le, e_icmp_eq, e_icmp_ne, e_icmp_lt, e_icmp_ge, e_icmp_gt, e_icmp_le, e_tsw, e_ret0, e_ret1, e_retn, e_getI, e_getZ, e_getR, e_getV, e_getC, e_putI, e_putZ, e_putF, e_gst0, e_gst1, e_sld, e_iald, e_cald, e_bald, e_iast, e_cast, e_aald, e_aast, e_alen, e_slen, e_blen, e_newa, e_newq, e_new, e_oinit, e_ctor, e_virt, e_stat, e_min, e_copy, e_ldc, List.cons_append, List.nil_append, List.append_nil, List.length_cons, List.length_nil, List.replicate_succ, List.replicate_zero, List.getElem?_cons_zero, List.getElem?_cons_succ, List.set_cons_zero, List.set_cons_succ, List.take_succ_cons, List.take_zero, List.drop_succ_cons, List.drop_zero, List.reverse_cons, List.reverse_nil, Option.toList_some, Option.toList_none, Nat.reduceSub, Nat.reduceAdd, Nat.reduceLeDiff, true_and, and_true, and_self, Option.some.injEq, exists_eq_left', Nat.zero_add, Value.int.injEq, Value.ref.injEq, List.cons.injEq, exists_and_left, and_assoc, exists_eq_left, List.all_cons, List.all_nil, m1_i, m1_r, Bool.and_self, Bool.and_true, bk_25_2, h0, h1, h2, h0', h1', h2', e1, e1', hz, o_le_r, if_neg, n_in, n_cl, o_add_l, true_or, or_true, C_36, m_wcopy (I := sCw I a b k) e2 e2' (by omega) (by rw [sCw_o (by omega)]; exact p3) p1 (by rw [sCw_o (by omega)]; exact p4) p2, sCw_s hab hk, if_pos, if_neg, not_true_eq_false, not_false_eq_true, or_true, true_or, or_false, false_or, false_and, and_false, Nat.reduceEqDiff, Nat.reduceLT, Nat.reduceMul, Nat.not_lt_zero, Nat.zero_le, Nat.le_refl, ne_eq, reduceIte, reduceCtorEq]
    exact hnext
  · have hz := h4.1
    rw [B_25_2]
    simp (disch := omega) only [e_iconst, e_bipush, e_sipush, e_iload_n, e_iload, e_aload_n, e_aload, e_istore_n, e_istore, e_astore_n, e_astore, e_iinc, e_iadd, e_isub, e_imul, e_iand, e_ishr, e_idiv, e_i2c, e_dup_i, e_dup_r, e_dup2, e_pop, e_goto, e_nop, e_if_eq, e_if_ne, e_if_lt, e_if_ge, e_if_gt, e_if_le, e_icmp_eq, e_icmp_ne, e_icmp_lt, e_icmp_ge, e_icmp_gt, e_icmp_le, e_tsw, e_ret0, e_ret1, e_retn, e_getI, e_getZ, e_getR, e_getV, e_getC, e_putI, e_putZ, e_putF, e_gst0, e_gst1, e_sld, e_iald, e_cald, e_bald, e_iast, e_cast, e_aald, e_aast, e_alen, e_slen, e_blen, e_newa, e_newq, e_new, e_oinit, e_ctor, e_virt, e_stat, e_min, e_copy, e_ldc, List.cons_append, List.nil_append, List.append_nil, List.length_cons, List.length_nil, List.replicate_succ, List.replicate_zero, List.getElem?_cons_zero, List.getElem?_cons_succ, List.set_cons_zero, List.set_cons_succ, List.take_succ_cons, List.take_zero, List.drop_succ_cons, List.drop_zero, List.reverse_cons, List.reverse_nil, Option.toList_some, Option.toList_none, Nat.reduceSub, Nat.reduceAdd, Nat.reduceLeDiff, true_and, and_true, and_self, Option.some.injEq, exists_eq_left', Nat.zero_add, Value.int.injEq, Value.ref.injEq, List.cons.injEq, exists_and_left, and_assoc, exists_eq_left, List.all_cons, List.all_nil, m1_i, m1_r, Bool.and_self, Bool.and_true, bk_25_2, o_le_r, if_pos, Nat.le_refl, if_pos, if_neg, not_true_eq_false, not_false_eq_true, or_true, true_or, or_false, false_or, false_and, and_false, Nat.reduceEqDiff, Nat.reduceLT, Nat.reduceMul, Nat.not_lt_zero, Nat.zero_le, Nat.le_refl, ne_eq, reduceIte, reduceCtorEq]
    rw [B_25_29]
    simp (disch := omega) only [e_iconst, e_bipush, e_sipush, e_iload_n, e_iload, e_aload_n, e_aload, e_istore_n, e_istore, e_astore_n, e_astore, e_iinc, e_iadd, e_isub, e_imul, e_iand, e_ishr, e_idiv, e_i2c, e_dup_i, e_dup_r, e_dup2, e_pop, e_goto, e_nop, e_if_eq, e_if_ne, e_if_lt, e_if_ge, e_if_gt, e_if_le, e_icmp_eq, e_icmp_ne, e_icmp_lt, e_icmp_ge, e_icmp_gt, e_icmp_le, e_tsw, e_ret0, e_ret1, e_retn, e_getI, e_getZ, e_getR, e_getV, e_getC, e_putI, e_putZ, e_putF, e_gst0, e_gst1, e_sld, e_iald, e_cald, e_bald, e_iast, e_cast, e_aald, e_aast, e_alen, e_slen, e_blen, e_newa, e_newq, e_new, e_oinit, e_ctor, e_virt, e_stat, e_min, e_copy, e_ldc, List.cons_append, List.nil_append, List.append_nil, List.length_cons, List.length_nil, List.replicate_succ, List.replicate_zero, List.getElem?_cons_zero, List.getElem?_cons_succ, List.set_cons_zero, List.set_cons_succ, List.take_succ_cons, List.take_zero, List.drop_succ_cons, List.drop_zero, List.reverse_cons, List.reverse_nil, Option.toList_some, Option.toList_none, Nat.reduceSub, Nat.reduceAdd, Nat.reduceLeDiff, true_and, and_true, and_self, Option.some.injEq, exists_eq_left', Nat.zero_add, Value.int.injEq, Value.ref.injEq, List.cons.injEq, exists_and_left, and_assoc, exists_eq_left, List.all_cons, List.all_nil, m1_i, m1_r, Bool.and_self, Bool.and_true, bk_25_29, h0, h3, h0', h3', hz, C_13, m_logCopy h4 h4' (by omega), s_ne, lCp_o, sCw_o, if_pos, if_neg, not_true_eq_false, not_false_eq_true, or_true, true_or, or_false, false_or, false_and, and_false, Nat.reduceEqDiff, Nat.reduceLT, Nat.reduceMul, Nat.not_lt_zero, Nat.zero_le, Nat.le_refl, ne_eq, reduceIte, reduceCtorEq]
    congr 2
    funext x j
    by_cases c1 : x = a
    · subst c1
      by_cases c2 : 2 ≤ j ∧ j ≤ 8
      · rw [sCp, if_pos ⟨rfl, c2⟩]
        rcases (show j = 2 ∨ j = 3 ∨ j = 4 ∨ j = 5 ∨ j = 6 ∨ j = 7 ∨ j = 8 by omega) with rfl | rfl | rfl | rfl | rfl | rfl | rfl <;> simp (disch := omega) only [s_ne, s_eq]
      · simp (disch := omega) only [s_ne, lCp_o, sCw_o]
        rw [sCp, if_neg (by omega), if_neg (by omega), if_neg (by omega), if_neg (by omega)]
    · simp (disch := omega) only [s_ne]
      have e : ∀ i, i < 4 → ∀ j, sCw I a b 6 (b + 2 + i) j = I (b + 2 + i) j := fun i hi j => sCw_o (by omega)
      have e0 : ∀ j, sCw I a b 6 (b + 2) j = I (b + 2) j := fun j => e 0 (by omega) j
      simp only [lCp, e0]
      rw [e 1 (by omega), e 2 (by omega), e 3 (by omega), sCp, if_neg (show ¬ (x = a ∧ 2 ≤ j ∧ j ≤ 8) from fun q => c1 q.1)]
      by_cases c2 : x = a + 2 ∧ j = 3
      · rw [if_pos c2, if_pos c2, c2.2]
      · rw [if_neg c2, if_neg c2]
        by_cases c3 : (x = a + 3 ∨ x = a + 4 ∨ x = a + 5) ∧ j < 10
        · rw [if_pos c3]
          obtain ⟨c3, c4⟩ := c3
          rcases c3 with rfl | rfl | rfl
          · rw [if_pos ⟨by omega, c4⟩, show b + (a + 3 - a) = b + 2 + 1 by omega]
          · rw [if_neg (by omega), if_pos ⟨by omega, c4⟩, show b + (a + 4 - a) = b + 2 + 2 by omega]
          · rw [if_neg (by omega), if_neg (by omega), if_pos ⟨by omega, c4⟩, show b + (a + 5 - a) = b + 2 + 3 by omega]
        · rw [if_neg c3, if_neg (by omega), if_neg (by omega), if_neg (by omega), sCw]
