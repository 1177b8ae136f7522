/-! punch -/
def nomQ (q : Nat → Int32) (c j : Nat) : Int32 := if j = 0 then 5000 else if j ≤ c then 2000 + 1000 * q (j - 1) else 5000
theorem nomQ_i {q : Nat → Int32} {c i : Nat} (h : i < c) : nomQ q c (i + 1) = 2000 + 1000 * q i := by
  unfold nomQ
  rw [if_neg (by omega), if_pos (by omega), show i + 1 - 1 = i by omega]
theorem nomQ_e {q : Nat → Int32} {c : Nat} : nomQ q c (c + 1) = 5000 := by
  unfold nomQ
  rw [if_neg (by omega), if_neg (by omega)]
theorem nomQ_0 {q : Nat → Int32} {c : Nat} : nomQ q c 0 = 5000 := if_pos rfl
theorem nomQ_ok {q : Nat → Int32} {c j : Nat} (hq : ∀ i, i < c → ∃ t, t < 8 ∧ q i = nI t) : okG (nomQ q c j) (nomQ q c j) := by
  unfold nomQ
  by_cases c0 : j = 0
  · rw [if_pos c0]; exact okG_5
  · rw [if_neg c0]
    by_cases c1 : j ≤ c
    · rw [if_pos c1]
      obtain ⟨t, t1, t2⟩ := hq (j - 1) (by omega)
      rw [t2, show (2000 : Int32) = nI 2000 from rfl, show (1000 : Int32) = nI 1000 from rfl, n_mul, n_add]
      exact okG_n (by omega) (by omega)
    · rw [if_neg c1]; exact okG_5
/-- the row v with the first m gaps of the wire s punched -/
def vPn (v : Nat → Int32) (s : Nat) (nom : Nat → Int32) (m : Nat) : Nat → Int32 := fun x =>
  if 98 * s + 4 ≤ x ∧ x < 98 * s + 4 + m then nom (x - (98 * s + 4)) else if 98 * s + 36 ≤ x ∧ x < 98 * s + 36 + m then nom (x - (98 * s + 36)) else if x = 591 then v 591 + sm nom m else v x
theorem vPn_o {v nom : Nat → Int32} {s m x : Nat} (h : ¬ (98 * s + 4 ≤ x ∧ x < 98 * s + 4 + m) ∧ ¬ (98 * s + 36 ≤ x ∧ x < 98 * s + 36 + m) ∧ x ≠ 591) : vPn v s nom m x = v x := by
  unfold vPn
  rw [if_neg h.1, if_neg h.2.1, if_neg h.2.2]
theorem vPn_l {v nom : Nat → Int32} {s m k : Nat} (hk : k < m) : vPn v s nom m (98 * s + (4 + k)) = nom k := by
  unfold vPn
  rw [if_pos (by omega), show 98 * s + (4 + k) - (98 * s + 4) = k by omega]
theorem vPn_n {v nom : Nat → Int32} {s m k : Nat} (hk : k < m) (hm : m ≤ 32) : vPn v s nom m (98 * s + (36 + k)) = nom k := by
  unfold vPn
  rw [if_neg (by omega), if_pos (by omega), show 98 * s + (36 + k) - (98 * s + 36) = k by omega]
theorem vPn_u {v nom : Nat → Int32} {s m : Nat} (hs : s < 6) (hm : m ≤ 32) : vPn v s nom m 591 = v 591 + sm nom m := by
  unfold vPn
  rw [if_neg (by omega), if_neg (by omega), if_pos rfl]
theorem vPn_0 {v nom : Nat → Int32} {s : Nat} (hs : s < 6) : vPn v s nom 0 = v := by
  funext x
  by_cases e : x = 591
  · subst e
    rw [vPn_u hs (by omega), show sm nom 0 = 0 from rfl, Int32.add_zero]
  · exact vPn_o ⟨by omega, by omega, e⟩
theorem vPn_s {v nom : Nat → Int32} {s m : Nat} (hs : s < 6) (hm : m < 32) : vU (vU (vU (vPn v s nom m) (98 * s + (4 + m)) (nom m)) (98 * s + (36 + m)) (nom m)) 591 (vPn v s nom m 591 + nom m) = vPn v s nom (m + 1) := by
  funext x
  by_cases c0 : x = 591
  · subst c0
    rw [u_eq, vPn_u hs (by omega), vPn_u hs (by omega), Int32.add_assoc]; rfl
  · rw [u_ne c0]
    by_cases c1 : x = 98 * s + (36 + m)
    · subst c1; rw [u_eq, vPn_n (by omega) (by omega)]
    · rw [u_ne c1]
      by_cases c2 : x = 98 * s + (4 + m)
      · subst c2; rw [u_eq, vPn_l (by omega)]
      · rw [u_ne c2]
        unfold vPn
        by_cases c3 : 98 * s + 4 ≤ x ∧ x < 98 * s + 4 + m
        · rw [if_pos c3, if_pos (by omega)]
        · rw [if_neg c3, if_neg (show ¬ (98 * s + 4 ≤ x ∧ x < 98 * s + 4 + (m + 1)) by omega)]
          by_cases c4 : 98 * s + 36 ≤ x ∧ x < 98 * s + 36 + m
          · rw [if_pos c4, if_pos (by omega)]
          · rw [if_neg c4, if_neg (show ¬ (98 * s + 36 ≤ x ∧ x < 98 * s + 36 + (m + 1)) by omega), if_neg c0, if_neg c0]
/-- the class's wire, punched anew by the row r -/
def cPu (J : Nat → Nat → Int32) (a r cl c : Nat) : Nat → Nat → Int32 := mSet (if cl = 1 then mSet (mSet (mSet (mSet (wPu (mSet (mSet (mSet J (a + 1) 0 5000) (a + 2) 0 5000) (a + 3) 0 (-1)) a r c) a 4 1) (a + 1) (c + 1) 5000) (a + 2) (c + 1) 5000) (a + 3) (c + 1) (-1) else wPu (mSet (mSet (mSet J (a + 1) 0 5000) (a + 2) 0 5000) (a + 3) 0 (-1)) a r c) a 6 0
theorem cPu_o {J : Nat → Nat → Int32} {a r cl c x j : Nat} (h : x < a ∨ a + 3 < x ∨ (x = a ∧ j ≠ 4 ∧ j ≠ 6)) : cPu J a r cl c x j = J x j := by
  unfold cPu
  split <;> simp (disch := omega) only [s_ne, wPu_o]
theorem cPu_6 {J : Nat → Nat → Int32} {a r cl c : Nat} : cPu J a r cl c a 6 = 0 := s_eq
theorem cPu_4 {J : Nat → Nat → Int32} {a r cl c : Nat} (hcl : cl ≤ 1) (h : J a 4 = nI cl) : cPu J a r cl c a 4 = nI cl := by
  unfold cPu
  by_cases e : cl = 1
  · subst e
    rw [if_pos rfl]
    simp (disch := omega) only [s_ne, s_eq]; rfl
  · rw [if_neg e]
    simp (disch := omega) only [s_ne, wPu_o]; exact h
theorem wPu_i {J : Nat → Nat → Int32} {a r k x i : Nat} (h : x = a + 1 ∨ x = a + 2) (hi : i < k) : wPu J a r k x (i + 1) = 2000 + 1000 * J r i := by
  unfold wPu
  rw [if_pos ⟨h, by omega, by omega⟩, show i + 1 - 1 = i by omega]
theorem wPu_0 {J : Nat → Nat → Int32} {a r k x j : Nat} (h : j = 0 ∨ k + 1 ≤ j) : wPu J a r k x j = J x j := if_neg (by omega)
theorem cPu_g {J : Nat → Nat → Int32} {q : Nat → Int32} {a r cl c x j : Nat} (hx : x = a + 1 ∨ x = a + 2) (hr : r < a ∨ a + 3 < r) (hq : ∀ i, i < c → J r i = q i) (hj : j < c + 1 + cl) (hcl : cl ≤ 1) : cPu J a r cl c x j = nomQ q c j := by
  unfold cPu
  rw [s_ne (by omega)]
  rcases (show j = 0 ∨ (1 ≤ j ∧ j ≤ c) ∨ j = c + 1 by omega) with e | e | e
  · subst e
    rw [nomQ_0]
    split
    · rcases hx with rfl | rfl <;> simp (disch := omega) only [s_ne, s_eq, wPu_0]
    · rcases hx with rfl | rfl <;> simp (disch := omega) only [s_ne, s_eq, wPu_0]
  · obtain ⟨i, rfl⟩ : ∃ i, j = i + 1 := ⟨j - 1, by omega⟩
    rw [nomQ_i (by omega), ← hq i (by omega)]
    split
    · rcases hx with rfl | rfl <;> simp (disch := omega) only [s_ne, wPu_i, true_or, or_true]
    · rcases hx with rfl | rfl <;> simp (disch := omega) only [s_ne, wPu_i, true_or, or_true]
  · have e1 : cl = 1 := by omega
    subst e
    rw [nomQ_e, if_pos e1]
    rcases hx with rfl | rfl <;> simp (disch := omega) only [s_ne, s_eq]
theorem cPu_t0 {J : Nat → Nat → Int32} {a r cl c : Nat} : cPu J a r cl c (a + 3) 0 = -1 := by
  unfold cPu
  split <;> simp (disch := omega) only [s_ne, s_eq, wPu_o]
theorem cPu_t {J : Nat → Nat → Int32} {a r cl c i : Nat} (h : i < c) : cPu J a r cl c (a + 3) (i + 1) = J (a + 3) (i + 1) := by
  unfold cPu
  split <;> simp (disch := omega) only [s_ne, wPu_o]
theorem cPu_te {J : Nat → Nat → Int32} {a r c : Nat} : cPu J a r 1 c (a + 3) (c + 1) = -1 := by
  unfold cPu
  rw [if_pos rfl]
  simp (disch := omega) only [s_ne, s_eq]
/-- the ghost behind punch by the way y -/
def wPunch (v : Nat → Int32) (s y : Nat) : Nat → Int32 := vTl (vU (vPn v s (nomQ (nbR v s (gc v s) (nI y)) (gc v s)) (gn v s)) (98 * s + 3) 0) (gln v) 6 (nI s) (nI y)
set_option maxHeartbeats 8000000 in
theorem punch_act {K : mK} {R : Nat → Nat → Option Nat} {I : Nat → Nat → Int32} {v H : Nat → Int32} {T : Nat → Nat} {n t : Nat} {s cl c : Nat} {y : Nat} (hs : s < 6) (hrel : REL K R I v n H t T) (hw : rW I (7 + 4 * s) v s 1 cl c) (h7 : ∀ i, i < c → I 187 i = nbR v s c (nI y) i) (hu : ∀ i, i < c → nbR v s c (nI y) i ≠ -1) (h86 : I 186 1 = nI (cnt (pMi (nbR v s c (nI y)) (trR v s)) c)) :
    ∃ R1 I1, Ev 65 (mB 65 62) [.ref 0, .int (nI s), .int (nI y), .ref (7 + 4 * s)] [] (K, R, I) (fun w k => w = some (.int (nI (cnt (pMi (nbR v s c (nI y)) (trR v s)) c))) ∧ k = (K, R1, I1)) ∧ REL K R1 I1 (wPunch v s y) (nTu n) (vRec H v n) t T := by
  obtain ⟨f, g, hv, hn2, hn, hH, hP, hT⟩ := id hrel
  have q4 := qTu_lt g hn2
  obtain ⟨gs, -, gh, gw, gr, gr', ⟨a0, a1, a2, a3, a4, a5, a6, a7, a8⟩, ⟨b0, b1, b2⟩, cc0⟩ := id g
  have gs0 : K.2.2.1 1 = (1, 4) := gs.1
  have gs1 : R 1 0 = some 2 := gs.2.1
  have gs2 : K.2.2.1 2 = (4, 6) := gs.2.2.1
  have gs3 : R 1 1 = some 3 := gs.2.2.2.1
  have gs4 : zL K R 3 := gs.2.2.2.2.1
  have gW : ∀ s, s < 6 → zW K R (7 + 4 * s) := fun s hs => (gs.2.2.2.2.2.2 s hs).2
  have gR : ∀ s, s < 6 → R 2 s = some (7 + 4 * s) := fun s hs => (gs.2.2.2.2.2.2 s hs).1
  have gh0 := gh.1
  have gsl : K.2.2.1 3 = (1, 2) := gs4.1
  have gT := zG_tu (n := n) g
  have gst : zS K (RTu R n) 1 := gT.1
  have gt1 : RTu R n 1 0 = some 2 := gst.2.1
  have gt3 : RTu R n 1 1 = some 3 := gst.2.2.2.1
  have gt4 : zL K (RTu R n) 3 := gst.2.2.2.2.1
  have gWt : ∀ s, s < 6 → zW K (RTu R n) (7 + 4 * s) := fun s hs => (gst.2.2.2.2.2.2 s hs).2
  have gRt : ∀ s, s < 6 → RTu R n 2 s = some (7 + 4 * s) := fun s hs => (gst.2.2.2.2.2.2 s hs).1
  obtain ⟨-, a1t, a2t, a3t, a4t, a5t, a6t, a7t, a8t⟩ := gT.2.2.2.2.2.2.1
  have hV := rW_V hw
  obtain ⟨wf, vf, k0, k1, k2, k3, k4, k5⟩ := id hw
  obtain ⟨f1, f2, f3, f4, f5, f6⟩ := id wf
  obtain ⟨v1, v2, v3, -⟩ := id vf
  obtain ⟨g1, g2, g3⟩ := g_vF vf
  have g4 : gn v s = c + 1 + cl := by unfold gn; rw [g2, g3]
  have zwt := gWt s hs
  have zw0 : K.2.2.1 (7 + 4 * s) = (1, 6) := zwt.1
  obtain ⟨e2, e3, e4, e5, e6, e7, e8, e9, e10, ln, l1, l2, l3, l4⟩ := id hv.2
  have gl1 : gln v = ln := by unfold gln; rw [l3]; exact n_cl (by omega)
  have grz := gr.1
  have gra := gr.2.1
  have grt := gT.2.2.2.2.1
  have grr : RTu R n 186 0 = some 187 := grt.2.2.1
  unfold wPunch
  rw [g3, g4, gl1]
  generalize hmis : cnt (pMi (nbR v s c (nI y)) (trR v s)) c = mis at h86 ⊢
  obtain ⟨q, hq0⟩ : ∃ q, nbR v s c (nI y) = q := ⟨_, rfl⟩
  have hq : ∀ i, i < c → ∃ t, t < 8 ∧ q i = nI t := by
    intro i hi
    rw [← hq0]
    exact (nbR_c v s c (nI y) i).resolve_left (hu i hi)
  rw [hq0]
  obtain ⟨P, hPd⟩ : ∃ P, cPu (hRm I (qTu f n) n) (7 + 4 * s) 187 cl c = P := ⟨_, rfl⟩
  have pO : ∀ x j, x < 7 + 4 * s ∨ 7 + 4 * s + 3 < x ∨ (x = 7 + 4 * s ∧ j ≠ 4 ∧ j ≠ 6) → P x j = hRm I (qTu f n) n x j := fun x j h => by rw [← hPd]; exact cPu_o h
  have p4 : P (7 + 4 * s) 4 = nI cl := by rw [← hPd]; exact cPu_4 f5 (by rw [hRm_l (by omega)]; exact f2)
  have p6 : P (7 + 4 * s) 6 = 0 := by rw [← hPd]; exact cPu_6
  have pg : ∀ j, j < c + 1 + cl → P (7 + 4 * s + 1) j = nomQ q c j ∧ P (7 + 4 * s + 2) j = nomQ q c j := by
    intro j hj
    have h7' : ∀ i, i < c → hRm I (qTu f n) n 187 i = q i := fun i hi => by rw [hRm_o (by omega) (by omega), ← hq0]; exact h7 i hi
    rw [← hPd]
    exact ⟨cPu_g (Or.inl rfl) (by omega) h7' hj f5, cPu_g (Or.inr rfl) (by omega) h7' hj f5⟩
  have pt0 : P (7 + 4 * s + 3) 0 = -1 := by rw [← hPd]; exact cPu_t0
  have pt : ∀ i, i < c → P (7 + 4 * s + 3) (i + 1) = I (7 + 4 * s + 3) (i + 1) := fun i hi => by rw [← hPd, cPu_t hi, hRm_l (by omega)]
  have pte : cl = 1 → P (7 + 4 * s + 3) (c + 1) = -1 := fun e => by rw [← hPd, e]; exact cPu_te
  have pOl : ∀ x j, x < 31 → (x < 7 + 4 * s ∨ 7 + 4 * s + 3 < x ∨ (x = 7 + 4 * s ∧ j ≠ 4 ∧ j ≠ 6)) → P x j = I x j := fun x j h h2 => by rw [pO x j h2, hRm_l h]
  have wfH : wF (hRm I (qTu f n) n) (7 + 4 * s) 1 cl c := by unfold wF; rw [hRm_l (by omega)]; exact wf
  have wfP : wF P (7 + 4 * s) 1 cl c := ⟨by rw [pOl _ _ (by omega) (by omega)]; exact f1, p4, by rw [pOl _ _ (by omega) (by omega)]; exact f3, f4, f5, f6⟩
  have hpa : ∀ {Q : Option Value → mH → Prop}, EvM 50 [.ref (7 + 4 * s), .ref 187] (K, RTu R n, hRm I (qTu f n) n) Q ↔ Q none (K, RTu R n, P) := by
    intro Q
    rw [← hPd]
    exact m_punchAll zwt wfH gra (by omega)
  have hsm : sm (P (7 + 4 * s + 2)) (ngp 1 cl c) = sm (nomQ q c) (c + 1 + cl) := sm_cg _ (fun j hj => (pg j hj).2)
  have p15 : P 1 5 = v 591 := by rw [pOl _ _ (by omega) (by omega)]; exact e5
  have p33 : P 3 3 = nI ln := by rw [pOl _ _ (by omega) (by omega)]; exact l2
  have p86 : P 186 1 = nI mis := by rw [pO _ _ (by omega), hRm_o (by omega) (by omega)]; exact h86
  refine ⟨RTu R n, lAd (mSet P 1 5 (v 591 + sm (nomQ q c) (c + 1 + cl))) 3 ln 6 (nI s) (nI y), ?_, ?_⟩
  · rw [B_65_62]
    simp (disch := omega) only [e_iconst, e_bipush, e_sipush, e_iload_n, e_iload, e_aload_n, e_aload, e_istore_n, e_istore, e_astore_n, e_astore, e_iinc, e_iadd, e_isub, e_imul, e_iand, e_ishr, e_idiv, e_i2c, e_dup_i, e_dup_r, e_dup2, e_pop, e_goto, e_nop, e_if_eq, e_if_ne, e_if_lt, e_if_ge, e_if_gt, e_if_le, e_icmp_eq, e_icmp_ne, e_icmp_lt, e_icmp_ge, e_icmp_gt, e_icmp_le, e_tsw, e_ret0, e_ret1, e_retn, e_getI, e_getZ, e_getR, e_getV, e_getC, e_putI, e_putZ, e_putF, e_gst0, e_gst1, e_sld, e_iald, e_cald, e_bald, e_iast, e_cast, e_aald, e_aast, e_alen, e_slen, e_blen, e_newa, e_newq, e_new, e_oinit, e_ctor, e_virt, e_stat, e_min, e_copy, e_ldc, List.cons_append, List.nil_append, List.append_nil, List.length_cons, List.length_nil, List.replicate_succ, List.replicate_zero, List.getElem?_cons_zero, List.getElem?_cons_succ, List.set_cons_zero, List.set_cons_succ, List.take_succ_cons, List.take_zero, List.drop_succ_cons, List.drop_zero, List.reverse_cons, List.reverse_nil, Option.toList_some, Option.toList_none, Nat.reduceSub, Nat.reduceAdd, Nat.reduceLeDiff, true_and, and_true, and_self, Option.some.injEq, exists_eq_left', Nat.zero_add, Value.int.injEq, Value.ref.injEq, List.cons.injEq, exists_and_left, and_assoc, exists_eq_left, List.all_cons, List.all_nil, m1_i, m1_r, Bool.and_self, Bool.and_true, bk_65_62, a0, a1, a2, a1t, a6t, gs0, gh0, grz, grr, zw0, gt3, gsl, C_9, C_50, C_54, C_14, a_remember g hv hn hn2, hpa, m_sumOfNominals zwt wfP, hsm, p15, if_pos, if_neg, not_true_eq_false, not_false_eq_true, or_true, true_or, or_false, false_or, false_and, and_false, Nat.reduceEqDiff, Nat.reduceLT, Nat.reduceMul, Nat.not_lt_zero, Nat.zero_le, Nat.le_refl, ne_eq, reduceIte, reduceCtorEq]
    rw [m_logAdd gt4 (n := ln) ?_ l1]
    · simp (disch := omega) only [e_iconst, e_bipush, e_sipush, e_iload_n, e_iload, e_aload_n, e_aload, e_istore_n, e_istore, e_astore_n, e_astore, e_iinc, e_iadd, e_isub, e_imul, e_iand, e_ishr, e_idiv, e_i2c, e_dup_i, e_dup_r, e_dup2, e_pop, e_goto, e_nop, e_if_eq, e_if_ne, e_if_lt, e_if_ge, e_if_gt, e_if_le, e_icmp_eq, e_icmp_ne, e_icmp_lt, e_icmp_ge, e_icmp_gt, e_icmp_le, e_tsw, e_ret0, e_ret1, e_retn, e_getI, e_getZ, e_getR, e_getV, e_getC, e_putI, e_putZ, e_putF, e_gst0, e_gst1, e_sld, e_iald, e_cald, e_bald, e_iast, e_cast, e_aald, e_aast, e_alen, e_slen, e_blen, e_newa, e_newq, e_new, e_oinit, e_ctor, e_virt, e_stat, e_min, e_copy, e_ldc, List.cons_append, List.nil_append, List.append_nil, List.length_cons, List.length_nil, List.replicate_succ, List.replicate_zero, List.getElem?_cons_zero, List.getElem?_cons_succ, List.set_cons_zero, List.set_cons_succ, List.take_succ_cons, List.take_zero, List.drop_succ_cons, List.drop_zero, List.reverse_cons, List.reverse_nil, Option.toList_some, Option.toList_none, Nat.reduceSub, Nat.reduceAdd, Nat.reduceLeDiff, true_and, and_true, and_self, Option.some.injEq, exists_eq_left', Nat.zero_add, Value.int.injEq, Value.ref.injEq, List.cons.injEq, exists_and_left, and_assoc, exists_eq_left, List.all_cons, List.all_nil, m1_i, m1_r, Bool.and_self, Bool.and_true, a0, a6t, grz, lAd_o, s_ne, p86, if_pos, if_neg, not_true_eq_false, not_false_eq_true, or_true, true_or, or_false, false_or, false_and, and_false, Nat.reduceEqDiff, Nat.reduceLT, Nat.reduceMul, Nat.not_lt_zero, Nat.zero_le, Nat.le_refl, ne_eq, reduceIte, reduceCtorEq]
    · simp (disch := omega) only [s_ne]; exact p33
  · refine REL_act g hv hn2 hH hP hT (fun x x1 x2 => by funext j; simp (disch := omega) only [lAd_o, s_ne, pO]) (by funext j; simp (disch := omega) only [lAd_o, s_ne, pO, hRm_o]) ?_
    refine RC_upd (fun z => z = s) hv (fun z _ hz => ?_) (fun z hz1 hz2 => ⟨fun d hd => ?_, fun x x1 x2 => ?_⟩) ?_
    · subst hz
      have hng : ngp 1 cl c = c + 1 + cl := rfl
      refine ⟨1, cl, c, ⟨?_, ?_, ?_, by omega, f5, f6⟩, ⟨?_, ?_, ?_, by omega, f5, f6⟩, fun q => absurd q (by omega), fun _ => ?_, fun _ => ?_, fun k hk => ?_, fun i hi => ?_, fun e => ?_⟩
      · simp (disch := omega) only [lAd_o, s_ne, pOl]; exact f1
      · simp (disch := omega) only [lAd_o, s_ne]; exact p4
      · simp (disch := omega) only [lAd_o, s_ne, pOl]; exact f3
      · simp (disch := omega) only [vTl_o, u_ne, vPn_o]; exact v1
      · simp (disch := omega) only [vTl_o, u_ne, vPn_o]; exact v2
      · simp (disch := omega) only [vTl_o, u_ne, vPn_o]; exact v3
      · simp (disch := omega) only [lAd_o, s_ne, vTl_o, u_eq]; exact p6
      · simp (disch := omega) only [lAd_o, s_ne]; exact pt0
      · rw [hng] at hk
        simp (disch := omega) only [lAd_o, s_ne, vTl_o, u_ne, vPn_l, vPn_n]
        exact ⟨(pg k hk).1, (pg k hk).2, nomQ_ok hq⟩
      · simp (disch := omega) only [lAd_o, s_ne, vTl_o, u_ne, vPn_o, pt]; exact k4 i hi
      · simp (disch := omega) only [lAd_o, s_ne]; exact pte e
    · funext j; simp (disch := omega) only [lAd_o, s_ne, pOl]
    · simp (disch := omega) only [vTl_o, u_ne, vPn_o]
    · refine rE_mk ?_ ?_ ?_ ?_ ?_ ?_ ?_ ?_ ?_ (rL_add l1 ?_ ?_ (fun e he => ?_)) <;> simp (disch := omega) only [lAd_o, s_ne, s_eq, pOl, vTl_o, u_ne, u_eq, vPn_o, vPn_u, e2, e3, e4, e5, e6, e7, e8]
      · exact e9
      · exact e10
      · exact l2
      · exact l3
      · exact l4 e he
/-- what punch answers where it can't -/
def gBar (v : Nat → Int32) (s y : Nat) : Prop := gp v s = 0 ∨ (y = 2 ∧ gl v s = 0) ∨ 0 < cnt (pUn (nbR v s (gc v s) (nI y)) (trR v s)) (gc v s)
set_option maxHeartbeats 8000000 in
theorem q_punch {K : mK} {R : Nat → Nat → Option Nat} {I : Nat → Nat → Int32} {v H : Nat → Int32} {T : Nat → Nat} {n t : Nat} (hrel : REL K R I v n H t T) (s y : Nat) (hs : s < 6) (hy : y ≤ 2) : (gBar v s y → QO 65 [.int (nI s), .int (nI y)] K R I (-4)) ∧ (¬ gBar v s y → AO 65 [.int (nI s), .int (nI y)] K R I (nI (cnt (pMi (nbR v s (gc v s) (nI y)) (trR v s)) (gc v s))) (wPunch v s y) (nTu n) (vRec H v n) t T) := by
  obtain ⟨f, g, hv, hn2, hn, hH, hP, hT⟩ := id hrel
  have q4 := qTu_lt g hn2
  obtain ⟨gs, -, gh, gw, gr, gr', ⟨a0, a1, a2, a3, a4, a5, a6, a7, a8⟩, ⟨b0, b1, b2⟩, cc0⟩ := id g
  have gs0 : K.2.2.1 1 = (1, 4) := gs.1
  have gs1 : R 1 0 = some 2 := gs.2.1
  have gs2 : K.2.2.1 2 = (4, 6) := gs.2.2.1
  have gs3 : R 1 1 = some 3 := gs.2.2.2.1
  have gs4 : zL K R 3 := gs.2.2.2.2.1
  have gW : ∀ s, s < 6 → zW K R (7 + 4 * s) := fun s hs => (gs.2.2.2.2.2.2 s hs).2
  have gR : ∀ s, s < 6 → R 2 s = some (7 + 4 * s) := fun s hs => (gs.2.2.2.2.2.2 s hs).1
  have gh0 := gh.1
  have gsl : K.2.2.1 3 = (1, 2) := gs4.1
  have gT := zG_tu (n := n) g
  have gst : zS K (RTu R n) 1 := gT.1
  have gt1 : RTu R n 1 0 = some 2 := gst.2.1
  have gt3 : RTu R n 1 1 = some 3 := gst.2.2.2.1
  have gt4 : zL K (RTu R n) 3 := gst.2.2.2.2.1
  have gWt : ∀ s, s < 6 → zW K (RTu R n) (7 + 4 * s) := fun s hs => (gst.2.2.2.2.2.2 s hs).2
  have gRt : ∀ s, s < 6 → RTu R n 2 s = some (7 + 4 * s) := fun s hs => (gst.2.2.2.2.2.2 s hs).1
  obtain ⟨-, a1t, a2t, a3t, a4t, a5t, a6t, a7t, a8t⟩ := gT.2.2.2.2.2.2.1
  obtain ⟨pA, clA, cA, hwA⟩ := hv.1 s hs
  rw [show 1 + 6 + 4 * s = 7 + 4 * s by omega] at hwA
  obtain ⟨wfA, vfA, k0A, k1A, k2A, k3A, k4A, k5A⟩ := id hwA
  obtain ⟨f1A, f2A, f3A, f4A, f5A, f6A⟩ := id wfA
  obtain ⟨v1A, v2A, v3A, -⟩ := id vfA
  have zwA := gW s hs
  have zwtA := gWt s hs
  have rwA := gR s hs
  have rwtA := gRt s hs
  have zw0A : K.2.2.1 (7 + 4 * s) = (1, 6) := zwA.1
  obtain ⟨g1, g2, g3⟩ := g_vF vfA
  unfold gBar
  rw [g1, g2, g3]
  have cy := w_rng hy
  have cls : ∀ Q, Ev 65 (mB 65 19) [.ref 0, .int (nI s), .int (nI y), .null] [] (K, R, I) Q = EvM 65 [.ref 0, .int (nI s), .int (nI y)] (K, R, I) Q := by
    intro Q
    apply propext
    simp (disch := omega) only [e_iconst, e_bipush, e_sipush, e_iload_n, e_iload, e_aload_n, e_aload, e_istore_n, e_istore, e_astore_n, e_astore, e_iinc, e_iadd, e_isub, e_imul, e_iand, e_ishr, e_idiv, e_i2c, e_dup_i, e_dup_r, e_dup2, e_pop, e_goto, e_nop, e_if_eq, e_if_ne, e_if_lt, e_if_ge, e_if_gt, e_if_le, e_icmp_eq, e_icmp_ne, e_icmp_lt, e_icmp_ge, e_icmp_gt, e_icmp_le, e_tsw, e_ret0, e_ret1, e_retn, e_getI, e_getZ, e_getR, e_getV, e_getC, e_putI, e_putZ, e_putF, e_gst0, e_gst1, e_sld, e_iald, e_cald, e_bald, e_iast, e_cast, e_aald, e_aast, e_alen, e_slen, e_blen, e_newa, e_newq, e_new, e_oinit, e_ctor, e_virt, e_stat, e_min, e_copy, e_ldc, List.cons_append, List.nil_append, List.append_nil, List.length_cons, List.length_nil, List.replicate_succ, List.replicate_zero, List.getElem?_cons_zero, List.getElem?_cons_succ, List.set_cons_zero, List.set_cons_succ, List.take_succ_cons, List.take_zero, List.drop_succ_cons, List.drop_zero, List.reverse_cons, List.reverse_nil, Option.toList_some, Option.toList_none, Nat.reduceSub, Nat.reduceAdd, Nat.reduceLeDiff, true_and, and_true, and_self, Option.some.injEq, exists_eq_left', Nat.zero_add, Value.int.injEq, Value.ref.injEq, List.cons.injEq, exists_and_left, and_assoc, exists_eq_left, List.all_cons, List.all_nil, m1_i, m1_r, Bool.and_self, Bool.and_true, E_in 65, N_65, B_65_0, bk_65_0, B_65_9, bk_65_9, C_81, C_83, m_isSp hs, m_wayI cy, o_eq, if_pos, if_neg, not_true_eq_false, not_false_eq_true, or_true, true_or, or_false, false_or, false_and, and_false, Nat.reduceEqDiff, Nat.reduceLT, Nat.reduceMul, Nat.not_lt_zero, Nat.zero_le, Nat.le_refl, ne_eq, reduceIte, reduceCtorEq]
  by_cases cb : pA = 0 ∨ (y = 2 ∧ clA = 0)
  · have cb' : pA = 0 ∨ (nI y = 2 ∧ clA = 0) := cb.imp id (fun q => ⟨(w_2 hy).mpr q.1, q.2⟩)
    refine ⟨fun _ => ⟨I, ?_, SCR_id⟩, fun q => absurd (cb.elim Or.inl (fun z => Or.inr (Or.inl z))) q⟩
    rw [← cls, B_65_19]
    simp (disch := omega) only [e_iconst, e_bipush, e_sipush, e_iload_n, e_iload, e_aload_n, e_aload, e_istore_n, e_istore, e_astore_n, e_astore, e_iinc, e_iadd, e_isub, e_imul, e_iand, e_ishr, e_idiv, e_i2c, e_dup_i, e_dup_r, e_dup2, e_pop, e_goto, e_nop, e_if_eq, e_if_ne, e_if_lt, e_if_ge, e_if_gt, e_if_le, e_icmp_eq, e_icmp_ne, e_icmp_lt, e_icmp_ge, e_icmp_gt, e_icmp_le, e_tsw, e_ret0, e_ret1, e_retn, e_getI, e_getZ, e_getR, e_getV, e_getC, e_putI, e_putZ, e_putF, e_gst0, e_gst1, e_sld, e_iald, e_cald, e_bald, e_iast, e_cast, e_aald, e_aast, e_alen, e_slen, e_blen, e_newa, e_newq, e_new, e_oinit, e_ctor, e_virt, e_stat, e_min, e_copy, e_ldc, List.cons_append, List.nil_append, List.append_nil, List.length_cons, List.length_nil, List.replicate_succ, List.replicate_zero, List.getElem?_cons_zero, List.getElem?_cons_succ, List.set_cons_zero, List.set_cons_succ, List.take_succ_cons, List.take_zero, List.drop_succ_cons, List.drop_zero, List.reverse_cons, List.reverse_nil, Option.toList_some, Option.toList_none, Nat.reduceSub, Nat.reduceAdd, Nat.reduceLeDiff, true_and, and_true, and_self, Option.some.injEq, exists_eq_left', Nat.zero_add, Value.int.injEq, Value.ref.injEq, List.cons.injEq, exists_and_left, and_assoc, exists_eq_left, List.all_cons, List.all_nil, m1_i, m1_r, Bool.and_self, Bool.and_true, bk_65_19, C_40, m_canO zwA wfA cb', a0, a1, gs0, gs1, gs2, zw0A, rwA, n_in, n_cl, true_or, or_true, o_eq, if_pos, if_neg, not_true_eq_false, not_false_eq_true, or_true, true_or, or_false, false_or, false_and, and_false, Nat.reduceEqDiff, Nat.reduceLT, Nat.reduceMul, Nat.not_lt_zero, Nat.zero_le, Nat.le_refl, ne_eq, reduceIte, reduceCtorEq]
  have hp1 : pA = 1 := by
    rcases (show pA = 0 ∨ pA = 1 by omega) with e | e
    · exact absurd (Or.inl e) cb
    · exact e
  subst hp1
  have hw : nI y = 2 → clA = 1 := fun e => by
    have := (w_2 hy).mp e
    rcases (show clA = 0 ∨ clA = 1 by omega) with e2 | e2
    · exact absurd (Or.inr ⟨this, e2⟩) cb
    · exact e2
  have hV := rW_V hwA
  obtain ⟨d1, d2, d3, d4, d5⟩ := rd_cls (r := 186) hwA hw
  have grz := gr.1
  have gra := gr.2.1
  have grr := gr.2.2.1
  have cls2 : ∀ Q, Ev 65 (mB 65 40) [.ref 0, .int (nI s), .int (nI y), .ref (7 + 4 * s)] [] (K, R, I) Q = EvM 65 [.ref 0, .int (nI s), .int (nI y)] (K, R, I) Q := by
    intro Q
    rw [← cls, B_65_19]
    apply propext
    simp (disch := omega) only [e_iconst, e_bipush, e_sipush, e_iload_n, e_iload, e_aload_n, e_aload, e_istore_n, e_istore, e_astore_n, e_astore, e_iinc, e_iadd, e_isub, e_imul, e_iand, e_ishr, e_idiv, e_i2c, e_dup_i, e_dup_r, e_dup2, e_pop, e_goto, e_nop, e_if_eq, e_if_ne, e_if_lt, e_if_ge, e_if_gt, e_if_le, e_icmp_eq, e_icmp_ne, e_icmp_lt, e_icmp_ge, e_icmp_gt, e_icmp_le, e_tsw, e_ret0, e_ret1, e_retn, e_getI, e_getZ, e_getR, e_getV, e_getC, e_putI, e_putZ, e_putF, e_gst0, e_gst1, e_sld, e_iald, e_cald, e_bald, e_iast, e_cast, e_aald, e_aast, e_alen, e_slen, e_blen, e_newa, e_newq, e_new, e_oinit, e_ctor, e_virt, e_stat, e_min, e_copy, e_ldc, List.cons_append, List.nil_append, List.append_nil, List.length_cons, List.length_nil, List.replicate_succ, List.replicate_zero, List.getElem?_cons_zero, List.getElem?_cons_succ, List.set_cons_zero, List.set_cons_succ, List.take_succ_cons, List.take_zero, List.drop_succ_cons, List.drop_zero, List.reverse_cons, List.reverse_nil, Option.toList_some, Option.toList_none, Nat.reduceSub, Nat.reduceAdd, Nat.reduceLeDiff, true_and, and_true, and_self, Option.some.injEq, exists_eq_left', Nat.zero_add, Value.int.injEq, Value.ref.injEq, List.cons.injEq, exists_and_left, and_assoc, exists_eq_left, List.all_cons, List.all_nil, m1_i, m1_r, Bool.and_self, Bool.and_true, bk_65_19, C_40, m_canI zwA wfA hw, a0, a1, gs0, gs1, gs2, zw0A, rwA, n_in, n_cl, true_or, or_true, o_eq, if_pos, if_neg, not_true_eq_false, not_false_eq_true, or_true, true_or, or_false, false_or, false_and, and_false, Nat.reduceEqDiff, Nat.reduceLT, Nat.reduceMul, Nat.not_lt_zero, Nat.zero_le, Nat.le_refl, ne_eq, reduceIte, reduceCtorEq]
  by_cases hun : cnt (pUn (nbR v s cA (nI y)) (trR v s)) cA = 0
  rotate_left
  · have hle := cnt_le (pUn (nbR v s cA (nI y)) (trR v s)) cA
    refine ⟨fun _ => ⟨rdS I 186 (7 + 4 * s) cA (nI y), ?_, SCR_rd (by omega)⟩, fun q => absurd (Or.inr (Or.inr (by omega))) q⟩
    rw [← cls2, B_65_40]
    simp (disch := omega) only [e_iconst, e_bipush, e_sipush, e_iload_n, e_iload, e_aload_n, e_aload, e_istore_n, e_istore, e_astore_n, e_astore, e_iinc, e_iadd, e_isub, e_imul, e_iand, e_ishr, e_idiv, e_i2c, e_dup_i, e_dup_r, e_dup2, e_pop, e_goto, e_nop, e_if_eq, e_if_ne, e_if_lt, e_if_ge, e_if_gt, e_if_le, e_icmp_eq, e_icmp_ne, e_icmp_lt, e_icmp_ge, e_icmp_gt, e_icmp_le, e_tsw, e_ret0, e_ret1, e_retn, e_getI, e_getZ, e_getR, e_getV, e_getC, e_putI, e_putZ, e_putF, e_gst0, e_gst1, e_sld, e_iald, e_cald, e_bald, e_iast, e_cast, e_aald, e_aast, e_alen, e_slen, e_blen, e_newa, e_newq, e_new, e_oinit, e_ctor, e_virt, e_stat, e_min, e_copy, e_ldc, List.cons_append, List.nil_append, List.append_nil, List.length_cons, List.length_nil, List.replicate_succ, List.replicate_zero, List.getElem?_cons_zero, List.getElem?_cons_succ, List.set_cons_zero, List.set_cons_succ, List.take_succ_cons, List.take_zero, List.drop_succ_cons, List.drop_zero, List.reverse_cons, List.reverse_nil, Option.toList_some, Option.toList_none, Nat.reduceSub, Nat.reduceAdd, Nat.reduceLeDiff, true_and, and_true, and_self, Option.some.injEq, exists_eq_left', Nat.zero_add, Value.int.injEq, Value.ref.injEq, List.cons.injEq, exists_and_left, and_assoc, exists_eq_left, List.all_cons, List.all_nil, m1_i, m1_r, Bool.and_self, Bool.and_true, bk_65_40, a0, a6, C_18, m_rd gr zwA (by omega) hwA hw, grz, d4, o_le_l, if_neg, if_pos, if_neg, not_true_eq_false, not_false_eq_true, or_true, true_or, or_false, false_or, false_and, and_false, Nat.reduceEqDiff, Nat.reduceLT, Nat.reduceMul, Nat.not_lt_zero, Nat.zero_le, Nat.le_refl, ne_eq, reduceIte, reduceCtorEq]
  refine ⟨fun q => ?_, fun _ => ?_⟩
  · rcases q with q | q | q
    · omega
    · exact absurd (Or.inr q) cb
    · omega
  have hrel0 : REL K R (rdS I 186 (7 + 4 * s) cA (nI y)) v n H t T := REL_scr hrel (SCR_rd (by omega))
  have hu : ∀ i, i < cA → nbR v s cA (nI y) i ≠ -1 := by
    intro i hi e
    have z : ∀ k, i < k → k ≤ cA → cnt (pUn (nbR v s cA (nI y)) (trR v s)) k ≠ 0 := by
      intro k
      induction k with
      | zero => intro h; omega
      | succ k ih =>
        intro h1 h2
        unfold cnt
        rcases Nat.lt_or_ge i k with q | q
        · have := ih q (by omega); omega
        · have e2 : k = i := by omega
          subst e2
          obtain ⟨t, t1, t2⟩ := hV.2.1 k hi
          have e3 : ¬ (-1 : Int32) = trR v s k := by
            show ¬ (-1 : Int32) = v (98 * s + (68 + k))
            rw [t2]; exact n_m1' (by omega)
          rw [if_pos (by simp [pUn, e, e3])]
          omega
    exact z cA hi (Nat.le_refl _) hun
  obtain ⟨R1, I1, y1, y4⟩ := punch_act (y := y) hs hrel0 (rW_out hwA (fun x x1 x2 => rdS_o (by omega))) d2 hu d3
  refine ⟨R1, I1, ?_, y4⟩
  rw [← cls2, B_65_40]
  simp (disch := omega) only [e_iconst, e_bipush, e_sipush, e_iload_n, e_iload, e_aload_n, e_aload, e_istore_n, e_istore, e_astore_n, e_astore, e_iinc, e_iadd, e_isub, e_imul, e_iand, e_ishr, e_idiv, e_i2c, e_dup_i, e_dup_r, e_dup2, e_pop, e_goto, e_nop, e_if_eq, e_if_ne, e_if_lt, e_if_ge, e_if_gt, e_if_le, e_icmp_eq, e_icmp_ne, e_icmp_lt, e_icmp_ge, e_icmp_gt, e_icmp_le, e_tsw, e_ret0, e_ret1, e_retn, e_getI, e_getZ, e_getR, e_getV, e_getC, e_putI, e_putZ, e_putF, e_gst0, e_gst1, e_sld, e_iald, e_cald, e_bald, e_iast, e_cast, e_aald, e_aast, e_alen, e_slen, e_blen, e_newa, e_newq, e_new, e_oinit, e_ctor, e_virt, e_stat, e_min, e_copy, e_ldc, List.cons_append, List.nil_append, List.append_nil, List.length_cons, List.length_nil, List.replicate_succ, List.replicate_zero, List.getElem?_cons_zero, List.getElem?_cons_succ, List.set_cons_zero, List.set_cons_succ, List.take_succ_cons, List.take_zero, List.drop_succ_cons, List.drop_zero, List.reverse_cons, List.reverse_nil, Option.toList_some, Option.toList_none, Nat.reduceSub, Nat.reduceAdd, Nat.reduceLeDiff, true_and, and_true, and_self, Option.some.injEq, exists_eq_left', Nat.zero_add, Value.int.injEq, Value.ref.injEq, List.cons.injEq, exists_and_left, and_assoc, exists_eq_left, List.all_cons, List.all_nil, m1_i, m1_r, Bool.and_self, Bool.and_true, bk_65_40, a0, a6, C_18, m_rd gr zwA (by omega) hwA hw, grz, d4, hun, o_le_l, if_pos, Nat.le_refl, if_pos, if_neg, not_true_eq_false, not_false_eq_true, or_true, true_or, or_false, false_or, false_and, and_false, Nat.reduceEqDiff, Nat.reduceLT, Nat.reduceMul, Nat.not_lt_zero, Nat.zero_le, Nat.le_refl, ne_eq, reduceIte, reduceCtorEq]
  exact y1
