/-! THE READER -/
def zR (K : mK) (R : Nat → Nat → Option Nat) (a : Nat) : Prop := K.2.2.1 a = (1, 3) ∧ K.2.2.1 (a + 1) = (2, 30) ∧ R a 0 = some (a + 1) ∧ a < 1000
/-- the number that is read, -1 for none -/
def nmb (len m : Int32) : Int32 := if (10 * len + m) / (2 * m) - 2 < 0 then -1 else if 7 < (10 * len + m) / (2 * m) - 2 then -1 else (10 * len + m) / (2 * m) - 2
theorem nmb_c (len m : Int32) : nmb len m = -1 ∨ ∃ q, q < 8 ∧ nmb len m = nI q := by
  unfold nmb
  generalize (10 * len + m) / (2 * m) - 2 = z
  rcases sp_cases z (n := 8) (by omega) with ⟨k, hk, rfl⟩ | h
  · rw [if_neg (nI_pos (by omega)), if_neg (by rw [show (7 : Int32) = nI 7 from rfl, n_lt (by omega) (by omega)]; omega)]
    exact Or.inr ⟨k, hk, rfl⟩
  · rcases h with h | h
    · rw [if_pos h]; exact Or.inl rfl
    · by_cases h2 : z < 0
      · rw [if_pos h2]; exact Or.inl rfl
      · rw [if_neg h2, if_pos]
        · exact Or.inl rfl
        · rw [Int32.lt_iff_toInt_lt]
          rw [Int32.le_iff_toInt_le] at h
          have e1 : (nI 8).toInt = 8 := by decide
          have e2 : (7 : Int32).toInt = 7 := by decide
          omega
theorem m_numberOf {len : Int32} {x : Nat} {h : mH} {Q : Option Value → mH → Prop} (hx : 0 < x) (hx2 : x < 1000000) : EvM 20 [.int len, .int (nI x)] h Q ↔ Q (some (.int (nmb len (nI x)))) h := by
  unfold EvM
  simp (disch := omega) only [e_iconst, e_bipush, e_sipush, e_iload_n, e_iload, e_aload_n, e_aload, e_istore_n, e_istore, e_astore_n, e_astore, e_iinc, e_iadd, e_isub, e_imul, e_iand, e_ishr, e_idiv, e_i2c, e_dup_i, e_dup_r, e_dup2, e_pop, e_goto, e_nop, e_if_eq, e_if_ne, e_if_lt, e_if_ge, e_if_gt, e_if_le, e_icmp_eq, e_icmp_ne, e_icmp_lt, e_icmp_ge, e_icmp_gt, e_icmp_le, e_tsw, e_ret0, e_ret1, e_retn, e_getI, e_getZ, e_getR, e_getV, e_getC, e_putI, e_putZ, e_putF, e_gst0, e_gst1, e_sld, e_iald, e_cald, e_bald, e_iast, e_cast, e_aald, e_aast, e_alen, e_slen, e_blen, e_newa, e_newq, e_new, e_oinit, e_ctor, e_virt, e_stat, e_min, e_copy, e_ldc, List.cons_append, List.nil_append, List.append_nil, List.length_cons, List.length_nil, List.replicate_succ, List.replicate_zero, List.getElem?_cons_zero, List.getElem?_cons_succ, List.set_cons_zero, List.set_cons_succ, List.take_succ_cons, List.take_zero, List.drop_succ_cons, List.drop_zero, List.reverse_cons, List.reverse_nil, Option.toList_some, Option.toList_none, Nat.reduceSub, Nat.reduceAdd, Nat.reduceLeDiff, true_and, and_true, and_self, Option.some.injEq, exists_eq_left', Nat.zero_add, Value.int.injEq, Value.ref.injEq, List.cons.injEq, exists_and_left, and_assoc, exists_eq_left, List.all_cons, List.all_nil, m1_i, m1_r, Bool.and_self, Bool.and_true, N_20, C_20, B_20_0, bk_20_0, B_20_6, bk_20_6, B_20_33, bk_20_33, B_20_34, bk_20_34, o_lt_r, if_pos, o_mul_r, o_eq_l, if_neg, if_pos, if_neg, not_true_eq_false, not_false_eq_true, or_true, true_or, or_false, false_or, false_and, and_false, Nat.reduceEqDiff, Nat.reduceLT, Nat.reduceMul, Nat.not_lt_zero, Nat.zero_le, Nat.le_refl, ne_eq, reduceIte, reduceCtorEq]
  have e : nmb len (nI x) = if (10 * len + nI x) / nI (2 * x) - 2 < 0 then -1 else if 7 < (10 * len + nI x) / nI (2 * x) - 2 then -1 else (10 * len + nI x) / nI (2 * x) - 2 := by
    rw [nmb, show (2 : Int32) * nI x = nI (2 * x) from n_mul 2 x]
  rw [e]
  generalize (10 * len + nI x) / nI (2 * x) - 2 = z
  have hne : ¬ 2 * x = 0 := by omega
  by_cases c1 : z < 0
  · simp [c1, hne]
  · by_cases c2 : 7 < z
    · simp [c1, c2, hne]
    · simp [c1, c2, hne]
def mBt (I : Nat → Nat → Int32) (w c i : Nat) : Int32 := I (w + 1) 0 + (I (w + 1) (c + 1) - I (w + 1) 0) * nI (i + 1) / nI (c + 1)
theorem m_between {K : mK} {R : Nat → Nat → Option Nat} {I : Nat → Nat → Int32} {w c i : Nat} {Q : Option Value → mH → Prop} (h : zW K R w) (hf : wF I w 1 1 c) (hi : i < 30) : EvM 19 [.ref w, .int (nI i)] (K, R, I) Q ↔ Q (some (.int (mBt I w c i))) (K, R, I) := by
  obtain ⟨h0, h1, h2, h3, r0, r1, r2, h4⟩ := id h
  obtain ⟨f1, f2, f3, f4, f5, f6⟩ := id hf
  have hng : ngp 1 1 c = c + 1 + 1 := rfl
  unfold EvM
  simp (disch := omega) only [e_iconst, e_bipush, e_sipush, e_iload_n, e_iload, e_aload_n, e_aload, e_istore_n, e_istore, e_astore_n, e_astore, e_iinc, e_iadd, e_isub, e_imul, e_iand, e_ishr, e_idiv, e_i2c, e_dup_i, e_dup_r, e_dup2, e_pop, e_goto, e_nop, e_if_eq, e_if_ne, e_if_lt, e_if_ge, e_if_gt, e_if_le, e_icmp_eq, e_icmp_ne, e_icmp_lt, e_icmp_ge, e_icmp_gt, e_icmp_le, e_tsw, e_ret0, e_ret1, e_retn, e_getI, e_getZ, e_getR, e_getV, e_getC, e_putI, e_putZ, e_putF, e_gst0, e_gst1, e_sld, e_iald, e_cald, e_bald, e_iast, e_cast, e_aald, e_aast, e_alen, e_slen, e_blen, e_newa, e_newq, e_new, e_oinit, e_ctor, e_virt, e_stat, e_min, e_copy, e_ldc, List.cons_append, List.nil_append, List.append_nil, List.length_cons, List.length_nil, List.replicate_succ, List.replicate_zero, List.getElem?_cons_zero, List.getElem?_cons_succ, List.set_cons_zero, List.set_cons_succ, List.take_succ_cons, List.take_zero, List.drop_succ_cons, List.drop_zero, List.reverse_cons, List.reverse_nil, Option.toList_some, Option.toList_none, Nat.reduceSub, Nat.reduceAdd, Nat.reduceLeDiff, true_and, and_true, and_self, Option.some.injEq, exists_eq_left', Nat.zero_add, Value.int.injEq, Value.ref.injEq, List.cons.injEq, exists_and_left, and_assoc, exists_eq_left, List.all_cons, List.all_nil, m1_i, m1_r, Bool.and_self, Bool.and_true, N_19, C_19, B_19_0, bk_19_0, B_19_26, bk_19_26, B_19_28, bk_19_28, h0, h1, r0, f2, f3, o_in, o_cl, n_in, n_cl, o_add_l, o_eq_l, o_le_l, o_lt_l, n_le, n_lt, C_38, m_hasGap h hf, hng, o_eq, if_neg, if_pos, if_pos, if_neg, not_true_eq_false, not_false_eq_true, or_true, true_or, or_false, false_or, false_and, and_false, Nat.reduceEqDiff, Nat.reduceLT, Nat.reduceMul, Nat.not_lt_zero, Nat.zero_le, Nat.le_refl, ne_eq, reduceIte, reduceCtorEq]
  rw [mBt]
def rJg (I : Nat → Nat → Int32) (a : Nat) (i nb tr : Int32) : Nat → Nat → Int32 := if nb = tr then I else if I a 3 = -1 then mSet (if nb = -1 then mSet I a 2 (I a 2 + 1) else mSet I a 1 (I a 1 + 1)) a 3 i else (if nb = -1 then mSet I a 2 (I a 2 + 1) else mSet I a 1 (I a 1 + 1))
theorem m_judge {K : mK} {R : Nat → Nat → Option Nat} {I : Nat → Nat → Int32} {a : Nat} {i nb tr : Int32} {Q : Option Value → mH → Prop} (h : zR K R a) : EvM 21 [.ref a, .int i, .int nb, .int tr] (K, R, I) Q ↔ Q none (K, R, rJg I a i nb tr) := by
  obtain ⟨h0, h1, r0, h2⟩ := id h
  unfold EvM
  unfold rJg
  simp (disch := omega) only [e_iconst, e_bipush, e_sipush, e_iload_n, e_iload, e_aload_n, e_aload, e_istore_n, e_istore, e_astore_n, e_astore, e_iinc, e_iadd, e_isub, e_imul, e_iand, e_ishr, e_idiv, e_i2c, e_dup_i, e_dup_r, e_dup2, e_pop, e_goto, e_nop, e_if_eq, e_if_ne, e_if_lt, e_if_ge, e_if_gt, e_if_le, e_icmp_eq, e_icmp_ne, e_icmp_lt, e_icmp_ge, e_icmp_gt, e_icmp_le, e_tsw, e_ret0, e_ret1, e_retn, e_getI, e_getZ, e_getR, e_getV, e_getC, e_putI, e_putZ, e_putF, e_gst0, e_gst1, e_sld, e_iald, e_cald, e_bald, e_iast, e_cast, e_aald, e_aast, e_alen, e_slen, e_blen, e_newa, e_newq, e_new, e_oinit, e_ctor, e_virt, e_stat, e_min, e_copy, e_ldc, List.cons_append, List.nil_append, List.append_nil, List.length_cons, List.length_nil, List.replicate_succ, List.replicate_zero, List.getElem?_cons_zero, List.getElem?_cons_succ, List.set_cons_zero, List.set_cons_succ, List.take_succ_cons, List.take_zero, List.drop_succ_cons, List.drop_zero, List.reverse_cons, List.reverse_nil, Option.toList_some, Option.toList_none, Nat.reduceSub, Nat.reduceAdd, Nat.reduceLeDiff, true_and, and_true, and_self, Option.some.injEq, exists_eq_left', Nat.zero_add, Value.int.injEq, Value.ref.injEq, List.cons.injEq, exists_and_left, and_assoc, exists_eq_left, List.all_cons, List.all_nil, m1_i, m1_r, Bool.and_self, Bool.and_true, N_21, C_21, B_21_0, bk_21_0, B_21_6, bk_21_6, B_21_24, bk_21_24, B_21_34, bk_21_34, B_21_47, bk_21_47, h0, s_ne, if_pos, if_neg, not_true_eq_false, not_false_eq_true, or_true, true_or, or_false, false_or, false_and, and_false, Nat.reduceEqDiff, Nat.reduceLT, Nat.reduceMul, Nat.not_lt_zero, Nat.zero_le, Nat.le_refl, ne_eq, reduceIte, reduceCtorEq]
  by_cases c1 : nb = tr
  · simp [c1]
  · by_cases c2 : nb = -1
    · subst c2
      by_cases c3 : I a 3 = -1 <;> simp [c3, c1]
    · by_cases c3 : I a 3 = -1 <;> simp [c1, c2, c3]
/-- the measure behind i letters; the measure of the letter i; what is read there -/
def rdM (I : Nat → Nat → Int32) (w c : Nat) (way : Int32) : Nat → Int32
  | 0 => I (w + 1) 0
  | i + 1 =>
    if way = 2 then mBt I w c i
    else if way = 1 then (if nmb (I (w + 1) (i + 1)) (rdM I w c way i) = -1 then rdM I w c way i else (3 * rdM I w c way i + 5 * I (w + 1) (i + 1) / (nmb (I (w + 1) (i + 1)) (rdM I w c way i) + 2)) / 4)
    else rdM I w c way i
def rdA (I : Nat → Nat → Int32) (w c : Nat) (way : Int32) (i : Nat) : Int32 := if way = 2 then mBt I w c i else rdM I w c way i
def rdN (I : Nat → Nat → Int32) (w c : Nat) (way : Int32) (i : Nat) : Int32 := nmb (I (w + 1) (i + 1)) (rdA I w c way i)
def cnt (P : Nat → Bool) : Nat → Nat
  | 0 => 0
  | k + 1 => cnt P k + (if P k then 1 else 0)
theorem cnt_le (P : Nat → Bool) : ∀ k, cnt P k ≤ k := by
  intro k
  induction k with
  | zero => exact Nat.le_refl _
  | succ k ih => unfold cnt; split <;> omega
def pMi (nb tr : Nat → Int32) (i : Nat) : Bool := !(nb i == tr i) && !(nb i == -1)
def pUn (nb tr : Nat → Int32) (i : Nat) : Bool := !(nb i == tr i) && (nb i == -1)
def pWr (nb tr : Nat → Int32) (i : Nat) : Bool := !(nb i == tr i)
/-- the reader's cells when i letters are read -/
def rSt (I : Nat → Nat → Int32) (r : Nat) (nb tr : Nat → Int32) (c i : Nat) : Nat → Nat → Int32 := fun x j =>
  if x = r + 1 ∧ j < i then nb j else if x = r ∧ j = 1 then nI (cnt (pMi nb tr) i) else if x = r ∧ j = 2 then nI (cnt (pUn nb tr) i)
  else if x = r ∧ j = 3 then (if fB (pWr nb tr) c i = c then -1 else nI (fB (pWr nb tr) c i)) else I x j
theorem rSt_o {I : Nat → Nat → Int32} {r c i x j : Nat} {nb tr : Nat → Int32} (h : x ≠ r ∧ x ≠ r + 1) : rSt I r nb tr c i x j = I x j := by
  rw [rSt, if_neg (by omega), if_neg (by omega), if_neg (by omega), if_neg (by omega)]
theorem rSt_s {I : Nat → Nat → Int32} {r c i : Nat} {nb tr : Nat → Int32} (hi : i < c) (hc : c ≤ 30) :
    rSt I r nb tr c (i + 1) = rJg (mSet (rSt I r nb tr c i) (r + 1) i (nb i)) r (nI i) (nb i) (tr i) := by
  have e1 : rSt I r nb tr c i r 1 = nI (cnt (pMi nb tr) i) := by rw [rSt, if_neg (by omega), if_pos ⟨rfl, rfl⟩]
  have e2 : rSt I r nb tr c i r 2 = nI (cnt (pUn nb tr) i) := by rw [rSt, if_neg (by omega), if_neg (by omega), if_pos ⟨rfl, rfl⟩]
  have e3 : rSt I r nb tr c i r 3 = (if fB (pWr nb tr) c i = c then -1 else nI (fB (pWr nb tr) c i)) := by rw [rSt, if_neg (by omega), if_neg (by omega), if_neg (by omega), if_pos ⟨rfl, rfl⟩]
  unfold rJg
  simp (disch := omega) only [s_ne]
  rw [e1, e2, e3]
  have hfb := (fB_le (pWr nb tr) c i (by omega)).1
  have h3 : ((if fB (pWr nb tr) c i = c then -1 else nI (fB (pWr nb tr) c i)) = (-1 : Int32)) ↔ fB (pWr nb tr) c i = c := by
    by_cases q : fB (pWr nb tr) c i = c
    · simp [q]
    · simp only [q, if_false, iff_false]; exact n_m1 (by omega)
  have hne : ¬ i = c := by omega
  by_cases c1 : nb i = tr i
  · rw [if_pos c1]
    have a1 : cnt (pMi nb tr) (i + 1) = cnt (pMi nb tr) i := by simp [cnt, pMi, c1]
    have a2 : cnt (pUn nb tr) (i + 1) = cnt (pUn nb tr) i := by simp [cnt, pUn, c1]
    have a3 : fB (pWr nb tr) c (i + 1) = fB (pWr nb tr) c i := by simp only [fB, pWr, c1]; split <;> simp_all
    funext x j
    simp only [rSt, mSet, a1, a2, a3]
    (repeat' split) <;> first | rfl | (exfalso; omega) | (rw [show j = i by omega])
  · rw [if_neg c1]
    by_cases c2 : nb i = -1
    · have a1 : cnt (pMi nb tr) (i + 1) = cnt (pMi nb tr) i := by simp [cnt, pMi, c2]
      have a2 : cnt (pUn nb tr) (i + 1) = cnt (pUn nb tr) i + 1 := by simp [cnt, pUn, c1]; exact c2
      rw [if_pos c2, o_add_l]
      by_cases c3 : fB (pWr nb tr) c i = c
      · have a3 : fB (pWr nb tr) c (i + 1) = i := by simp [fB, c3, pWr, c1]
        rw [if_pos (h3.mpr c3)]
        funext x j
        simp only [rSt, mSet, a1, a2, a3]
        (repeat' split) <;> first | rfl | (exfalso; omega) | (rw [show j = i by omega])
      · have a3 : fB (pWr nb tr) c (i + 1) = fB (pWr nb tr) c i := by simp [fB, c3]
        rw [if_neg (fun q => c3 (h3.mp q))]
        funext x j
        simp only [rSt, mSet, a1, a2, a3]
        (repeat' split) <;> first | rfl | (exfalso; omega) | (rw [show j = i by omega])
    · have a1 : cnt (pMi nb tr) (i + 1) = cnt (pMi nb tr) i + 1 := by simp [cnt, pMi, c1, c2]
      have a2 : cnt (pUn nb tr) (i + 1) = cnt (pUn nb tr) i := by simp [cnt, pUn, c2]
      rw [if_neg c2, o_add_l]
      by_cases c3 : fB (pWr nb tr) c i = c
      · have a3 : fB (pWr nb tr) c (i + 1) = i := by simp [fB, c3, pWr, c1]
        rw [if_pos (h3.mpr c3)]
        funext x j
        simp only [rSt, mSet, a1, a2, a3]
        (repeat' split) <;> first | rfl | (exfalso; omega) | (rw [show j = i by omega])
      · have a3 : fB (pWr nb tr) c (i + 1) = fB (pWr nb tr) c i := by simp [fB, c3]
        rw [if_neg (fun q => c3 (h3.mp q))]
        funext x j
        simp only [rSt, mSet, a1, a2, a3]
        (repeat' split) <;> first | rfl | (exfalso; omega) | (rw [show j = i by omega])
