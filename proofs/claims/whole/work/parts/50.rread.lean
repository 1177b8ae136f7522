/-! READING, class and reference: the measures' ranges, what is read -/
theorem n_ndiv {a b : Nat} (ha : a < 2147483648) (hb : b < 2147483648) : (-(nI a)) / nI b = -(nI (a / b)) := by
  apply Int32.toInt_inj.mp
  have h1 : a / b < 2147483648 := Nat.lt_of_le_of_lt (Nat.div_le_self a b) ha
  have e1 : (-(nI a)).toInt = -(a : Int) := by
    rw [Int32.toInt_neg, nI_toInt ha]
    apply Int.bmod_eq_of_le
    · show -((2 ^ 32 : Nat) : Int) / 2 ≤ _
      omega
    · show _ < (((2 ^ 32 : Nat) : Int) + 1) / 2
      omega
  have e2 : (-(nI (a / b))).toInt = -((a / b : Nat) : Int) := by
    rw [Int32.toInt_neg, nI_toInt h1]
    generalize a / b = q at h1
    apply Int.bmod_eq_of_le
    · show -((2 ^ 32 : Nat) : Int) / 2 ≤ _
      omega
    · show _ < (((2 ^ 32 : Nat) : Int) + 1) / 2
      omega
  have h2 : ((a : Int).tdiv (b : Int)) = ((a / b : Nat) : Int) := by
    rw [Int.tdiv_eq_ediv_of_nonneg (by omega)]; rfl
  rw [e2, Int32.toInt_div, e1, nI_toInt hb, Int.neg_tdiv, h2]
  generalize a / b = q at h1
  apply Int.bmod_eq_of_le
  · show -((2 ^ 32 : Nat) : Int) / 2 ≤ _
    omega
  · show _ < (((2 ^ 32 : Nat) : Int) + 1) / 2
    omega
theorem rdM_s (I : Nat → Nat → Int32) (w c : Nat) (way : Int32) (i : Nat) : rdM I w c way (i + 1) = if way = 1 then (if rdN I w c way i = -1 then rdA I w c way i else (3 * rdA I w c way i + 5 * I (w + 1) (i + 1) / (rdN I w c way i + 2)) / 4) else rdA I w c way i := by
  rw [rdA_e]
  by_cases c2 : way = 2
  · subst c2
    rw [if_pos rfl, if_neg (by decide), rdA, if_pos rfl]
  · rw [if_neg c2]
theorem rd_cg {I I' : Nat → Nat → Int32} {w w' c cl : Nat} {way : Int32} (hI : ∀ j, j < c + 1 + cl → I (w + 1) j = I' (w' + 1) j) (hw : way = 2 → cl = 1) : ∀ i, i ≤ c → rdM I w c way i = rdM I' w' c way i ∧ (i < c → rdA I w c way i = rdA I' w' c way i ∧ rdN I w c way i = rdN I' w' c way i) := by
  have step : ∀ i, i < c → rdM I w c way i = rdM I' w' c way i → rdA I w c way i = rdA I' w' c way i ∧ rdN I w c way i = rdN I' w' c way i := by
    intro i hi e
    have a : rdA I w c way i = rdA I' w' c way i := by
      unfold rdA
      by_cases c2 : way = 2
      · rw [if_pos c2, if_pos c2]
        have := hw c2
        unfold mBt
        rw [hI 0 (by omega), hI (c + 1) (by omega)]
      · rw [if_neg c2, if_neg c2]; exact e
    refine ⟨a, ?_⟩
    unfold rdN
    rw [a, hI (i + 1) (by omega)]
  intro i
  induction i with
  | zero =>
    intro hi
    have e : rdM I w c way 0 = rdM I' w' c way 0 := hI 0 (by omega)
    exact ⟨e, fun h => step 0 h e⟩
  | succ i ih =>
    intro hi
    obtain ⟨a, b⟩ := (ih (by omega)).2 (by omega)
    have e : rdM I w c way (i + 1) = rdM I' w' c way (i + 1) := by
      rw [rdM_s, rdM_s, a, b, hI (i + 1) (by omega)]
    exact ⟨e, fun h => step _ h e⟩
/-- a length as it can be -/
def okL (x : Int32) : Prop := ∃ m, x = nI m ∧ 2000 ≤ m ∧ m ≤ 18000
theorem mBt_rng {I : Nat → Nat → Int32} {w c i : Nat} (h0 : okL (I (w + 1) 0)) (h1 : okL (I (w + 1) (c + 1))) (hi : i < c) (hc : c ≤ 30) : ∃ z, mBt I w c i = nI z ∧ 1111 ≤ z ∧ z ≤ 45000 := by
  obtain ⟨x, hx, x1, x2⟩ := h0
  obtain ⟨y, hy, y1, y2⟩ := h1
  unfold mBt
  rw [hx, hy]
  by_cases e : x ≤ y
  · have b1 : (y - x) * (i + 1) ≤ 16000 * 30 := Nat.mul_le_mul (by omega) (by omega)
    have b2 : (y - x) * (i + 1) / (c + 1) ≤ y - x := by
      apply Nat.div_le_of_le_mul
      rw [Nat.mul_comm]
      exact Nat.mul_le_mul (by omega) (Nat.le_refl _)
    rw [n_sub e, n_mul, n_div (by omega) (by omega), n_add]
    generalize (y - x) * (i + 1) / (c + 1) = q at b2
    exact ⟨x + q, rfl, by omega, by omega⟩
  · have b1 : (x - y) * (i + 1) ≤ 16000 * 30 := Nat.mul_le_mul (by omega) (by omega)
    have b2 : (x - y) * (i + 1) / (c + 1) ≤ x - y := by
      apply Nat.div_le_of_le_mul
      rw [Nat.mul_comm]
      exact Nat.mul_le_mul (by omega) (Nat.le_refl _)
    have e1 : nI y - nI x = -(nI (x - y)) := by
      rw [← n_sub (show y ≤ x by omega), Int32.neg_sub]
    rw [e1, Int32.neg_mul, n_mul, n_ndiv (by omega) (by omega)]
    generalize (x - y) * (i + 1) / (c + 1) = q at b2
    refine ⟨x - q, ?_, by omega, by omega⟩
    rw [← n_sub (show q ≤ x by omega), Int32.sub_eq_add_neg]
theorem rd_rng {I : Nat → Nat → Int32} {w c cl : Nat} {way : Int32} (hI : ∀ j, j < c + 1 + cl → okL (I (w + 1) j)) (hw : way = 2 → cl = 1) (hc : c ≤ 30) : ∀ i, i ≤ c → (way ≠ 2 → ∃ z, rdM I w c way i = nI z ∧ 1111 ≤ z ∧ z ≤ 45000) ∧ (i < c → ∃ z, rdA I w c way i = nI z ∧ 1111 ≤ z ∧ z ≤ 45000) := by
  have step : ∀ i, (way ≠ 2 → ∃ z, rdM I w c way i = nI z ∧ 1111 ≤ z ∧ z ≤ 45000) → i < c → ∃ z, rdA I w c way i = nI z ∧ 1111 ≤ z ∧ z ≤ 45000 := by
    intro i h hi
    unfold rdA
    by_cases c2 : way = 2
    · rw [if_pos c2]
      have := hw c2
      exact mBt_rng (hI 0 (by omega)) (hI (c + 1) (by omega)) hi hc
    · rw [if_neg c2]; exact h c2
  intro i
  induction i with
  | zero =>
    intro _
    have e : way ≠ 2 → ∃ z, rdM I w c way 0 = nI z ∧ 1111 ≤ z ∧ z ≤ 45000 := by
      intro _
      obtain ⟨m, m1, m2, m3⟩ := hI 0 (by omega)
      exact ⟨m, m1, by omega, by omega⟩
    exact ⟨e, step 0 e⟩
  | succ i ih =>
    intro hi
    have e : way ≠ 2 → ∃ z, rdM I w c way (i + 1) = nI z ∧ 1111 ≤ z ∧ z ≤ 45000 := by
      intro _
      obtain ⟨x, hx, x1, x2⟩ := (ih (by omega)).2 (by omega)
      rw [rdM_s, hx]
      by_cases c1 : way = 1
      · rw [if_pos c1]
        by_cases d1 : rdN I w c way i = -1
        · rw [if_pos d1]; exact ⟨x, rfl, x1, x2⟩
        · rw [if_neg d1]
          obtain ⟨q, hq, hq2⟩ := (nmb_c (I (w + 1) (i + 1)) (rdA I w c way i)).resolve_left d1
          have hq3 : rdN I w c way i = nI q := hq2
          obtain ⟨m, m1, m2, m3⟩ := hI (i + 1) (by omega)
          rw [hq3, m1, show (3 : Int32) = nI 3 from rfl, show (5 : Int32) = nI 5 from rfl, show (2 : Int32) = nI 2 from rfl, show (4 : Int32) = nI 4 from rfl, n_mul, n_mul, n_add, n_div (by omega) (by omega), n_add]
          have b1 : 5 * m / (q + 2) ≤ 45000 ∧ 1111 ≤ 5 * m / (q + 2) := by
            rcases (show q = 0 ∨ q = 1 ∨ q = 2 ∨ q = 3 ∨ q = 4 ∨ q = 5 ∨ q = 6 ∨ q = 7 by omega) with rfl | rfl | rfl | rfl | rfl | rfl | rfl | rfl <;> omega
          generalize 5 * m / (q + 2) = u at b1
          rw [n_div (by omega) (by omega)]
          exact ⟨_, rfl, by omega, by omega⟩
      · rw [if_neg c1]; exact ⟨x, rfl, x1, x2⟩
    exact ⟨e, step _ e⟩
/-- the row's lengths as a wire's -/
def vL (v : Nat → Int32) (s : Nat) : Nat → Nat → Int32 := fun _ j => v (98 * s + (4 + j))
def ec (x : Int32) : Int32 := if x = -1 then -5 else x
theorem ec_1 : ec (-1) = -5 := rfl
theorem ec_n {q : Nat} (h : q < 2147483648) : ec (nI q) = nI q := if_neg (n_m1 h)
theorem n_m5 {a : Nat} (ha : a < 2147483648) : ¬ nI a = -5 := by
  intro h
  have := congrArg Int32.toInt h
  rw [nI_toInt ha, show (-5 : Int32).toInt = -5 from by decide] at this
  omega
theorem n_m5' {a : Nat} (ha : a < 2147483648) : ¬ -5 = nI a := fun h => n_m5 ha h.symm
theorem r_number {len : Int32} {x : Nat} {h : mH} {Q : Option Value → mH → Prop} (hx : 0 < x) (hx2 : x < 1000000) : EvM 107 [.int len, .int (nI x)] h Q ↔ Q (some (.int (ec (nmb len (nI x))))) h := by
  have hne : ¬ 2 * x = 0 := by omega
  have e : ec (nmb len (nI x)) = if (10 * len + nI x) / nI (2 * x) - 2 < 0 then -5 else if 7 < (10 * len + nI x) / nI (2 * x) - 2 then -5 else (10 * len + nI x) / nI (2 * x) - 2 := by
    rw [ec, nmb, show (2 : Int32) * nI x = nI (2 * x) from n_mul 2 x]
    generalize (10 * len + nI x) / nI (2 * x) - 2 = z
    by_cases c1 : z < 0
    · rw [if_pos c1, if_pos c1, if_pos rfl]
    · rw [if_neg c1, if_neg c1]
      by_cases c2 : 7 < z
      · rw [if_pos c2, if_pos c2, if_pos rfl]
      · rw [if_neg c2, if_neg c2, if_neg]
        intro q; subst q; exact c1 (by decide)
  rw [e]
  unfold EvM
  simp (disch := omega) only [e_iconst, e_bipush, e_sipush, e_iload_n, e_iload, e_aload_n, e_aload, e_istore_n, e_istore, e_astore_n, e_astore, e_iinc, e_iadd, e_isub, e_imul, e_iand, e_ishr, e_idiv, e_i2c, e_dup_i, e_dup_r, e_dup2, e_pop, e_goto, e_nop, e_if_eq, e_if_ne, e_if_lt, e_if_ge, e_if_gt, e_if_le, e_icmp_eq, e_icmp_ne, e_icmp_lt, e_icmp_ge, e_icmp_gt, e_icmp_le, e_tsw, e_ret0, e_ret1, e_retn, e_getI, e_getZ, e_getR, e_getV, e_getC, e_putI, e_putZ, e_putF, e_gst0, e_gst1, e_sld, e_iald, e_cald, e_bald, e_iast, e_cast, e_aald, e_aast, e_alen, e_slen, e_blen, e_newa, e_newq, e_new, e_oinit, e_ctor, e_virt, e_stat, e_min, e_copy, e_ldc, List.cons_append, List.nil_append, List.append_nil, List.length_cons, List.length_nil, List.replicate_succ, List.replicate_zero, List.getElem?_cons_zero, List.getElem?_cons_succ, List.set_cons_zero, List.set_cons_succ, List.take_succ_cons, List.take_zero, List.drop_succ_cons, List.drop_zero, List.reverse_cons, List.reverse_nil, Option.toList_some, Option.toList_none, Nat.reduceSub, Nat.reduceAdd, Nat.reduceLeDiff, true_and, and_true, and_self, Option.some.injEq, exists_eq_left', Nat.zero_add, Value.int.injEq, Value.ref.injEq, List.cons.injEq, exists_and_left, and_assoc, exists_eq_left, N_107, C_107, B_107_0, bk_107_0, B_107_27, bk_107_27, B_107_29, bk_107_29, o_mul_r, o_eq_l, if_neg, C_89, r_in, hne, if_pos, if_neg, not_true_eq_false, not_false_eq_true, or_true, true_or, or_false, false_or, false_and, and_false, Nat.reduceEqDiff, Nat.reduceLT, Nat.reduceMul, Nat.not_lt_zero, Nat.zero_le, Nat.le_refl, ne_eq, reduceIte, reduceCtorEq]
  generalize (10 * len + nI x) / nI (2 * x) - 2 = z
  by_cases c1 : z < 0
  · simp [c1]
  · by_cases c2 : 7 < z
    · simp [c1, c2]
    · simp [c1, c2]
/-- the reference's cells when k letters are read -/
def rdC (I : Nat → Nat → Int32) (s c : Nat) (way : Int32) (k : Nat) : Nat → Nat → Int32 := rSet I 199 (fun j => if j < k then ec (rdN (vL (I 195) s) 0 c way j) else I 199 j)
theorem rdC_o {I : Nat → Nat → Int32} {s c k x : Nat} {way : Int32} (h : x ≠ 199) : rdC I s c way k x = I x := rSet_o h
theorem rdC_i {I : Nat → Nat → Int32} {s c k j : Nat} {way : Int32} (h : j < k) : rdC I s c way k 199 j = ec (rdN (vL (I 195) s) 0 c way j) := by
  unfold rdC
  rw [rSet_s, if_pos h]
theorem rdC_s {I : Nat → Nat → Int32} {s c k : Nat} {way : Int32} : mSet (rdC I s c way k) 199 k (ec (rdN (vL (I 195) s) 0 c way k)) = rdC I s c way (k + 1) := by
  unfold rdC
  rw [rs_m]
  congr 1
  funext j
  simp only [vU]
  by_cases e : j = k
  · subst e; rw [if_pos rfl, if_pos (by omega)]
  · rw [if_neg e]
    by_cases e2 : j < k
    · rw [if_pos e2, if_pos (by omega)]
    · rw [if_neg e2, if_neg (by omega)]
set_option maxHeartbeats 4000000 in
theorem r_reads {K : mK} {R : Nat → Nat → Option Nat} {I : Nat → Nat → Int32} {s p cl c : Nat} {way : Int32} {Q : Option Value → mH → Prop} (h : zM K R) (hs : s < 6) (hf : vF (I 195) s p cl c) (hm : ∀ i, i < c → ∃ x, rdA (vL (I 195) s) 0 c way i = nI x ∧ 0 < x ∧ x < 1000000) :
    EvM 108 [.ref 194, .int (nI s), .int way] (K, R, I) Q ↔ Q none (K, R, rdC I s c way c) := by
  obtain ⟨m0, m1, m2, -, -, -, -, -, -, m9, m10, -⟩ := id h
  obtain ⟨f1, f2, f3, f4, f5, f6⟩ := id hf
  refine EvM_iff ?_
  rw [E_in 108, B_108_0]
  simp (disch := omega) only [e_iconst, e_bipush, e_sipush, e_iload_n, e_iload, e_aload_n, e_aload, e_istore_n, e_istore, e_astore_n, e_astore, e_iinc, e_iadd, e_isub, e_imul, e_iand, e_ishr, e_idiv, e_i2c, e_dup_i, e_dup_r, e_dup2, e_pop, e_goto, e_nop, e_if_eq, e_if_ne, e_if_lt, e_if_ge, e_if_gt, e_if_le, e_icmp_eq, e_icmp_ne, e_icmp_lt, e_icmp_ge, e_icmp_gt, e_icmp_le, e_tsw, e_ret0, e_ret1, e_retn, e_getI, e_getZ, e_getR, e_getV, e_getC, e_putI, e_putZ, e_putF, e_gst0, e_gst1, e_sld, e_iald, e_cald, e_bald, e_iast, e_cast, e_aald, e_aast, e_alen, e_slen, e_blen, e_newa, e_newq, e_new, e_oinit, e_ctor, e_virt, e_stat, e_min, e_copy, e_ldc, List.cons_append, List.nil_append, List.append_nil, List.length_cons, List.length_nil, List.replicate_succ, List.replicate_zero, List.getElem?_cons_zero, List.getElem?_cons_succ, List.set_cons_zero, List.set_cons_succ, List.take_succ_cons, List.take_zero, List.drop_succ_cons, List.drop_zero, List.reverse_cons, List.reverse_nil, Option.toList_some, Option.toList_none, Nat.reduceSub, Nat.reduceAdd, Nat.reduceLeDiff, true_and, and_true, and_self, Option.some.injEq, exists_eq_left', Nat.zero_add, Value.int.injEq, Value.ref.injEq, List.cons.injEq, exists_and_left, and_assoc, exists_eq_left, N_108, bk_108_0, m0, C_91, r_ofL h hs, f3, if_pos, if_neg, not_true_eq_false, not_false_eq_true, or_true, true_or, or_false, false_or, false_and, and_false, Nat.reduceEqDiff, Nat.reduceLT, Nat.reduceMul, Nat.not_lt_zero, Nat.zero_le, Nat.le_refl, ne_eq, reduceIte, reduceCtorEq]
  generalize hQ : (fun (v : Option Value) (k : mH) => v = none ∧ k = (K, R, rdC I s c way c)) = Q0
  have key : ∀ (l7 l8 : Value), Ev 108 (mB 108 21) [.ref 194, .int (nI s), .int way, .int (I 195 (98 * s + 4)), .int (nI c), .int (rdM (vL (I 195) s) 0 c way 0), .int (nI 0), l7, l8] [] (K, R, rdC I s c way 0) Q0 := by
    refine loop_dn (n := c) (P := fun k => ∀ (l7 l8 : Value), Ev 108 (mB 108 21) [.ref 194, .int (nI s), .int way, .int (I 195 (98 * s + 4)), .int (nI c), .int (rdM (vL (I 195) s) 0 c way k), .int (nI k), l7, l8] [] (K, R, rdC I s c way k) Q0) ?_ ?_
    · intro k hk hnext l7 l8
      obtain ⟨x, hx, hx0, hx1⟩ := hm k hk
      have j5 : rdC I s c way k 195 = I 195 := rdC_o (by omega)
      have hv : I 195 (98 * s + (5 + k)) = vL (I 195) s 1 (k + 1) := by
        show _ = I 195 (98 * s + (4 + (k + 1)))
        congr 1; omega
      have hN : rdN (vL (I 195) s) 0 c way k = nmb (vL (I 195) s 1 (k + 1)) (nI x) := by rw [rdN, hx]
      have hM := rdM_s (vL (I 195) s) 0 c way k
      rw [hx, hN] at hM
      have hst : mSet (rdC I s c way k) 199 k (ec (nmb (vL (I 195) s 1 (k + 1)) (nI x))) = rdC I s c way (k + 1) := by rw [← hN]; exact rdC_s
      have b69 : ∀ (l8 : Value), Ev 108 (mB 108 69) [.ref 194, .int (nI s), .int way, .int (I 195 (98 * s + 4)), .int (nI c), .int (nI x), .int (nI k), .int (vL (I 195) s 1 (k + 1)), l8] [] (K, R, rdC I s c way k) Q0 := by
        intro l8
        have hnext := hnext (.int (vL (I 195) s 1 (k + 1))) (.int (ec (nmb (vL (I 195) s 1 (k + 1)) (nI x))))
        rw [B_108_69]
        rcases nmb_c (vL (I 195) s 1 (k + 1)) (nI x) with d1 | ⟨q, hq, d1⟩
        · rw [d1, ec_1] at hst hnext
          have e : rdM (vL (I 195) s) 0 c way (k + 1) = nI x := by
            rw [hM, d1]
            by_cases c1 : way = 1
            · rw [if_pos c1, if_pos rfl]
            · rw [if_neg c1]
          rw [e] at hnext
          by_cases c1 : way = 1
          · subst c1
            simp (disch := omega) only [e_iconst, e_bipush, e_sipush, e_iload_n, e_iload, e_aload_n, e_aload, e_istore_n, e_istore, e_astore_n, e_astore, e_iinc, e_iadd, e_isub, e_imul, e_iand, e_ishr, e_idiv, e_i2c, e_dup_i, e_dup_r, e_dup2, e_pop, e_goto, e_nop, e_if_eq, e_if_ne, e_if_lt, e_if_ge, e_if_gt, e_if_le, e_icmp_eq, e_icmp_ne, e_icmp_lt, e_icmp_ge, e_icmp_gt, e_icmp_le, e_tsw, e_ret0, e_ret1, e_retn, e_getI, e_getZ, e_getR, e_getV, e_getC, e_putI, e_putZ, e_putF, e_gst0, e_gst1, e_sld, e_iald, e_cald, e_bald, e_iast, e_cast, e_aald, e_aast, e_alen, e_slen, e_blen, e_newa, e_newq, e_new, e_oinit, e_ctor, e_virt, e_stat, e_min, e_copy, e_ldc, List.cons_append, List.nil_append, List.append_nil, List.length_cons, List.length_nil, List.replicate_succ, List.replicate_zero, List.getElem?_cons_zero, List.getElem?_cons_succ, List.set_cons_zero, List.set_cons_succ, List.take_succ_cons, List.take_zero, List.drop_succ_cons, List.drop_zero, List.reverse_cons, List.reverse_nil, Option.toList_some, Option.toList_none, Nat.reduceSub, Nat.reduceAdd, Nat.reduceLeDiff, true_and, and_true, and_self, Option.some.injEq, exists_eq_left', Nat.zero_add, Value.int.injEq, Value.ref.injEq, List.cons.injEq, exists_and_left, and_assoc, exists_eq_left, bk_108_69, m0, m9, m10, n_in, n_cl, C_107, r_number hx0 hx1, d1, ec_1, hst, if_pos, if_neg, not_true_eq_false, not_false_eq_true, or_true, true_or, or_false, false_or, false_and, and_false, Nat.reduceEqDiff, Nat.reduceLT, Nat.reduceMul, Nat.not_lt_zero, Nat.zero_le, Nat.le_refl, ne_eq, reduceIte, reduceCtorEq]
            rw [B_108_117]
            simp (disch := omega) only [e_iconst, e_bipush, e_sipush, e_iload_n, e_iload, e_aload_n, e_aload, e_istore_n, e_istore, e_astore_n, e_astore, e_iinc, e_iadd, e_isub, e_imul, e_iand, e_ishr, e_idiv, e_i2c, e_dup_i, e_dup_r, e_dup2, e_pop, e_goto, e_nop, e_if_eq, e_if_ne, e_if_lt, e_if_ge, e_if_gt, e_if_le, e_icmp_eq, e_icmp_ne, e_icmp_lt, e_icmp_ge, e_icmp_gt, e_icmp_le, e_tsw, e_ret0, e_ret1, e_retn, e_getI, e_getZ, e_getR, e_getV, e_getC, e_putI, e_putZ, e_putF, e_gst0, e_gst1, e_sld, e_iald, e_cald, e_bald, e_iast, e_cast, e_aald, e_aast, e_alen, e_slen, e_blen, e_newa, e_newq, e_new, e_oinit, e_ctor, e_virt, e_stat, e_min, e_copy, e_ldc, List.cons_append, List.nil_append, List.append_nil, List.length_cons, List.length_nil, List.replicate_succ, List.replicate_zero, List.getElem?_cons_zero, List.getElem?_cons_succ, List.set_cons_zero, List.set_cons_succ, List.take_succ_cons, List.take_zero, List.drop_succ_cons, List.drop_zero, List.reverse_cons, List.reverse_nil, Option.toList_some, Option.toList_none, Nat.reduceSub, Nat.reduceAdd, Nat.reduceLeDiff, true_and, and_true, and_self, Option.some.injEq, exists_eq_left', Nat.zero_add, Value.int.injEq, Value.ref.injEq, List.cons.injEq, exists_and_left, and_assoc, exists_eq_left, bk_108_117, o_add_l, if_pos, if_neg, not_true_eq_false, not_false_eq_true, or_true, true_or, or_false, false_or, false_and, and_false, Nat.reduceEqDiff, Nat.reduceLT, Nat.reduceMul, Nat.not_lt_zero, Nat.zero_le, Nat.le_refl, ne_eq, reduceIte, reduceCtorEq]
            exact hnext
          · simp (disch := omega) only [e_iconst, e_bipush, e_sipush, e_iload_n, e_iload, e_aload_n, e_aload, e_istore_n, e_istore, e_astore_n, e_astore, e_iinc, e_iadd, e_isub, e_imul, e_iand, e_ishr, e_idiv, e_i2c, e_dup_i, e_dup_r, e_dup2, e_pop, e_goto, e_nop, e_if_eq, e_if_ne, e_if_lt, e_if_ge, e_if_gt, e_if_le, e_icmp_eq, e_icmp_ne, e_icmp_lt, e_icmp_ge, e_icmp_gt, e_icmp_le, e_tsw, e_ret0, e_ret1, e_retn, e_getI, e_getZ, e_getR, e_getV, e_getC, e_putI, e_putZ, e_putF, e_gst0, e_gst1, e_sld, e_iald, e_cald, e_bald, e_iast, e_cast, e_aald, e_aast, e_alen, e_slen, e_blen, e_newa, e_newq, e_new, e_oinit, e_ctor, e_virt, e_stat, e_min, e_copy, e_ldc, List.cons_append, List.nil_append, List.append_nil, List.length_cons, List.length_nil, List.replicate_succ, List.replicate_zero, List.getElem?_cons_zero, List.getElem?_cons_succ, List.set_cons_zero, List.set_cons_succ, List.take_succ_cons, List.take_zero, List.drop_succ_cons, List.drop_zero, List.reverse_cons, List.reverse_nil, Option.toList_some, Option.toList_none, Nat.reduceSub, Nat.reduceAdd, Nat.reduceLeDiff, true_and, and_true, and_self, Option.some.injEq, exists_eq_left', Nat.zero_add, Value.int.injEq, Value.ref.injEq, List.cons.injEq, exists_and_left, and_assoc, exists_eq_left, bk_108_69, m0, m9, m10, n_in, n_cl, C_107, r_number hx0 hx1, d1, ec_1, hst, c1, if_pos, if_neg, not_true_eq_false, not_false_eq_true, or_true, true_or, or_false, false_or, false_and, and_false, Nat.reduceEqDiff, Nat.reduceLT, Nat.reduceMul, Nat.not_lt_zero, Nat.zero_le, Nat.le_refl, ne_eq, reduceIte, reduceCtorEq]
            rw [B_108_117]
            simp (disch := omega) only [e_iconst, e_bipush, e_sipush, e_iload_n, e_iload, e_aload_n, e_aload, e_istore_n, e_istore, e_astore_n, e_astore, e_iinc, e_iadd, e_isub, e_imul, e_iand, e_ishr, e_idiv, e_i2c, e_dup_i, e_dup_r, e_dup2, e_pop, e_goto, e_nop, e_if_eq, e_if_ne, e_if_lt, e_if_ge, e_if_gt, e_if_le, e_icmp_eq, e_icmp_ne, e_icmp_lt, e_icmp_ge, e_icmp_gt, e_icmp_le, e_tsw, e_ret0, e_ret1, e_retn, e_getI, e_getZ, e_getR, e_getV, e_getC, e_putI, e_putZ, e_putF, e_gst0, e_gst1, e_sld, e_iald, e_cald, e_bald, e_iast, e_cast, e_aald, e_aast, e_alen, e_slen, e_blen, e_newa, e_newq, e_new, e_oinit, e_ctor, e_virt, e_stat, e_min, e_copy, e_ldc, List.cons_append, List.nil_append, List.append_nil, List.length_cons, List.length_nil, List.replicate_succ, List.replicate_zero, List.getElem?_cons_zero, List.getElem?_cons_succ, List.set_cons_zero, List.set_cons_succ, List.take_succ_cons, List.take_zero, List.drop_succ_cons, List.drop_zero, List.reverse_cons, List.reverse_nil, Option.toList_some, Option.toList_none, Nat.reduceSub, Nat.reduceAdd, Nat.reduceLeDiff, true_and, and_true, and_self, Option.some.injEq, exists_eq_left', Nat.zero_add, Value.int.injEq, Value.ref.injEq, List.cons.injEq, exists_and_left, and_assoc, exists_eq_left, bk_108_117, o_add_l, if_pos, if_neg, not_true_eq_false, not_false_eq_true, or_true, true_or, or_false, false_or, false_and, and_false, Nat.reduceEqDiff, Nat.reduceLT, Nat.reduceMul, Nat.not_lt_zero, Nat.zero_le, Nat.le_refl, ne_eq, reduceIte, reduceCtorEq]
            exact hnext
        · rw [d1, ec_n (by omega)] at hst hnext
          have hne : ¬ q + 2 = 0 := by omega
          by_cases c1 : way = 1
          · subst c1
            have e : rdM (vL (I 195) s) 0 c 1 (k + 1) = (3 * nI x + 5 * vL (I 195) s 1 (k + 1) / nI (q + 2)) / 4 := by
              rw [hM, d1, if_pos rfl, if_neg (n_m1 (by omega)), show nI q + 2 = nI (q + 2) from o_add_l]
            rw [e] at hnext
            simp (disch := omega) only [e_iconst, e_bipush, e_sipush, e_iload_n, e_iload, e_aload_n, e_aload, e_istore_n, e_istore, e_astore_n, e_astore, e_iinc, e_iadd, e_isub, e_imul, e_iand, e_ishr, e_idiv, e_i2c, e_dup_i, e_dup_r, e_dup2, e_pop, e_goto, e_nop, e_if_eq, e_if_ne, e_if_lt, e_if_ge, e_if_gt, e_if_le, e_icmp_eq, e_icmp_ne, e_icmp_lt, e_icmp_ge, e_icmp_gt, e_icmp_le, e_tsw, e_ret0, e_ret1, e_retn, e_getI, e_getZ, e_getR, e_getV, e_getC, e_putI, e_putZ, e_putF, e_gst0, e_gst1, e_sld, e_iald, e_cald, e_bald, e_iast, e_cast, e_aald, e_aast, e_alen, e_slen, e_blen, e_newa, e_newq, e_new, e_oinit, e_ctor, e_virt, e_stat, e_min, e_copy, e_ldc, List.cons_append, List.nil_append, List.append_nil, List.length_cons, List.length_nil, List.replicate_succ, List.replicate_zero, List.getElem?_cons_zero, List.getElem?_cons_succ, List.set_cons_zero, List.set_cons_succ, List.take_succ_cons, List.take_zero, List.drop_succ_cons, List.drop_zero, List.reverse_cons, List.reverse_nil, Option.toList_some, Option.toList_none, Nat.reduceSub, Nat.reduceAdd, Nat.reduceLeDiff, true_and, and_true, and_self, Option.some.injEq, exists_eq_left', Nat.zero_add, Value.int.injEq, Value.ref.injEq, List.cons.injEq, exists_and_left, and_assoc, exists_eq_left, bk_108_69, m0, m9, m10, n_in, n_cl, C_107, r_number hx0 hx1, d1, ec_n, n_m5, hst, o_add_l, o_eq_l, hne, if_pos, if_neg, not_true_eq_false, not_false_eq_true, or_true, true_or, or_false, false_or, false_and, and_false, Nat.reduceEqDiff, Nat.reduceLT, Nat.reduceMul, Nat.not_lt_zero, Nat.zero_le, Nat.le_refl, ne_eq, reduceIte, reduceCtorEq]
            refine ⟨by decide, ?_⟩
            rw [B_108_117]
            simp (disch := omega) only [e_iconst, e_bipush, e_sipush, e_iload_n, e_iload, e_aload_n, e_aload, e_istore_n, e_istore, e_astore_n, e_astore, e_iinc, e_iadd, e_isub, e_imul, e_iand, e_ishr, e_idiv, e_i2c, e_dup_i, e_dup_r, e_dup2, e_pop, e_goto, e_nop, e_if_eq, e_if_ne, e_if_lt, e_if_ge, e_if_gt, e_if_le, e_icmp_eq, e_icmp_ne, e_icmp_lt, e_icmp_ge, e_icmp_gt, e_icmp_le, e_tsw, e_ret0, e_ret1, e_retn, e_getI, e_getZ, e_getR, e_getV, e_getC, e_putI, e_putZ, e_putF, e_gst0, e_gst1, e_sld, e_iald, e_cald, e_bald, e_iast, e_cast, e_aald, e_aast, e_alen, e_slen, e_blen, e_newa, e_newq, e_new, e_oinit, e_ctor, e_virt, e_stat, e_min, e_copy, e_ldc, List.cons_append, List.nil_append, List.append_nil, List.length_cons, List.length_nil, List.replicate_succ, List.replicate_zero, List.getElem?_cons_zero, List.getElem?_cons_succ, List.set_cons_zero, List.set_cons_succ, List.take_succ_cons, List.take_zero, List.drop_succ_cons, List.drop_zero, List.reverse_cons, List.reverse_nil, Option.toList_some, Option.toList_none, Nat.reduceSub, Nat.reduceAdd, Nat.reduceLeDiff, true_and, and_true, and_self, Option.some.injEq, exists_eq_left', Nat.zero_add, Value.int.injEq, Value.ref.injEq, List.cons.injEq, exists_and_left, and_assoc, exists_eq_left, bk_108_117, o_add_l, if_pos, if_neg, not_true_eq_false, not_false_eq_true, or_true, true_or, or_false, false_or, false_and, and_false, Nat.reduceEqDiff, Nat.reduceLT, Nat.reduceMul, Nat.not_lt_zero, Nat.zero_le, Nat.le_refl, ne_eq, reduceIte, reduceCtorEq]
            exact hnext
          · have e : rdM (vL (I 195) s) 0 c way (k + 1) = nI x := by rw [hM, if_neg c1]
            rw [e] at hnext
            simp (disch := omega) only [e_iconst, e_bipush, e_sipush, e_iload_n, e_iload, e_aload_n, e_aload, e_istore_n, e_istore, e_astore_n, e_astore, e_iinc, e_iadd, e_isub, e_imul, e_iand, e_ishr, e_idiv, e_i2c, e_dup_i, e_dup_r, e_dup2, e_pop, e_goto, e_nop, e_if_eq, e_if_ne, e_if_lt, e_if_ge, e_if_gt, e_if_le, e_icmp_eq, e_icmp_ne, e_icmp_lt, e_icmp_ge, e_icmp_gt, e_icmp_le, e_tsw, e_ret0, e_ret1, e_retn, e_getI, e_getZ, e_getR, e_getV, e_getC, e_putI, e_putZ, e_putF, e_gst0, e_gst1, e_sld, e_iald, e_cald, e_bald, e_iast, e_cast, e_aald, e_aast, e_alen, e_slen, e_blen, e_newa, e_newq, e_new, e_oinit, e_ctor, e_virt, e_stat, e_min, e_copy, e_ldc, List.cons_append, List.nil_append, List.append_nil, List.length_cons, List.length_nil, List.replicate_succ, List.replicate_zero, List.getElem?_cons_zero, List.getElem?_cons_succ, List.set_cons_zero, List.set_cons_succ, List.take_succ_cons, List.take_zero, List.drop_succ_cons, List.drop_zero, List.reverse_cons, List.reverse_nil, Option.toList_some, Option.toList_none, Nat.reduceSub, Nat.reduceAdd, Nat.reduceLeDiff, true_and, and_true, and_self, Option.some.injEq, exists_eq_left', Nat.zero_add, Value.int.injEq, Value.ref.injEq, List.cons.injEq, exists_and_left, and_assoc, exists_eq_left, bk_108_69, m0, m9, m10, n_in, n_cl, C_107, r_number hx0 hx1, d1, ec_n, hst, c1, if_pos, if_neg, not_true_eq_false, not_false_eq_true, or_true, true_or, or_false, false_or, false_and, and_false, Nat.reduceEqDiff, Nat.reduceLT, Nat.reduceMul, Nat.not_lt_zero, Nat.zero_le, Nat.le_refl, ne_eq, reduceIte, reduceCtorEq]
            rw [B_108_117]
            simp (disch := omega) only [e_iconst, e_bipush, e_sipush, e_iload_n, e_iload, e_aload_n, e_aload, e_istore_n, e_istore, e_astore_n, e_astore, e_iinc, e_iadd, e_isub, e_imul, e_iand, e_ishr, e_idiv, e_i2c, e_dup_i, e_dup_r, e_dup2, e_pop, e_goto, e_nop, e_if_eq, e_if_ne, e_if_lt, e_if_ge, e_if_gt, e_if_le, e_icmp_eq, e_icmp_ne, e_icmp_lt, e_icmp_ge, e_icmp_gt, e_icmp_le, e_tsw, e_ret0, e_ret1, e_retn, e_getI, e_getZ, e_getR, e_getV, e_getC, e_putI, e_putZ, e_putF, e_gst0, e_gst1, e_sld, e_iald, e_cald, e_bald, e_iast, e_cast, e_aald, e_aast, e_alen, e_slen, e_blen, e_newa, e_newq, e_new, e_oinit, e_ctor, e_virt, e_stat, e_min, e_copy, e_ldc, List.cons_append, List.nil_append, List.append_nil, List.length_cons, List.length_nil, List.replicate_succ, List.replicate_zero, List.getElem?_cons_zero, List.getElem?_cons_succ, List.set_cons_zero, List.set_cons_succ, List.take_succ_cons, List.take_zero, List.drop_succ_cons, List.drop_zero, List.reverse_cons, List.reverse_nil, Option.toList_some, Option.toList_none, Nat.reduceSub, Nat.reduceAdd, Nat.reduceLeDiff, true_and, and_true, and_self, Option.some.injEq, exists_eq_left', Nat.zero_add, Value.int.injEq, Value.ref.injEq, List.cons.injEq, exists_and_left, and_assoc, exists_eq_left, bk_108_117, o_add_l, if_pos, if_neg, not_true_eq_false, not_false_eq_true, or_true, true_or, or_false, false_or, false_and, and_false, Nat.reduceEqDiff, Nat.reduceLT, Nat.reduceMul, Nat.not_lt_zero, Nat.zero_le, Nat.le_refl, ne_eq, reduceIte, reduceCtorEq]
            exact hnext
      rw [B_108_21]
      by_cases c2 : way = 2
      · subst c2
        have hb : I 195 (98 * s + 4) + (I 195 (98 * s + (5 + c)) - I 195 (98 * s + 4)) * nI (k + 1) / nI (c + 1) = nI x := by
          rw [← hx, rdA, if_pos rfl]
          show _ = I 195 (98 * s + (4 + 0)) + (I 195 (98 * s + (4 + (c + 1))) - I 195 (98 * s + (4 + 0))) * nI (k + 1) / nI (c + 1)
          rw [show 98 * s + (5 + c) = 98 * s + (4 + (c + 1)) by omega]
        have hne : ¬ c + 1 = 0 := by omega
        simp (disch := omega) only [e_iconst, e_bipush, e_sipush, e_iload_n, e_iload, e_aload_n, e_aload, e_istore_n, e_istore, e_astore_n, e_astore, e_iinc, e_iadd, e_isub, e_imul, e_iand, e_ishr, e_idiv, e_i2c, e_dup_i, e_dup_r, e_dup2, e_pop, e_goto, e_nop, e_if_eq, e_if_ne, e_if_lt, e_if_ge, e_if_gt, e_if_le, e_icmp_eq, e_icmp_ne, e_icmp_lt, e_icmp_ge, e_icmp_gt, e_icmp_le, e_tsw, e_ret0, e_ret1, e_retn, e_getI, e_getZ, e_getR, e_getV, e_getC, e_putI, e_putZ, e_putF, e_gst0, e_gst1, e_sld, e_iald, e_cald, e_bald, e_iast, e_cast, e_aald, e_aast, e_alen, e_slen, e_blen, e_newa, e_newq, e_new, e_oinit, e_ctor, e_virt, e_stat, e_min, e_copy, e_ldc, List.cons_append, List.nil_append, List.append_nil, List.length_cons, List.length_nil, List.replicate_succ, List.replicate_zero, List.getElem?_cons_zero, List.getElem?_cons_succ, List.set_cons_zero, List.set_cons_succ, List.take_succ_cons, List.take_zero, List.drop_succ_cons, List.drop_zero, List.reverse_cons, List.reverse_nil, Option.toList_some, Option.toList_none, Nat.reduceSub, Nat.reduceAdd, Nat.reduceLeDiff, true_and, and_true, and_self, Option.some.injEq, exists_eq_left', Nat.zero_add, Value.int.injEq, Value.ref.injEq, List.cons.injEq, exists_and_left, and_assoc, exists_eq_left, bk_108_21, m0, n_le, if_neg, o_add_r, o_add_l, C_91, r_ofN h hs, j5, hv, o_eq_l, hne, if_pos, if_neg, not_true_eq_false, not_false_eq_true, or_true, true_or, or_false, false_or, false_and, and_false, Nat.reduceEqDiff, Nat.reduceLT, Nat.reduceMul, Nat.not_lt_zero, Nat.zero_le, Nat.le_refl, ne_eq, reduceIte, reduceCtorEq]
        rw [hb]
        exact b69 _
      · have hx' : rdM (vL (I 195) s) 0 c way k = nI x := by rw [rdA, if_neg c2] at hx; exact hx
        rw [hx']
        simp (disch := omega) only [e_iconst, e_bipush, e_sipush, e_iload_n, e_iload, e_aload_n, e_aload, e_istore_n, e_istore, e_astore_n, e_astore, e_iinc, e_iadd, e_isub, e_imul, e_iand, e_ishr, e_idiv, e_i2c, e_dup_i, e_dup_r, e_dup2, e_pop, e_goto, e_nop, e_if_eq, e_if_ne, e_if_lt, e_if_ge, e_if_gt, e_if_le, e_icmp_eq, e_icmp_ne, e_icmp_lt, e_icmp_ge, e_icmp_gt, e_icmp_le, e_tsw, e_ret0, e_ret1, e_retn, e_getI, e_getZ, e_getR, e_getV, e_getC, e_putI, e_putZ, e_putF, e_gst0, e_gst1, e_sld, e_iald, e_cald, e_bald, e_iast, e_cast, e_aald, e_aast, e_alen, e_slen, e_blen, e_newa, e_newq, e_new, e_oinit, e_ctor, e_virt, e_stat, e_min, e_copy, e_ldc, List.cons_append, List.nil_append, List.append_nil, List.length_cons, List.length_nil, List.replicate_succ, List.replicate_zero, List.getElem?_cons_zero, List.getElem?_cons_succ, List.set_cons_zero, List.set_cons_succ, List.take_succ_cons, List.take_zero, List.drop_succ_cons, List.drop_zero, List.reverse_cons, List.reverse_nil, Option.toList_some, Option.toList_none, Nat.reduceSub, Nat.reduceAdd, Nat.reduceLeDiff, true_and, and_true, and_self, Option.some.injEq, exists_eq_left', Nat.zero_add, Value.int.injEq, Value.ref.injEq, List.cons.injEq, exists_and_left, and_assoc, exists_eq_left, bk_108_21, m0, n_le, if_neg, o_add_r, C_91, r_ofN h hs, j5, hv, c2, if_pos, if_neg, not_true_eq_false, not_false_eq_true, or_true, true_or, or_false, false_or, false_and, and_false, Nat.reduceEqDiff, Nat.reduceLT, Nat.reduceMul, Nat.not_lt_zero, Nat.zero_le, Nat.le_refl, ne_eq, reduceIte, reduceCtorEq]
        exact b69 _
    · intro l7 l8
      rw [B_108_21, ← hQ]
      simp (disch := omega) only [e_iconst, e_bipush, e_sipush, e_iload_n, e_iload, e_aload_n, e_aload, e_istore_n, e_istore, e_astore_n, e_astore, e_iinc, e_iadd, e_isub, e_imul, e_iand, e_ishr, e_idiv, e_i2c, e_dup_i, e_dup_r, e_dup2, e_pop, e_goto, e_nop, e_if_eq, e_if_ne, e_if_lt, e_if_ge, e_if_gt, e_if_le, e_icmp_eq, e_icmp_ne, e_icmp_lt, e_icmp_ge, e_icmp_gt, e_icmp_le, e_tsw, e_ret0, e_ret1, e_retn, e_getI, e_getZ, e_getR, e_getV, e_getC, e_putI, e_putZ, e_putF, e_gst0, e_gst1, e_sld, e_iald, e_cald, e_bald, e_iast, e_cast, e_aald, e_aast, e_alen, e_slen, e_blen, e_newa, e_newq, e_new, e_oinit, e_ctor, e_virt, e_stat, e_min, e_copy, e_ldc, List.cons_append, List.nil_append, List.append_nil, List.length_cons, List.length_nil, List.replicate_succ, List.replicate_zero, List.getElem?_cons_zero, List.getElem?_cons_succ, List.set_cons_zero, List.set_cons_succ, List.take_succ_cons, List.take_zero, List.drop_succ_cons, List.drop_zero, List.reverse_cons, List.reverse_nil, Option.toList_some, Option.toList_none, Nat.reduceSub, Nat.reduceAdd, Nat.reduceLeDiff, true_and, and_true, and_self, Option.some.injEq, exists_eq_left', Nat.zero_add, Value.int.injEq, Value.ref.injEq, List.cons.injEq, exists_and_left, and_assoc, exists_eq_left, bk_108_21, B_108_123, bk_108_123, n_le, if_pos, Nat.le_refl, if_pos, if_neg, not_true_eq_false, not_false_eq_true, or_true, true_or, or_false, false_or, false_and, and_false, Nat.reduceEqDiff, Nat.reduceLT, Nat.reduceMul, Nat.not_lt_zero, Nat.zero_le, Nat.le_refl, ne_eq, reduceIte, reduceCtorEq]
  refine Ev_cg ?_ rfl (key .null .null)
  funext x j
  unfold rdC rSet
  split
  · rename_i e
    show I x j = if j < 0 then _ else I 199 j
    rw [if_neg (Nat.not_lt_zero j), e]
  · rfl
