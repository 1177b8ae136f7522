/-! READING: the measures' ranges, what is read -/
theorem n_ndiv {a b : Nat} (ha : a < 2147483648) (hb : b < 2147483648) : (-(nI a)) / nI b = -(nI (a / b)) := by
  apply Int32.toInt_inj.mp
  have h1 : a / b < 2147483648 := Nat.lt_of_le_of_lt (Nat.div_le_self a b) ha
  have e1 : (-(nI a)).toInt = -(a : Int) := by
    rw [Int32.toInt_neg, nI_toInt ha]
    apply Int.bmod_eq_of_le
    · show -((2 ^ 32 : Nat) : Int) / 2 ≤ _
      omega
    · show _ < (((2 ^ 32 : Nat) : Int) + 1) / 2
      omega
  have e2 : (-(nI (a / b))).toInt = -((a / b : Nat) : Int) := by
    rw [Int32.toInt_neg, nI_toInt h1]
    generalize a / b = q at h1
    apply Int.bmod_eq_of_le
    · show -((2 ^ 32 : Nat) : Int) / 2 ≤ _
      omega
    · show _ < (((2 ^ 32 : Nat) : Int) + 1) / 2
      omega
  have h2 : ((a : Int).tdiv (b : Int)) = ((a / b : Nat) : Int) := by
    rw [Int.tdiv_eq_ediv_of_nonneg (by omega)]; rfl
  rw [e2, Int32.toInt_div, e1, nI_toInt hb, Int.neg_tdiv, h2]
  generalize a / b = q at h1
  apply Int.bmod_eq_of_le
  · show -((2 ^ 32 : Nat) : Int) / 2 ≤ _
    omega
  · show _ < (((2 ^ 32 : Nat) : Int) + 1) / 2
    omega
theorem rdM_s (I : Nat → Nat → Int32) (w c : Nat) (way : Int32) (i : Nat) : rdM I w c way (i + 1) = if way = 1 then (if rdN I w c way i = -1 then rdA I w c way i else (3 * rdA I w c way i + 5 * I (w + 1) (i + 1) / (rdN I w c way i + 2)) / 4) else rdA I w c way i := by
  rw [rdA_e]
  by_cases c2 : way = 2
  · subst c2
    rw [if_pos rfl, if_neg (by decide), rdA, if_pos rfl]
  · rw [if_neg c2]
theorem rd_cg {I I' : Nat → Nat → Int32} {w w' c cl : Nat} {way : Int32} (hI : ∀ j, j < c + 1 + cl → I (w + 1) j = I' (w' + 1) j) (hw : way = 2 → cl = 1) : ∀ i, i ≤ c → rdM I w c way i = rdM I' w' c way i ∧ (i < c → rdA I w c way i = rdA I' w' c way i ∧ rdN I w c way i = rdN I' w' c way i) := by
  have step : ∀ i, i < c → rdM I w c way i = rdM I' w' c way i → rdA I w c way i = rdA I' w' c way i ∧ rdN I w c way i = rdN I' w' c way i := by
    intro i hi e
    have a : rdA I w c way i = rdA I' w' c way i := by
      unfold rdA
      by_cases c2 : way = 2
      · rw [if_pos c2, if_pos c2]
        have := hw c2
        unfold mBt
        rw [hI 0 (by omega), hI (c + 1) (by omega)]
      · rw [if_neg c2, if_neg c2]; exact e
    refine ⟨a, ?_⟩
    unfold rdN
    rw [a, hI (i + 1) (by omega)]
  intro i
  induction i with
  | zero =>
    intro hi
    have e : rdM I w c way 0 = rdM I' w' c way 0 := hI 0 (by omega)
    exact ⟨e, fun h => step 0 h e⟩
  | succ i ih =>
    intro hi
    obtain ⟨a, b⟩ := (ih (by omega)).2 (by omega)
    have e : rdM I w c way (i + 1) = rdM I' w' c way (i + 1) := by
      rw [rdM_s, rdM_s, a, b, hI (i + 1) (by omega)]
    exact ⟨e, fun h => step _ h e⟩
/-- a length as it can be -/
def okL (x : Int32) : Prop := ∃ m, x = nI m ∧ 2000 ≤ m ∧ m ≤ 18000
theorem mBt_rng {I : Nat → Nat → Int32} {w c i : Nat} (h0 : okL (I (w + 1) 0)) (h1 : okL (I (w + 1) (c + 1))) (hi : i < c) (hc : c ≤ 30) : ∃ z, mBt I w c i = nI z ∧ 1111 ≤ z ∧ z ≤ 45000 := by
  obtain ⟨x, hx, x1, x2⟩ := h0
  obtain ⟨y, hy, y1, y2⟩ := h1
  unfold mBt
  rw [hx, hy]
  by_cases e : x ≤ y
  · have b1 : (y - x) * (i + 1) ≤ 16000 * 30 := Nat.mul_le_mul (by omega) (by omega)
    have b2 : (y - x) * (i + 1) / (c + 1) ≤ y - x := by
      apply Nat.div_le_of_le_mul
      rw [Nat.mul_comm]
      exact Nat.mul_le_mul (by omega) (Nat.le_refl _)
    rw [n_sub e, n_mul, n_div (by omega) (by omega), n_add]
    generalize (y - x) * (i + 1) / (c + 1) = q at b2
    exact ⟨x + q, rfl, by omega, by omega⟩
  · have b1 : (x - y) * (i + 1) ≤ 16000 * 30 := Nat.mul_le_mul (by omega) (by omega)
    have b2 : (x - y) * (i + 1) / (c + 1) ≤ x - y := by
      apply Nat.div_le_of_le_mul
      rw [Nat.mul_comm]
      exact Nat.mul_le_mul (by omega) (Nat.le_refl _)
    have e1 : nI y - nI x = -(nI (x - y)) := by
      rw [← n_sub (show y ≤ x by omega), Int32.neg_sub]
    rw [e1, Int32.neg_mul, n_mul, n_ndiv (by omega) (by omega)]
    generalize (x - y) * (i + 1) / (c + 1) = q at b2
    refine ⟨x - q, ?_, by omega, by omega⟩
    rw [← n_sub (show q ≤ x by omega), Int32.sub_eq_add_neg]
theorem rd_rng {I : Nat → Nat → Int32} {w c cl : Nat} {way : Int32} (hI : ∀ j, j < c + 1 + cl → okL (I (w + 1) j)) (hw : way = 2 → cl = 1) (hc : c ≤ 30) : ∀ i, i ≤ c → (way ≠ 2 → ∃ z, rdM I w c way i = nI z ∧ 1111 ≤ z ∧ z ≤ 45000) ∧ (i < c → ∃ z, rdA I w c way i = nI z ∧ 1111 ≤ z ∧ z ≤ 45000) := by
  have step : ∀ i, (way ≠ 2 → ∃ z, rdM I w c way i = nI z ∧ 1111 ≤ z ∧ z ≤ 45000) → i < c → ∃ z, rdA I w c way i = nI z ∧ 1111 ≤ z ∧ z ≤ 45000 := by
    intro i h hi
    unfold rdA
    by_cases c2 : way = 2
    · rw [if_pos c2]
      have := hw c2
      exact mBt_rng (hI 0 (by omega)) (hI (c + 1) (by omega)) hi hc
    · rw [if_neg c2]; exact h c2
  intro i
  induction i with
  | zero =>
    intro _
    have e : way ≠ 2 → ∃ z, rdM I w c way 0 = nI z ∧ 1111 ≤ z ∧ z ≤ 45000 := by
      intro _
      obtain ⟨m, m1, m2, m3⟩ := hI 0 (by omega)
      exact ⟨m, m1, by omega, by omega⟩
    exact ⟨e, step 0 e⟩
  | succ i ih =>
    intro hi
    have e : way ≠ 2 → ∃ z, rdM I w c way (i + 1) = nI z ∧ 1111 ≤ z ∧ z ≤ 45000 := by
      intro _
      obtain ⟨x, hx, x1, x2⟩ := (ih (by omega)).2 (by omega)
      rw [rdM_s, hx]
      by_cases c1 : way = 1
      · rw [if_pos c1]
        by_cases d1 : rdN I w c way i = -1
        · rw [if_pos d1]; exact ⟨x, rfl, x1, x2⟩
        · rw [if_neg d1]
          obtain ⟨q, hq, hq2⟩ := (nmb_c (I (w + 1) (i + 1)) (rdA I w c way i)).resolve_left d1
          have hq3 : rdN I w c way i = nI q := hq2
          obtain ⟨m, m1, m2, m3⟩ := hI (i + 1) (by omega)
          rw [hq3, m1, show (3 : Int32) = nI 3 from rfl, show (5 : Int32) = nI 5 from rfl, show (2 : Int32) = nI 2 from rfl, show (4 : Int32) = nI 4 from rfl, n_mul, n_mul, n_add, n_div (by omega) (by omega), n_add]
          have b1 : 5 * m / (q + 2) ≤ 45000 ∧ 1111 ≤ 5 * m / (q + 2) := by
            rcases (show q = 0 ∨ q = 1 ∨ q = 2 ∨ q = 3 ∨ q = 4 ∨ q = 5 ∨ q = 6 ∨ q = 7 by omega) with rfl | rfl | rfl | rfl | rfl | rfl | rfl | rfl <;> omega
          generalize 5 * m / (q + 2) = u at b1
          rw [n_div (by omega) (by omega)]
          exact ⟨_, rfl, by omega, by omega⟩
      · rw [if_neg c1]; exact ⟨x, rfl, x1, x2⟩
    exact ⟨e, step _ e⟩
/-- the row's lengths as a wire's -/
def vL (v : Nat → Int32) (s : Nat) : Nat → Nat → Int32 := fun _ j => v (98 * s + (4 + j))
def wrR (nb tr : Nat → Int32) (c : Nat) (what : Int32) : Int32 := if what = 0 then nI (cnt (pMi nb tr) c) else if what = 1 then nI (cnt (pUn nb tr) c) else if fB (pWr nb tr) c c = c then -5 else nI (fB (pWr nb tr) c c)
def nbR (v : Nat → Int32) (s c : Nat) (way : Int32) : Nat → Int32 := rdN (vL v s) 0 c way
def trR (v : Nat → Int32) (s : Nat) : Nat → Int32 := fun i => v (98 * s + (68 + i))
/-- what the row v tells of its wire s -/
def okV (v : Nat → Int32) (s cl c : Nat) : Prop := (∀ j, j < c + 1 + cl → okL (v (98 * s + (4 + j)))) ∧ (∀ i, i < c → ∃ t, t < 8 ∧ v (98 * s + (68 + i)) = nI t) ∧ c ≤ 30
theorem okV_m {v : Nat → Int32} {s cl c : Nat} {way : Int32} (h : okV v s cl c) (hw : way = 2 → cl = 1) : ∀ i, i < c → ∃ x, rdA (vL v s) 0 c way i = nI x ∧ 0 < x ∧ x < 1000000 := by
  intro i hi
  obtain ⟨x, x1, x2, x3⟩ := (rd_rng (I := vL v s) (w := 0) (way := way) (fun j hj => h.1 j hj) hw h.2.2 i (by omega)).2 hi
  exact ⟨x, x1, by omega, by omega⟩
theorem nbR_c (v : Nat → Int32) (s c : Nat) (way : Int32) (i : Nat) : nbR v s c way i = -1 ∨ ∃ q, q < 8 ∧ nbR v s c way i = nI q := nmb_c _ _
theorem okL_G {x y : Int32} (h : okG x y) : okL x := by
  obtain ⟨m, n, h1, h2, h3, h4, h5, h6⟩ := h
  exact ⟨m, h1, by omega, by omega⟩
theorem rW_V {I : Nat → Nat → Int32} {a s cl c : Nat} {v : Nat → Int32} (h : rW I a v s 1 cl c) : okV v s cl c := by
  obtain ⟨⟨f1, f2, f3, f4, f5, f6⟩, -, -, -, -, k3, k4, -⟩ := h
  exact ⟨fun j hj => okL_G (k3 j hj).2.2, fun i hi => (k4 i hi).2, f6⟩
/-- behind the class's reading of the wire a into the reader r -/
def rdS (I : Nat → Nat → Int32) (r a c : Nat) (way : Int32) : Nat → Nat → Int32 := rSt I r (rdN I a c way) (fun i => I (a + 3) (i + 1)) c c
theorem rdS_o {I : Nat → Nat → Int32} {r a c x : Nat} {way : Int32} (h : x ≠ r ∧ x ≠ r + 1) : rdS I r a c way x = I x := by
  funext j; exact rSt_o h
theorem SCR_rd {I : Nat → Nat → Int32} {r a c : Nat} {way : Int32} (h : 185 ≤ r) : SCR I (rdS I r a c way) := fun x hx => rdS_o (by omega)
theorem rd_cls {I : Nat → Nat → Int32} {a s cl c r : Nat} {v : Nat → Int32} {way : Int32} (h : rW I a v s 1 cl c) (hw : way = 2 → cl = 1) :
    (∀ i, i < c → ∃ x, rdA I a c way i = nI x ∧ 0 < x ∧ x < 1000000) ∧ (∀ i, i < c → rdS I r a c way (r + 1) i = nbR v s c way i) ∧ rdS I r a c way r 1 = nI (cnt (pMi (nbR v s c way) (trR v s)) c) ∧ rdS I r a c way r 2 = nI (cnt (pUn (nbR v s c way) (trR v s)) c) ∧ rdS I r a c way r 3 = (if fB (pWr (nbR v s c way) (trR v s)) c c = c then -1 else nI (fB (pWr (nbR v s c way) (trR v s)) c c)) := by
  obtain ⟨⟨f1, f2, f3, f4, f5, f6⟩, -, -, -, -, k3, k4, -⟩ := h
  have e : ∀ i, i < c → rdN I a c way i = nbR v s c way i := fun i hi => ((rd_cg (I := I) (I' := vL v s) (w := a) (w' := 0) (cl := cl) (fun j hj => (k3 j hj).1) hw i (by omega)).2 hi).2
  have et : ∀ i, i < c → I (a + 3) (i + 1) = trR v s i := fun i hi => (k4 i hi).1
  have q1 : cnt (pMi (rdN I a c way) (fun i => I (a + 3) (i + 1))) c = cnt (pMi (nbR v s c way) (trR v s)) c := cnt_cg c (fun i hi => by simp only [pMi, e i hi, et i hi])
  have q2 : cnt (pUn (rdN I a c way) (fun i => I (a + 3) (i + 1))) c = cnt (pUn (nbR v s c way) (trR v s)) c := cnt_cg c (fun i hi => by simp only [pUn, e i hi, et i hi])
  have q3 : fB (pWr (rdN I a c way) (fun i => I (a + 3) (i + 1))) c c = fB (pWr (nbR v s c way) (trR v s)) c c := fB_cg c (Nat.le_refl _) (fun i hi => by simp only [pWr, e i hi, et i hi])
  refine ⟨fun i hi => ?_, fun i hi => ?_, ?_, ?_, ?_⟩
  · obtain ⟨x, x1, x2, x3⟩ := (rd_rng (I := I) (w := a) (way := way) (fun j hj => by rw [(k3 j hj).1]; exact okL_G (k3 j hj).2.2) hw f6 i (by omega)).2 hi
    exact ⟨x, x1, by omega, by omega⟩
  · rw [← e i hi]
    show rSt I r (rdN I a c way) (fun i => I (a + 3) (i + 1)) c c (r + 1) i = _
    rw [rSt, if_pos ⟨rfl, hi⟩]
  · rw [← q1]
    show rSt I r (rdN I a c way) (fun i => I (a + 3) (i + 1)) c c r 1 = _
    rw [rSt, if_neg (by omega), if_pos ⟨rfl, rfl⟩]
  · rw [← q2]
    show rSt I r (rdN I a c way) (fun i => I (a + 3) (i + 1)) c c r 2 = _
    rw [rSt, if_neg (by omega), if_neg (by omega), if_pos ⟨rfl, rfl⟩]
  · rw [← q3]
    show rSt I r (rdN I a c way) (fun i => I (a + 3) (i + 1)) c c r 3 = _
    rw [rSt, if_neg (by omega), if_neg (by omega), if_neg (by omega), if_pos ⟨rfl, rfl⟩]
/-- the class's reading -/
theorem m_rd {K : mK} {R : Nat → Nat → Option Nat} {I : Nat → Nat → Int32} {r a s cl c : Nat} {v : Nat → Int32} {way : Int32} {Q : Option Value → mH → Prop} (hr : zR K R r) (hz : zW K R a) (hab : r + 2 ≤ a ∨ a + 4 ≤ r) (h : rW I a v s 1 cl c) (hw : way = 2 → cl = 1) :
    EvM 18 [.ref r, .ref a, .int way] (K, R, I) Q ↔ Q none (K, R, rdS I r a c way) := by
  obtain ⟨f1, f2, f3, f4, f5, f6⟩ := id h.1
  exact m_readAll hr hz hab f2 f3 f6 hw (rd_cls (r := r) h hw).1 (Or.inl f1)
theorem wrR_0 (nb tr : Nat → Int32) (c : Nat) : wrR nb tr c 0 = nI (cnt (pMi nb tr) c) := if_pos rfl
theorem wrR_1 (nb tr : Nat → Int32) (c : Nat) : wrR nb tr c 1 = nI (cnt (pUn nb tr) c) := by
  unfold wrR
  rw [if_neg (by decide), if_pos rfl]
def tot (nb tr : Nat → Int32) (c : Nat) : Nat := cnt (pMi nb tr) c + cnt (pUn nb tr) c
theorem tot_le (nb tr : Nat → Int32) : ∀ c, tot nb tr c ≤ c := by
  intro c
  induction c with
  | zero => exact Nat.le_refl _
  | succ c ih =>
    unfold tot at ih ⊢
    unfold cnt
    by_cases e : nb c = -1
    · have u : pMi nb tr c = false := by simp [pMi, e]
      rw [u]
      simp only [if_neg (show ¬ false = true by decide)]
      split <;> omega
    · have u : pUn nb tr c = false := by simp [pUn, e]
      rw [u]
      simp only [if_neg (show ¬ false = true by decide)]
      split <;> omega
theorem rW_out {I X : Nat → Nat → Int32} {a s p cl c : Nat} {v : Nat → Int32} (h : rW I a v s p cl c) (hX : ∀ x, a ≤ x → x < a + 4 → X x = I x) : rW X a v s p cl c := rW_cong h (fun d j hd _ _ => by rw [hX _ (by omega) (by omega)]) (fun _ _ _ => rfl)
