/-! NUMBERS: what counts is nI of a natural number -/
theorem n_add (a b : Nat) : nI a + nI b = nI (a + b) := by
  unfold nI
  exact (Int32.ofNat_add a b).symm
theorem n_mul (a b : Nat) : nI a * nI b = nI (a * b) := by
  unfold nI
  exact (Int32.ofNat_mul a b).symm
theorem n_sub {a b : Nat} (h : b ≤ a) : nI a - nI b = nI (a - b) := by
  have h1 := n_add (a - b) b
  rw [Nat.sub_add_cancel h] at h1
  rw [← h1, Int32.add_sub_cancel]
theorem n_cl {n : Nat} (h : n < 2147483648) : (nI n).toNatClampNeg = n := nI_clamp h
theorem n_in {n N : Nat} (h : n < N) (h2 : N ≤ 1000000) : mIn (nI n) N = true := by
  simp only [mIn, Bool.and_eq_true, decide_eq_true_eq]
  exact ⟨nI_pos' (by omega), by rw [n_cl (by omega)]; exact h⟩
theorem n_eq {a b : Nat} (ha : a < 2147483648) (hb : b < 2147483648) : nI a = nI b ↔ a = b := by
  constructor
  · intro h
    have := congrArg Int32.toInt h
    rw [nI_toInt ha, nI_toInt hb] at this
    omega
  · intro h; rw [h]
theorem n_lt {a b : Nat} (ha : a < 2147483648) (hb : b < 2147483648) : nI a < nI b ↔ a < b := by
  rw [Int32.lt_iff_toInt_lt, nI_toInt ha, nI_toInt hb]; omega
theorem n_le {a b : Nat} (ha : a < 2147483648) (hb : b < 2147483648) : nI a ≤ nI b ↔ a ≤ b := by
  rw [Int32.le_iff_toInt_le, nI_toInt ha, nI_toInt hb]; omega
theorem n_div {a b : Nat} (ha : a < 2147483648) (hb : b < 2147483648) : nI a / nI b = nI (a / b) := by
  apply Int32.toInt_inj.mp
  have h1 : a / b < 2147483648 := Nat.lt_of_le_of_lt (Nat.div_le_self a b) ha
  have h2 : ((a : Int).tdiv (b : Int)) = ((a / b : Nat) : Int) := by
    rw [Int.tdiv_eq_ediv_of_nonneg (by omega)]; rfl
  rw [nI_toInt h1, Int32.toInt_div, nI_toInt ha, nI_toInt hb, h2]
  generalize a / b = q at h1
  apply Int.bmod_eq_of_le
  · show -((2 ^ 32 : Nat) : Int) / 2 ≤ _
    omega
  · show _ < (((2 ^ 32 : Nat) : Int) + 1) / 2
    omega
theorem o_n (b : Nat) : (OfNat.ofNat b : Int32) = nI (OfNat.ofNat b) := rfl
theorem o_add_l {a b : Nat} : nI a + (no_index (OfNat.ofNat b) : Int32) = nI (a + OfNat.ofNat b) := n_add a b
theorem o_add_r {a b : Nat} : (no_index (OfNat.ofNat b) : Int32) + nI a = nI (OfNat.ofNat b + a) := n_add b a
theorem o_mul_l {a b : Nat} : nI a * (no_index (OfNat.ofNat b) : Int32) = nI (a * OfNat.ofNat b) := n_mul a b
theorem o_mul_r {a b : Nat} : (no_index (OfNat.ofNat b) : Int32) * nI a = nI (OfNat.ofNat b * a) := n_mul b a
theorem o_sub_l {a b : Nat} (h : OfNat.ofNat b ≤ a) : nI a - (no_index (OfNat.ofNat b) : Int32) = nI (a - OfNat.ofNat b) := n_sub h
theorem o_sub_r {a b : Nat} (h : a ≤ OfNat.ofNat b) : (no_index (OfNat.ofNat b) : Int32) - nI a = nI (OfNat.ofNat b - a) := n_sub h
theorem o_lt_l {a b : Nat} (ha : a < 2147483648) (hb : OfNat.ofNat b < 2147483648) : nI a < (no_index (OfNat.ofNat b) : Int32) ↔ a < OfNat.ofNat b := n_lt ha hb
theorem o_lt_r {a b : Nat} (ha : a < 2147483648) (hb : OfNat.ofNat b < 2147483648) : (no_index (OfNat.ofNat b) : Int32) < nI a ↔ OfNat.ofNat b < a := n_lt hb ha
theorem o_le_l {a b : Nat} (ha : a < 2147483648) (hb : OfNat.ofNat b < 2147483648) : nI a ≤ (no_index (OfNat.ofNat b) : Int32) ↔ a ≤ OfNat.ofNat b := n_le ha hb
theorem o_le_r {a b : Nat} (ha : a < 2147483648) (hb : OfNat.ofNat b < 2147483648) : (no_index (OfNat.ofNat b) : Int32) ≤ nI a ↔ OfNat.ofNat b ≤ a := n_le hb ha
theorem o_eq_l {a b : Nat} (ha : a < 2147483648) (hb : OfNat.ofNat b < 2147483648) : nI a = (no_index (OfNat.ofNat b) : Int32) ↔ a = OfNat.ofNat b := n_eq ha hb
theorem o_eq_r {a b : Nat} (ha : a < 2147483648) (hb : OfNat.ofNat b < 2147483648) : (no_index (OfNat.ofNat b) : Int32) = nI a ↔ OfNat.ofNat b = a := n_eq hb ha
theorem o_div_l {a b : Nat} (ha : a < 2147483648) (hb : OfNat.ofNat b < 2147483648) : nI a / (no_index (OfNat.ofNat b) : Int32) = nI (a / OfNat.ofNat b) := n_div ha hb
theorem o_cl {b : Nat} (h : OfNat.ofNat b < 2147483648) : (no_index (OfNat.ofNat b) : Int32).toNatClampNeg = OfNat.ofNat b := n_cl h
theorem o_in {b N : Nat} (h : OfNat.ofNat b < N) (h2 : N ≤ 1000000) : mIn (no_index (OfNat.ofNat b) : Int32) N = true := n_in h h2
theorem o_eq {a b : Nat} (ha : OfNat.ofNat a < 2147483648) (hb : OfNat.ofNat b < 2147483648) : (no_index (OfNat.ofNat a) : Int32) = (no_index (OfNat.ofNat b) : Int32) ↔ (OfNat.ofNat a : Nat) = OfNat.ofNat b := n_eq ha hb
theorem o_lt {a b : Nat} (ha : OfNat.ofNat a < 2147483648) (hb : OfNat.ofNat b < 2147483648) : (no_index (OfNat.ofNat a) : Int32) < (no_index (OfNat.ofNat b) : Int32) ↔ (OfNat.ofNat a : Nat) < OfNat.ofNat b := n_lt ha hb
theorem o_le {a b : Nat} (ha : OfNat.ofNat a < 2147483648) (hb : OfNat.ofNat b < 2147483648) : (no_index (OfNat.ofNat a) : Int32) ≤ (no_index (OfNat.ofNat b) : Int32) ↔ (OfNat.ofNat a : Nat) ≤ OfNat.ofNat b := n_le ha hb
theorem n_m1 {a : Nat} (ha : a < 2147483648) : ¬ nI a = -1 := by
  intro h
  have := congrArg Int32.toInt h
  rw [nI_toInt ha, show (-1 : Int32).toInt = -1 from by decide] at this
  omega
theorem n_m1' {a : Nat} (ha : a < 2147483648) : ¬ -1 = nI a := fun h => n_m1 ha h.symm
theorem n_ne0 {a : Nat} (ha : a < 2147483648) : ¬ nI a < 0 := nI_pos ha
/-- a spool's number, or none -/
theorem sp_cases {n : Nat} (x : Int32) (hn : n < 1000000) : (∃ k, k < n ∧ x = nI k) ∨ (x < 0 ∨ nI n ≤ x) := by
  by_cases h : 0 ≤ x
  · by_cases h2 : x < nI n
    · refine Or.inl ⟨x.toNatClampNeg, ?_, ?_⟩
      · rw [Int32.lt_iff_toInt_lt, nI_toInt (by omega)] at h2
        rw [Int32.le_iff_toInt_le, Int32.toInt_zero] at h
        show x.toInt.toNat < n
        omega
      · apply Int32.toInt_inj.mp
        rw [Int32.le_iff_toInt_le, Int32.toInt_zero] at h
        have h3 := x.toInt_lt
        rw [nI_toInt (by show x.toInt.toNat < _; omega)]
        show _ = ((x.toInt.toNat : Nat) : Int)
        omega
    · exact Or.inr (Or.inr (Int32.not_lt.mp h2))
  · exact Or.inr (Or.inl (Int32.not_le.mp h))
