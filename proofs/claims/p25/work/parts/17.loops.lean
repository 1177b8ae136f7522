/-! ONE RUN has one end; loops -/
theorem EvM_iff {z : Nat} {as : List Value} {h h0 : mH} {v0 : Option Value} {Q : Option Value → mH → Prop} (hE : EvM z as h (fun v k => v = v0 ∧ k = h0)) : EvM z as h Q ↔ Q v0 h0 := by
  obtain ⟨f, r, h1, h2, h3⟩ := hE
  constructor
  · rintro ⟨g, r', g1, g2⟩
    have e1 := mR_le (Nat.le_max_left f g) h1
    have e2 := mR_le (Nat.le_max_right f g) g1
    rw [e1] at e2
    cases e2
    rw [← h2, ← h3]
    exact g2
  · intro hq
    exact ⟨f, r, h1, by rw [h2, h3]; exact hq⟩
theorem loop_dn {P : Nat → Prop} {n : Nat} (h : ∀ k, k < n → P (k + 1) → P k) : P n → P 0 := by
  induction n with
  | zero => exact fun q => q
  | succ n ih => exact fun q => ih (fun k hk => h k (by omega)) (h n (by omega) q)
theorem loop_dn' {P : Nat → Prop} {a n : Nat} (hn : a ≤ n) (h : ∀ k, a ≤ k → k < n → P (k + 1) → P k) : P n → P a := by
  intro q
  have h2 := loop_dn (P := fun k => P (a + k)) (n := n - a) (fun k hk => h (a + k) (by omega) (by omega)) (by show P (a + (n - a)); rw [show a + (n - a) = n by omega]; exact q)
  exact h2
theorem Ev_cg {y : Nat} {is : List mIns} {L L' st : List Value} {K : mK} {R : Nat → Nat → Option Nat} {I I' : Nat → Nat → Int32} {Q : Option Value → mH → Prop} (hI : I' = I) (hL : L' = L) (h : Ev y is L st (K, R, I) Q) : Ev y is L' st (K, R, I') Q := by
  rw [hI, hL]; exact h
theorem s_ne {I : Nat → Nat → Int32} {a k b j : Nat} {x : Int32} (h : ¬ (b = a ∧ j = k)) : mSet I a k x b j = I b j := if_neg h
theorem s_eq {I : Nat → Nat → Int32} {a k : Nat} {x : Int32} : mSet I a k x a k = x := if_pos ⟨rfl, rfl⟩
theorem s_eqj {I : Nat → Nat → Int32} {a k b j : Nat} {x : Int32} (h : b = a ∧ j = k) : mSet I a k x b j = x := if_pos h
/-- the first k < n with P k, else n -/
def fB (P : Nat → Bool) (n : Nat) : Nat → Nat
  | 0 => n
  | k + 1 => if fB P n k = n then (if P k then k else n) else fB P n k
theorem fB_le (P : Nat → Bool) (n : Nat) : ∀ k, k ≤ n → fB P n k ≤ n ∧ (fB P n k < n → fB P n k < k ∧ P (fB P n k) = true) ∧ (∀ j, j < k → j < fB P n k → P j = false) := by
  intro k
  induction k with
  | zero => intro _; exact ⟨Nat.le_refl _, fun h => absurd h (Nat.lt_irrefl _), fun j h => absurd h (Nat.not_lt_zero _)⟩
  | succ k ih =>
    intro hk
    obtain ⟨h1, h2, h3⟩ := ih (by omega)
    unfold fB
    by_cases e : fB P n k = n
    · rw [if_pos e]
      by_cases p : P k = true
      · rw [if_pos p]
        exact ⟨by omega, fun _ => ⟨by omega, p⟩, fun j hj hj2 => h3 j (by omega) (by omega)⟩
      · rw [if_neg p]
        refine ⟨Nat.le_refl _, fun h => absurd h (Nat.lt_irrefl _), fun j hj hj2 => ?_⟩
        rcases Nat.lt_or_ge j k with q | q
        · exact h3 j q (by omega)
        · have : j = k := by omega
          rw [this]; simpa using p
    · rw [if_neg e]
      have h4 := h2 (by omega)
      exact ⟨h1, fun _ => ⟨by omega, h4.2⟩, fun j hj hj2 => h3 j (by omega) hj2⟩
