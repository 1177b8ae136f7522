/-! ONE REWIND of a wire, class against reference -/
theorem vStr_n {ru u k n : Nat} (hru : ru ≤ 2) (hu : u ≤ 9) (hk : k < n) (hn : n ≤ 32) : ∃ st, st ≤ 441 ∧ vStr (nI ru) (nI u) (nI k) (nI n) = nI st := by
  have h1 : u * u ≤ 81 := Nat.mul_le_mul hu hu
  have h2 : u * k ≤ 9 * 31 := Nat.mul_le_mul hu (by omega)
  have h3 : u * (n - 1 - k) ≤ 9 * 31 := Nat.mul_le_mul hu (by omega)
  have e1 : (2 : Int32) * nI u * nI u = nI (2 * u * u) := by rw [show (2 : Int32) = nI 2 from rfl, n_mul, n_mul]
  have e4 : (4 : Int32) * nI u * nI u = nI (4 * u * u) := by rw [show (4 : Int32) = nI 4 from rfl, n_mul, n_mul]
  have a1 : 2 * u * u = 2 * (u * u) := Nat.mul_assoc 2 u u
  have a4 : 4 * u * u = 4 * (u * u) := Nat.mul_assoc 4 u u
  unfold vStr
  rcases (show ru = 0 ∨ ru = 1 ∨ ru = 2 by omega) with rfl | rfl | rfl
  · rw [if_neg (by decide), if_neg (by decide), e4]
    exact ⟨_, by omega, rfl⟩
  · rw [if_pos (by decide), e1, n_mul, n_add]
    exact ⟨_, by omega, rfl⟩
  · rw [if_neg (by decide), if_pos (by decide), e1, show nI n - 1 - nI k = nI (n - 1 - k) by rw [show nI n - 1 = nI (n - 1) from o_sub_l (b := 1) (by show 1 ≤ n; omega), n_sub (by omega)], n_mul, n_add]
    exact ⟨_, by omega, rfl⟩
/-- the length behind one rewind, as a number -/
theorem vLn_n {v : Nat → Int32} {s ru u n k m : Nat} (hru2 : v 588 = nI ru) (hru : ru ≤ 2) (hu : u ≤ 9) (hk : k < n) (hn : n ≤ 32) (hm : v (98 * s + (4 + k)) = nI m) (hm2 : m ≤ 18000) : ∃ d, d ≤ 800 ∧ vLn v s (nI u) n k = nI (m + d) := by
  obtain ⟨st, st1, st2⟩ := vStr_n (ru := ru) hru hu hk hn
  have h1 : m * st ≤ 18000 * 441 := Nat.mul_le_mul hm2 st1
  refine ⟨m * st / 10000, by omega, ?_⟩
  unfold vLn
  rw [hm, hru2, st2, n_mul, show (10000 : Int32) = nI 10000 from rfl, n_div (by omega) (by omega), n_add]
theorem okG_str {v : Nat → Int32} {s ru lm u n k : Nat} (hru2 : v 588 = nI ru) (hru : ru ≤ 2) (hlm2 : v 589 = nI lm) (hlm : lm ≤ 200) (hu : u ≤ 9) (hk : k < n) (hn : n ≤ 32) (hok : okG (v (98 * s + (4 + k))) (v (98 * s + (36 + k)))) (hb : vBd v s (nI u) n k = false) : okG (vLn v s (nI u) n k) (v (98 * s + (36 + k))) := by
  obtain ⟨m, q, hm, hq, q1, q2, q3, q4⟩ := hok
  obtain ⟨d, d1, d2⟩ := vLn_n (s := s) hru2 hru hu hk hn hm (by omega)
  unfold vBd at hb
  have hq2 : q * lm ≤ q * 200 := Nat.mul_le_mul (Nat.le_refl q) hlm
  rw [d2, hq, hlm2, n_mul, show (100 : Int32) = nI 100 from rfl, n_mul, Bool.not_eq_false', decide_eq_true_eq, n_le (by omega) (by omega)] at hb
  exact ⟨m + d, q, d2, hq, q1, q2, by omega, by omega⟩
/-- class and reference see the same first gap -/
theorem str_eq {I : Nat → Nat → Int32} {a s cl c ru lm u : Nat} {v : Nat → Int32} (hw : rW I a v s 1 cl c) (hru2 : v 588 = nI ru) (hlm2 : v 589 = nI lm) :
    (∀ k, k < c + 1 + cl → wLn I a (nI ru) (nI u) (c + 1 + cl) k = vLn v s (nI u) (c + 1 + cl) k) ∧ fB (wBd I a (nI ru) (nI lm) (nI u) (c + 1 + cl)) (c + 1 + cl) (c + 1 + cl) = fB (vBd v s (nI u) (c + 1 + cl)) (c + 1 + cl) (c + 1 + cl) := by
  have e : ∀ k, k < c + 1 + cl → wLn I a (nI ru) (nI u) (c + 1 + cl) k = vLn v s (nI u) (c + 1 + cl) k := by
    intro k hk
    unfold wLn vLn
    rw [(hw.2.2.2.2.2.1 k hk).1, hru2]
  refine ⟨e, fB_cg _ (Nat.le_refl _) (fun k hk => ?_)⟩
  unfold wBd vBd
  rw [e k hk, (hw.2.2.2.2.2.1 k hk).2.1, hlm2]
/-- the wire behind a rewind by which it does not break; of one that breaks, the gaps before -/
theorem rW_str {I I' : Nat → Nat → Int32} {a a' s cl c ru lm u c' cl' : Nat} {v v' : Nat → Int32} (hw : rW I a v s 1 cl c) (hru2 : v 588 = nI ru) (hru : ru ≤ 2) (hlm2 : v 589 = nI lm) (hlm : lm ≤ 200) (hu : u ≤ 9)
    (hc : c' + 1 + cl' ≤ fB (vBd v s (nI u) (c + 1 + cl)) (c + 1 + cl) (c + 1 + cl)) (hcc : c' ≤ c) (hcl1 : cl' ≤ 1) (hcl : cl' = 1 → cl = 1 ∧ c' = c)
    (h3 : I' a' 3 = 1) (h4 : I' a' 4 = nI cl') (h5 : I' a' 5 = nI c') (h6 : I' a' 6 = I a 6 + 1)
    (g3 : v' (98 * s) = 1) (g4 : v' (98 * s + 1) = nI cl') (g5 : v' (98 * s + 2) = nI c') (g6 : v' (98 * s + 3) = v (98 * s + 3) + 1)
    (hl : ∀ k, k < c' + 1 + cl' → I' (a' + 1) k = wLn I a (nI ru) (nI u) (c + 1 + cl) k) (hn : ∀ k, k < c' + 1 + cl' → I' (a' + 2) k = I (a + 2) k) (ht : ∀ k, k < c' + 1 + cl' → I' (a' + 3) k = I (a + 3) k)
    (gl : ∀ k, k < c' + 1 + cl' → v' (98 * s + (4 + k)) = vLn v s (nI u) (c + 1 + cl) k) (gn : ∀ k, k < c' + 1 + cl' → v' (98 * s + (36 + k)) = v (98 * s + (36 + k))) (gt : ∀ i, i < c' → v' (98 * s + (68 + i)) = v (98 * s + (68 + i))) : rW I' a' v' s 1 cl' c' := by
  obtain ⟨e1, e2⟩ := str_eq (lm := lm) (u := u) hw hru2 hlm2
  obtain ⟨⟨f1, f2, f3, f4, f5, f6⟩, ⟨w1, w2, w3, -⟩, k0, k1, k2, k3, k4, k5⟩ := hw
  obtain ⟨b1, b2, b3⟩ := fB_le (vBd v s (nI u) (c + 1 + cl)) (c + 1 + cl) (c + 1 + cl) (Nat.le_refl _)
  refine ⟨⟨h3, h4, h5, by omega, hcl1, by omega⟩, ⟨g3, g4, g5, by omega, hcl1, by omega⟩, fun q => absurd q (by omega), fun _ => by rw [h6, g6, k1 rfl], fun _ => by rw [ht 0 (by omega)]; exact k2 rfl, fun k hk => ?_, fun i hi => ?_, fun q => ?_⟩
  · have hk2 : k < c' + 1 + cl' := hk
    have hkn : k < c + 1 + cl := by omega
    obtain ⟨z1, z2, z3⟩ := k3 k hkn
    rw [hl k hk2, gl k hk2, hn k hk2, gn k hk2, e1 k hkn]
    exact ⟨rfl, z2, okG_str hru2 hru hlm2 hlm hu hkn (by omega) z3 (b3 k hkn (by omega))⟩
  · rw [ht (i + 1) (by omega), gt i hi]
    exact k4 i (by omega)
  · obtain ⟨q1, q2⟩ := hcl q
    subst q2
    rw [ht (c' + 1) (by omega)]
    exact k5 q1
