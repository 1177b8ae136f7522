/-! THE OPS of the class, one by one, by the ghost. What they share -/
theorem in_rng {x : Int32} {n : Nat} (hn : n + 1 < 1000000) (h1 : ¬ x < 0) (h2 : ¬ nI n < x) : ∃ k, k ≤ n ∧ x = nI k := by
  rcases sp_cases x (n := n + 1) (by omega) with ⟨k, hk, rfl⟩ | q | q
  · exact ⟨k, by omega, rfl⟩
  · exact absurd q h1
  · refine absurd ?_ h2
    rw [Int32.lt_iff_toInt_lt, nI_toInt (by omega)]
    rw [Int32.le_iff_toInt_le, nI_toInt (by omega)] at q
    omega
theorem E_in (z : Nat) {as : List Value} {h : mH} {Q : Option Value → mH → Prop} : EvM z as h Q = Ev z (mB z 0) (as ++ List.replicate (mN z - as.length) .null) [] h Q := rfl
theorem s_no {I : Nat → Nat → Int32} {a k b : Nat} {x : Int32} (h : b ≠ a) : mSet I a k x b = I b := by
  funext j; exact if_neg (fun q => h q.1)
theorem s_row {I : Nat → Nat → Int32} {a k : Nat} {x : Int32} : mSet I a k x a = vU (I a) k x := by
  funext j
  simp [mSet, vU]
theorem hRm_w {I : Nat → Nat → Int32} {q n x : Nat} (h : x < 33 + 30 * q ∨ 33 + 30 * q + 30 ≤ x) (h2 : x ≠ 31) : hRm I q n x = I x := by
  funext j; exact hRm_o h h2
/-- cells that nobody looks at between the calls: 185 and on -/
def SCR (I J : Nat → Nat → Int32) : Prop := ∀ x, x < 185 → J x = I x
theorem SCR_id {I : Nat → Nat → Int32} : SCR I I := fun _ _ => rfl
theorem SCR_tr {I J L : Nat → Nat → Int32} (h : SCR I J) (h2 : SCR J L) : SCR I L := fun x hx => by rw [h2 x hx, h x hx]
theorem REL_scr {K : mK} {R : Nat → Nat → Option Nat} {I J : Nat → Nat → Int32} {v H : Nat → Int32} {T : Nat → Nat} {n t : Nat} (h : REL K R I v n H t T) (hs : SCR I J) : REL K R J v n H t T := by
  obtain ⟨f, g, hv, hn2, hn, hH, hP, t1, t2, t4⟩ := h
  have z4 := g.2.2.1.2.2.2.2.1
  refine ⟨f, g, RC_out hv (fun x x1 x2 => hs x (by omega)), hn2, ?_, ?_, ?_, t1, ?_, ?_⟩
  · rw [hs 31 (by omega)]; exact hn
  · intro j hj
    have := z4 j (by omega)
    exact RC_out (hH j hj) (fun x x1 x2 => hs x (by omega))
  · rw [hs 0 (by omega)]; exact hP
  · rw [hs 183 (by omega)]; exact t2
  · rw [hs 184 (by omega)]; exact t4
/-- a call that answers x and leaves the cells that count -/
def QO (c : Nat) (as : List Value) (K : mK) (R : Nat → Nat → Option Nat) (I : Nat → Nat → Int32) (x : Int32) : Prop := ∃ I1, EvM c (.ref 0 :: as) (K, R, I) (fun w k => w = some (.int x) ∧ k = (K, R, I1)) ∧ SCR I I1
/-- a call that answers x and leaves the ghost behind -/
def AO (c : Nat) (as : List Value) (K : mK) (R : Nat → Nat → Option Nat) (I : Nat → Nat → Int32) (x : Int32) (v : Nat → Int32) (n : Nat) (H : Nat → Int32) (t : Nat) (T : Nat → Nat) : Prop := ∃ R1 I1, EvM c (.ref 0 :: as) (K, R, I) (fun w k => w = some (.int x) ∧ k = (K, R1, I1)) ∧ REL K R1 I1 v n H t T
theorem QO_AO {c : Nat} {as : List Value} {K : mK} {R : Nat → Nat → Option Nat} {I : Nat → Nat → Int32} {x : Int32} {v H : Nat → Int32} {T : Nat → Nat} {n t : Nat} (h : REL K R I v n H t T) (q : QO c as K R I x) : AO c as K R I x v n H t T := by
  obtain ⟨I1, q1, q2⟩ := q
  exact ⟨R, I1, q1, REL_scr h q2⟩
/-- the log of the state 1 -/
def rL (I : Nat → Nat → Int32) (v : Nat → Int32) : Prop := ∃ n, n ≤ 10 ∧ I 3 3 = nI n ∧ v 595 = nI n ∧ ∀ e, e < n → I 4 e = v (596 + 3 * e) ∧ I 5 e = v (597 + 3 * e) ∧ I 6 e = v (598 + 3 * e)
theorem lAd_o {I : Nat → Nat → Int32} {a n x j : Nat} {kd sp nu : Int32} (h : ¬ (x = a ∧ j = 3) ∧ x ≠ a + 1 ∧ x ≠ a + 2 ∧ x ≠ a + 3) : lAd I a n kd sp nu x j = I x j := by
  obtain ⟨h1, h2, h3, h4⟩ := h
  by_cases e : n = 10 <;> simp (disch := omega) only [lAd, if_pos, if_neg, e, if_true, if_false]
theorem rL_add {I : Nat → Nat → Int32} {v : Nat → Int32} {n : Nat} {kd sp nu : Int32} (hn : n ≤ 10) (h3 : I 3 3 = nI n) (hv : v 595 = nI n) (he : ∀ e, e < n → I 4 e = v (596 + 3 * e) ∧ I 5 e = v (597 + 3 * e) ∧ I 6 e = v (598 + 3 * e)) : rL (lAd I 3 n kd sp nu) (vTl v n kd sp nu) := by
  by_cases e : n = 10
  · subst e
    refine ⟨10, Nat.le_refl _, by simp [lAd], by simp [vTl]; exact hv, fun e he2 => ?_⟩
    by_cases c : e = 9
    · subst c; simp [lAd, vTl]
    · have := he (e + 1) (by omega)
      have c2 : e < 9 := by omega
      simp (disch := omega) only [lAd, vTl, if_pos, if_neg]
      rw [show 596 + 3 * e + 3 = 596 + 3 * (e + 1) by omega, show 597 + 3 * e + 3 = 597 + 3 * (e + 1) by omega, show 598 + 3 * e + 3 = 598 + 3 * (e + 1) by omega]
      exact this
  · refine ⟨n + 1, by omega, ?_, ?_, fun e1 he2 => ?_⟩
    · simp [lAd, e]
    · unfold vTl
      rw [if_neg e, if_neg (by omega), if_neg (by omega), if_neg (by omega), if_pos rfl]
    · by_cases c : e1 = n
      · subst c
        simp (disch := omega) only [lAd, vTl, if_pos, if_neg]
        exact ⟨rfl, rfl, rfl⟩
      · have := he e1 (by omega)
        simp (disch := omega) only [lAd, vTl, if_pos, if_neg]
        exact this
/-- the state 1 with some wires changed -/
theorem RC_upd {I I2 : Nat → Nat → Int32} {v v' : Nat → Int32} (ch : Nat → Prop) (h : RC I 1 v) (hs : ∀ s, s < 6 → ch s → ∃ p cl c, rW I2 (7 + 4 * s) v' s p cl c) (ho : ∀ s, s < 6 → ¬ ch s → (∀ d, d < 4 → I2 (7 + 4 * s + d) = I (7 + 4 * s + d)) ∧ (∀ x, 98 * s ≤ x → x < 98 * s + 98 → v' x = v x)) (hE : rE I2 1 v') : RC I2 1 v' := by
  refine ⟨fun s hs1 => ?_, hE⟩
  rw [show 1 + 6 + 4 * s = 7 + 4 * s by omega]
  by_cases c : ch s
  · exact hs s hs1 c
  · obtain ⟨p, cl, c2, hw⟩ := h.1 s hs1
    rw [show 1 + 6 + 4 * s = 7 + 4 * s by omega] at hw
    exact ⟨p, cl, c2, rW_cong hw (fun d j hd _ _ => by rw [(ho s hs1 c).1 d hd]) (ho s hs1 c).2⟩
theorem rE_mk {I : Nat → Nat → Int32} {v : Nat → Int32} (h1 : I 1 2 = v 588) (h2 : I 1 3 = v 589) (h3 : I 1 4 = v 590) (h4 : I 1 5 = v 591) (h5 : I 1 6 = v 592) (h6 : I 1 7 = v 593) (h7 : I 1 8 = v 594) (h8 : ∃ ru, ru ≤ 2 ∧ v 588 = nI ru) (h9 : ∃ lm, 101 ≤ lm ∧ lm ≤ 200 ∧ v 589 = nI lm) (hL : rL I v) : rE I 1 v := ⟨h1, h2, h3, h4, h5, h6, h7, h8, h9, hL⟩
/-! a spool's number, or none -/
theorem m_isSp {s : Nat} {h : mH} {Q : Option Value → mH → Prop} (hs : s < 6) : EvM 81 [.int (nI s)] h Q ↔ Q (some (.int 1)) h := by
  rw [m_isSpool, if_neg (n_ne0 (by omega)), if_neg (by rw [show (6 : Int32) = nI 6 from rfl, n_le (by omega) (by omega)]; omega)]
theorem m_noSp {x : Int32} {h : mH} {Q : Option Value → mH → Prop} (q : x < 0 ∨ nI 6 ≤ x) : EvM 81 [.int x] h Q ↔ Q (some (.int 0)) h := by
  rw [m_isSpool]
  by_cases c : x < 0
  · rw [if_pos c]
  · have q2 : (6 : Int32) ≤ x := by
      rcases q with q | q
      · exact absurd q c
      · exact q
    rw [if_neg c, if_pos q2]
/-! the numbers of a wire in the ghost -/
def gp (v : Nat → Int32) (s : Nat) : Nat := (v (98 * s)).toNatClampNeg
def gl (v : Nat → Int32) (s : Nat) : Nat := (v (98 * s + 1)).toNatClampNeg
def gc (v : Nat → Int32) (s : Nat) : Nat := (v (98 * s + 2)).toNatClampNeg
def gn (v : Nat → Int32) (s : Nat) : Nat := gc v s + 1 + gl v s
def gln (v : Nat → Int32) : Nat := (v 595).toNatClampNeg
theorem g_vF {v : Nat → Int32} {s p cl c : Nat} (h : vF v s p cl c) : gp v s = p ∧ gl v s = cl ∧ gc v s = c := by
  obtain ⟨h1, h2, h3, h4, h5, h6⟩ := h
  unfold gp gl gc
  rw [h1, h2, h3]
  exact ⟨n_cl (by omega), n_cl (by omega), n_cl (by omega)⟩
