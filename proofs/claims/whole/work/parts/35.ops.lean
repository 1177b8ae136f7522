/-! THE OPS, one by one: class and reference side by side. What they share -/
theorem in_rng {x : Int32} {n : Nat} (hn : n + 1 < 1000000) (h1 : ¬ x < 0) (h2 : ¬ nI n < x) : ∃ k, k ≤ n ∧ x = nI k := by
  rcases sp_cases x (n := n + 1) (by omega) with ⟨k, hk, rfl⟩ | q | q
  · exact ⟨k, by omega, rfl⟩
  · exact absurd q h1
  · refine absurd ?_ h2
    rw [Int32.lt_iff_toInt_lt, nI_toInt (by omega)]
    rw [Int32.le_iff_toInt_le, nI_toInt (by omega)] at q
    omega
theorem E_in (z : Nat) {as : List Value} {h : mH} {Q : Option Value → mH → Prop} : EvM z as h Q = Ev z (mB z 0) (as ++ List.replicate (mN z - as.length) .null) [] h Q := rfl
theorem rRec_o {I : Nat → Nat → Int32} {n x : Nat} (h : x ≠ 194 ∧ x ≠ 196) : rRec I n x = I x := by
  funext j
  rw [rRec, if_neg (by omega), if_neg (by omega)]
theorem rRec_k {I : Nat → Nat → Int32} {n : Nat} : rRec I n 194 2 = nI (nTu n) := if_pos ⟨rfl, rfl⟩
theorem rRec_4 {I : Nat → Nat → Int32} {n j : Nat} (h : j ≠ 2) : rRec I n 194 j = I 194 j := by
  rw [rRec, if_neg (by omega), if_neg (by omega)]
theorem rRec_h {I : Nat → Nat → Int32} {n : Nat} : rRec I n 196 = vRec (I 196) (I 195) n := by
  funext j
  rw [rRec, if_neg (by omega), if_pos rfl]
theorem s_no {I : Nat → Nat → Int32} {a k b : Nat} {x : Int32} (h : b ≠ a) : mSet I a k x b = I b := by
  funext j; exact if_neg (fun q => h q.1)
theorem s_row {I : Nat → Nat → Int32} {a k : Nat} {x : Int32} : mSet I a k x a = vU (I a) k x := by
  funext j
  simp [mSet, vU]
theorem hRm_w {I : Nat → Nat → Int32} {q n x : Nat} (h : x < 33 + 30 * q ∨ 33 + 30 * q + 30 ≤ x) (h2 : x ≠ 31) : hRm I q n x = I x := by
  funext j; exact hRm_o h h2
/-- cells that nobody looks at between the calls -/
def SC (x j : Nat) : Prop := (185 ≤ x ∧ x ≤ 193) ∨ (x = 194 ∧ 9 ≤ j ∧ j ≤ 13) ∨ x = 198 ∨ x = 199 ∨ x = 201
def SCR (I J : Nat → Nat → Int32) : Prop := ∀ x j, SC x j ∨ J x j = I x j
theorem SCR_id {I : Nat → Nat → Int32} : SCR I I := fun _ _ => Or.inr rfl
theorem SCR_tr {I J L : Nat → Nat → Int32} (h : SCR I J) (h2 : SCR J L) : SCR I L := fun x j => by
  rcases h2 x j with q | q
  · exact Or.inl q
  · rcases h x j with q2 | q2
    · exact Or.inl q2
    · exact Or.inr (q.trans q2)
theorem SCR_row {I J : Nat → Nat → Int32} (h : SCR I J) {x : Nat} (hx : x < 185 ∨ (195 ≤ x ∧ x ≠ 198 ∧ x ≠ 199 ∧ x ≠ 201)) : J x = I x := by
  funext j
  rcases h x j with q | q
  · exfalso; unfold SC at q; omega
  · exact q
theorem SCR_m {I J : Nat → Nat → Int32} (h : SCR I J) {j : Nat} (hj : j < 9 ∨ 13 < j) : J 194 j = I 194 j := by
  rcases h 194 j with q | q
  · exfalso; unfold SC at q; omega
  · exact q
theorem SCR_row' {I : Nat → Nat → Int32} {a : Nat} {v : Nat → Int32} (h : SC a 0) (h2 : a ≠ 194) : SCR I (rSet I a v) := fun x j => by
  by_cases c : x = a
  · left; subst c; unfold SC at h ⊢; omega
  · right; simp [rSet, c]
theorem SCR_set {I : Nat → Nat → Int32} {a k : Nat} {v : Int32} (h : SC a k) : SCR I (mSet I a k v) := fun x j => by
  by_cases c : x = a ∧ j = k
  · obtain ⟨rfl, rfl⟩ := c; exact Or.inl h
  · exact Or.inr (s_ne c)
theorem REL_scr {K : mK} {R : Nat → Nat → Option Nat} {I J : Nat → Nat → Int32} (h : REL K R I) (hs : SCR I J) : REL K R J := by
  obtain ⟨f, n, g, hv, hn2, hn, hk, hH, hP, t, t1, t2, t3, t4⟩ := h
  have z4 := g.2.2.2.1.2.2.2.2.1
  refine ⟨f, n, g, ?_, hn2, ?_, ?_, ?_, ?_, t, t1, ?_, ?_, ?_⟩
  · rw [SCR_row hs (x := 195) (by omega)]; exact RC_out hv (fun x x1 x2 => SCR_row hs (by omega))
  · rw [SCR_row hs (x := 31) (by omega)]; exact hn
  · rw [SCR_m hs (by omega)]; exact hk
  · rw [SCR_row hs (x := 196) (by omega)]
    intro j hj
    have := z4 j (by omega)
    exact RC_out (hH j hj) (fun x x1 x2 => SCR_row hs (by omega))
  · unfold rP
    rw [SCR_row hs (x := 0) (by omega), SCR_m hs (j := 4) (by omega), SCR_row hs (x := 197) (by omega)]
    rcases hP with q | ⟨q1, q2, q3⟩
    · exact Or.inl q
    · exact Or.inr ⟨q1, q2, RC_out q3 (fun x x1 x2 => SCR_row hs (by omega))⟩
  · rw [SCR_row hs (x := 183) (by omega)]; exact t2
  · rw [SCR_m hs (by omega)]; exact t3
  · intro k hk
    rw [SCR_row hs (x := 184) (by omega), SCR_row hs (x := 200) (by omega)]; exact t4 k hk
def OPo (K : mK) (x : Int32) (v' : Option Value) (h'' : mH) : Prop := v' = some (.int x) ∧ ∃ R' I', h'' = (K, R', I') ∧ REL K R' I'
def OP (c r : Nat) (as : List Value) : Prop := ∀ K R I, REL K R I → ∃ v0 R1 I1, EvM c (.ref 0 :: as) (K, R, I) (fun v k => v = some (.int v0) ∧ k = (K, R1, I1)) ∧ ∀ J, SCR I1 J → EvM r (.ref 194 :: as) (K, R1, J) (OPo K v0)
theorem OPo_same {K : mK} {R : Nat → Nat → Option Nat} {I J : Nat → Nat → Int32} {x : Int32} (h : REL K R I) (hs : SCR I J) : OPo K x (some (.int x)) (K, R, J) := ⟨rfl, R, J, rfl, REL_scr h hs⟩
theorem OPo_act {K : mK} {R : Nat → Nat → Option Nat} {I I2 J : Nat → Nat → Int32} {f : Nat → Nat} {n : Nat} {v' : Nat → Int32} {x : Int32} (g : zG K R f) (hv : RC I 1 (I 195)) (hn2 : n ≤ 4) (hH : rH I f n (I 196)) (hP : rP I) (hT : rT I)
    (h2 : ∀ x, 31 ≤ x → x < 185 → I2 x = hRm I (qTu f n) n x) (h20 : I2 0 = I 0) (hu : ∀ x, 194 ≤ x → I2 x = I x) (h2v : RC I2 1 v') (hJ : SCR I2 J) : OPo K x (some (.int x)) (K, RTu R n, rSet (rRec J n) 195 v') := by
  have j5 : J 195 = I 195 := by rw [SCR_row hJ (by omega), hu _ (by omega)]
  have j6 : J 196 = I 196 := by rw [SCR_row hJ (by omega), hu _ (by omega)]
  refine ⟨rfl, _, _, rfl, REL_act g hv hn2 hH hP hT h2 h20 h2v (fun x hx => ?_) rSet_s ?_ ?_ ?_ ?_ ?_ ?_⟩
  · rw [rSet_o (by omega), rRec_o (by omega), SCR_row hJ (by omega)]
  · rw [rSet_o (by omega), rRec_h, j5, j6]
  · rw [rSet_o (by omega), rRec_k]
  · rw [rSet_o (by omega), rRec_4 (by omega), SCR_m hJ (by omega), hu _ (by omega)]
  · rw [rSet_o (by omega), rRec_4 (by omega), SCR_m hJ (by omega), hu _ (by omega)]
  · rw [rSet_o (by omega), rRec_o (by omega), SCR_row hJ (by omega), hu _ (by omega)]
  · rw [rSet_o (by omega), rRec_o (by omega), SCR_row hJ (by omega), hu _ (by omega)]
/-- the log of the state 1 -/
def rL (I : Nat → Nat → Int32) (v : Nat → Int32) : Prop := ∃ n, n ≤ 10 ∧ I 3 3 = nI n ∧ v 595 = nI n ∧ ∀ e, e < n → I 4 e = v (596 + 3 * e) ∧ I 5 e = v (597 + 3 * e) ∧ I 6 e = v (598 + 3 * e)
theorem lAd_o {I : Nat → Nat → Int32} {a n x j : Nat} {kd sp nu : Int32} (h : ¬ (x = a ∧ j = 3) ∧ x ≠ a + 1 ∧ x ≠ a + 2 ∧ x ≠ a + 3) : lAd I a n kd sp nu x j = I x j := by
  obtain ⟨h1, h2, h3, h4⟩ := h
  by_cases e : n = 10 <;> simp (disch := omega) only [lAd, if_pos, if_neg, e, if_true, if_false]
theorem rL_add {I : Nat → Nat → Int32} {v : Nat → Int32} {n : Nat} {kd sp nu : Int32} (hn : n ≤ 10) (h3 : I 3 3 = nI n) (hv : v 595 = nI n) (he : ∀ e, e < n → I 4 e = v (596 + 3 * e) ∧ I 5 e = v (597 + 3 * e) ∧ I 6 e = v (598 + 3 * e)) : rL (lAd I 3 n kd sp nu) (vTl v n kd sp nu) := by
  by_cases e : n = 10
  · subst e
    refine ⟨10, Nat.le_refl _, by simp [lAd], by simp [vTl]; exact hv, fun e he2 => ?_⟩
    by_cases c : e = 9
    · subst c; simp [lAd, vTl]
    · have := he (e + 1) (by omega)
      have c2 : e < 9 := by omega
      simp (disch := omega) only [lAd, vTl, if_pos, if_neg]
      rw [show 596 + 3 * e + 3 = 596 + 3 * (e + 1) by omega, show 597 + 3 * e + 3 = 597 + 3 * (e + 1) by omega, show 598 + 3 * e + 3 = 598 + 3 * (e + 1) by omega]
      exact this
  · refine ⟨n + 1, by omega, ?_, ?_, fun e1 he2 => ?_⟩
    · simp [lAd, e]
    · unfold vTl
      rw [if_neg e, if_neg (by omega), if_neg (by omega), if_neg (by omega), if_pos rfl]
    · by_cases c : e1 = n
      · subst c
        simp (disch := omega) only [lAd, vTl, if_pos, if_neg]
        exact ⟨rfl, rfl, rfl⟩
      · have := he e1 (by omega)
        simp (disch := omega) only [lAd, vTl, if_pos, if_neg]
        exact this
/-- the state 1 with some wires changed -/
theorem RC_upd {I I2 : Nat → Nat → Int32} {v v' : Nat → Int32} (ch : Nat → Prop) (h : RC I 1 v) (hs : ∀ s, s < 6 → ch s → ∃ p cl c, rW I2 (7 + 4 * s) v' s p cl c) (ho : ∀ s, s < 6 → ¬ ch s → (∀ d, d < 4 → I2 (7 + 4 * s + d) = I (7 + 4 * s + d)) ∧ (∀ x, 98 * s ≤ x → x < 98 * s + 98 → v' x = v x)) (hE : rE I2 1 v') : RC I2 1 v' := by
  refine ⟨fun s hs1 => ?_, hE⟩
  rw [show 1 + 6 + 4 * s = 7 + 4 * s by omega]
  by_cases c : ch s
  · exact hs s hs1 c
  · obtain ⟨p, cl, c2, hw⟩ := h.1 s hs1
    rw [show 1 + 6 + 4 * s = 7 + 4 * s by omega] at hw
    exact ⟨p, cl, c2, rW_cong hw (fun d j hd _ _ => by rw [(ho s hs1 c).1 d hd]) (ho s hs1 c).2⟩
theorem rE_mk {I : Nat → Nat → Int32} {v : Nat → Int32} (h1 : I 1 2 = v 588) (h2 : I 1 3 = v 589) (h3 : I 1 4 = v 590) (h4 : I 1 5 = v 591) (h5 : I 1 6 = v 592) (h6 : I 1 7 = v 593) (h7 : I 1 8 = v 594) (h8 : ∃ ru, ru ≤ 2 ∧ v 588 = nI ru) (h9 : ∃ lm, 101 ≤ lm ∧ lm ≤ 200 ∧ v 589 = nI lm) (hL : rL I v) : rE I 1 v := ⟨h1, h2, h3, h4, h5, h6, h7, h8, h9, hL⟩
/-! a spool's number, or none -/
theorem m_isSp {s : Nat} {h : mH} {Q : Option Value → mH → Prop} (hs : s < 6) : EvM 82 [.int (nI s)] h Q ↔ Q (some (.int 1)) h := by
  rw [m_isSpool, if_neg (n_ne0 (by omega)), if_neg (by rw [show (6 : Int32) = nI 6 from rfl, n_le (by omega) (by omega)]; omega)]
theorem m_noSp {x : Int32} {h : mH} {Q : Option Value → mH → Prop} (q : x < 0 ∨ nI 6 ≤ x) : EvM 82 [.int x] h Q ↔ Q (some (.int 0)) h := by
  rw [m_isSpool]
  by_cases c : x < 0
  · rw [if_pos c]
  · have q2 : (6 : Int32) ≤ x := by
      rcases q with q | q
      · exact absurd q c
      · exact q
    rw [if_neg c, if_pos q2]
theorem r_isSp {s : Nat} {h : mH} {Q : Option Value → mH → Prop} (hs : s < 6) : EvM 90 [.int (nI s)] h Q ↔ Q (some (.int 0)) h := by
  rw [r_noSpool, if_neg (n_ne0 (by omega)), if_neg (by rw [show (5 : Int32) = nI 5 from rfl, n_lt (by omega) (by omega)]; omega)]
theorem r_noSp {x : Int32} {h : mH} {Q : Option Value → mH → Prop} (q : x < 0 ∨ nI 6 ≤ x) : EvM 90 [.int x] h Q ↔ Q (some (.int 1)) h := by
  rw [r_noSpool]
  by_cases c : x < 0
  · rw [if_pos c]
  · have q2 : (5 : Int32) < x := by
      rcases q with q | q
      · exact absurd q c
      · rw [Int32.lt_iff_toInt_lt]
        rw [Int32.le_iff_toInt_le, nI_toInt (by omega)] at q
        show (5 : Int) < _
        omega
    rw [if_neg c, if_pos q2]
