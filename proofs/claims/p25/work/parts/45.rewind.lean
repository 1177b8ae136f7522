/-! rewind: the relation behind each turn -/
def rLn (I : Nat → Nat → Int32) (v : Nat → Int32) (n : Nat) : Prop := n ≤ 10 ∧ I 3 3 = nI n ∧ v 595 = nI n ∧ ∀ e, e < n → I 4 e = v (596 + 3 * e) ∧ I 5 e = v (597 + 3 * e) ∧ I 6 e = v (598 + 3 * e)
theorem rLn_add {I : Nat → Nat → Int32} {v : Nat → Int32} {n : Nat} {kd sp nu : Int32} (h : rLn I v n) : rLn (lAd I 3 n kd sp nu) (vTl v n kd sp nu) (lnx n) := by
  obtain ⟨h1, h2, h3, h4⟩ := h
  obtain ⟨m, m1, m2, m3, m4⟩ := rL_add (kd := kd) (sp := sp) (nu := nu) h1 h2 h3 h4
  rw [lAd_n h1, n_eq (by have := lnx_le h1; omega) (by omega)] at m2
  rw [m2]
  exact ⟨m1, by rw [lAd_n h1, m2], m3, m4⟩
theorem kLet_v {c f : Nat} : (if c < f then c else if f = 0 then 0 else f - 1) = kLet c f := by
  unfold kLet
  by_cases e : f = 0
  · subst e; simp
  · rw [if_neg e, if_neg e]
    by_cases e2 : c < f
    · rw [if_pos e2]; split <;> omega
    · rw [if_neg e2, if_neg (by omega)]
theorem kLet_lost {c cl f : Nat} (hcl : cl ≤ 1) (hf : f < c + 1 + cl) : (if f = c + cl ∧ cl = 1 then (0 : Int32) else nI (c - (if f = 0 then 0 else f - 1))) = nI (c - kLet c f) := by
  unfold kLet
  by_cases e : f = c + cl ∧ cl = 1
  · rw [if_pos e, if_neg (by omega)]
    split
    · rw [show c - c = 0 by omega]; rfl
    · rw [show c - (f - 1) = 0 by omega]; rfl
  · rw [if_neg e]
    by_cases e2 : f = 0
    · rw [if_pos e2, if_pos e2]
    · rw [if_neg e2, if_neg e2]
      split
      · omega
      · rfl
set_option maxHeartbeats 8000000 in
theorem W1_rel {I : Nat → Nat → Int32} {v : Nat → Int32} {s u cl c ln : Nat} (hv : RC I 1 v) (hs : s < 6) (hu : u ≤ 9) (hw : rW I (7 + 4 * s) v s 1 cl c) (hl : rLn I v ln) (hf : fB (vBd v s (nI u) (c + 1 + cl)) (c + 1 + cl) (c + 1 + cl) = c + 1 + cl) :
    RC (cW1 I s u (c + 1 + cl) ln) 1 (vR1 v s (nI u) (c + 1 + cl) ln) := by
  obtain ⟨e2, e3, e4, e5, e6, e7, e8, ⟨ru, ru1, ru2⟩, ⟨lm, lm0, lm1, lm2⟩, -⟩ := id hv.2
  obtain ⟨⟨f1, f2, f3, f4, f5, f6⟩, ⟨w1, w2, w3, -⟩, k0, k1, k2, k3, k4, k5⟩ := id hw
  unfold cW1 vR1
  rw [e2, ru2]
  refine RC_upd (fun z => z = s) hv (fun z _ hz => ?_) (fun z hz1 hz2 => ⟨fun d hd => ?_, fun x x1 x2 => ?_⟩) ?_
  · subst hz
    refine ⟨1, cl, c, rW_str (ru := ru) (lm := lm) (u := u) hw ru2 ru1 lm2 lm1 hu (by omega) (Nat.le_refl _) f5 (fun q => ⟨q, rfl⟩) ?_ ?_ ?_ ?_ ?_ ?_ ?_ ?_ (fun k hk => ?_) (fun k hk => ?_) (fun k hk => ?_) (fun k hk => ?_) (fun k hk => ?_) (fun i hi => ?_)⟩
    · simp (disch := omega) only [lAd_o, s_ne, wSt_o]; exact f1
    · simp (disch := omega) only [lAd_o, s_ne, wSt_o]; exact f2
    · simp (disch := omega) only [lAd_o, s_ne, wSt_o]; exact f3
    · simp (disch := omega) only [lAd_o, s_ne, s_eq, wSt_o]
    · simp (disch := omega) only [vTl_o, u_ne, vSt_o]; exact w1
    · simp (disch := omega) only [vTl_o, u_ne, vSt_o]; exact w2
    · simp (disch := omega) only [vTl_o, u_ne, vSt_o]; exact w3
    · simp (disch := omega) only [vTl_o, u_ne, u_eq, vSt_o]
    · simp (disch := omega) only [lAd_o, s_ne]; exact if_pos ⟨rfl, hk⟩
    · simp (disch := omega) only [lAd_o, s_ne, wSt_o]
    · simp (disch := omega) only [lAd_o, s_ne, wSt_o]
    · simp (disch := omega) only [vTl_o, u_ne]
      rw [vSt, if_pos (by omega), show 98 * z + (4 + k) - (98 * z + 4) = k by omega]
    · simp (disch := omega) only [vTl_o, u_ne, vSt_o]
    · simp (disch := omega) only [vTl_o, u_ne, vSt_o]
  · funext j; simp (disch := omega) only [lAd_o, s_ne, wSt_o]
  · simp (disch := omega) only [vTl_o, u_ne, vSt_o]
  · obtain ⟨l1, l2, l3, l4⟩ := hl
    refine rE_mk ?_ ?_ ?_ ?_ ?_ ?_ ?_ ?_ ?_ (rL_add l1 ?_ ?_ (fun e he => ?_)) <;> simp (disch := omega) only [lAd_o, s_ne, s_eq, wSt_o, vTl_o, u_ne, u_eq, vSt_o, e2, e3, e4, e5, e6, e7, e8]
    · exact ⟨ru, ru1, ru2⟩
    · exact ⟨lm, lm0, lm1, lm2⟩
    · exact l2
    · exact l3
    · exact l4 e he
set_option maxHeartbeats 8000000 in
theorem W2_rel {I : Nat → Nat → Int32} {v : Nat → Int32} {s u cl c ln f : Nat} (hv : RC I 1 v) (hs : s < 6) (hu : u ≤ 9) (hw : rW I (7 + 4 * s) v s 1 cl c) (hl : rLn I v ln) (hf : fB (vBd v s (nI u) (c + 1 + cl)) (c + 1 + cl) (c + 1 + cl) = f) (hfl : f < c + 1 + cl) :
    RC (cW2 (cW1 I s u (c + 1 + cl) ln) s c (c + 1 + cl) f (lnx ln)) 1 (vR2 (vR1 v s (nI u) (c + 1 + cl) ln) s c cl f (lnx ln)) := by
  obtain ⟨e2, e3, e4, e5, e6, e7, e8, ⟨ru, ru1, ru2⟩, ⟨lm, lm0, lm1, lm2⟩, -⟩ := id hv.2
  obtain ⟨⟨f1, f2, f3, f4, f5, f6⟩, ⟨w1, w2, w3, -⟩, k0, k1, k2, k3, k4, k5⟩ := id hw
  have kl := kLet_le c f
  -- the first event
  have hl1 : rLn (cW1 I s u (c + 1 + cl) ln) (vR1 v s (nI u) (c + 1 + cl) ln) (lnx ln) := by
    obtain ⟨l1, l2, l3, l4⟩ := hl
    unfold cW1 vR1
    refine rLn_add ⟨l1, ?_, ?_, fun e he => ?_⟩ <;> simp (disch := omega) only [s_ne, wSt_o, u_ne, vSt_o]
    · exact l2
    · exact l3
    · exact l4 e he
  have x1 : ∀ y j, y ≠ 1 → ¬ (3 ≤ y ∧ y ≤ 6) → y ≠ 7 + 4 * s + 1 → y ≠ 7 + 4 * s → cW1 I s u (c + 1 + cl) ln y j = I y j := by
    intro y j h1 h2 h3 h4
    unfold cW1; simp (disch := omega) only [lAd_o, s_ne, wSt_o]
  have xw : ∀ j, j ≠ 6 → cW1 I s u (c + 1 + cl) ln (7 + 4 * s) j = I (7 + 4 * s) j := by
    intro j hj
    unfold cW1; simp (disch := omega) only [lAd_o, s_ne, wSt_o]
  have xw6 : cW1 I s u (c + 1 + cl) ln (7 + 4 * s) 6 = I (7 + 4 * s) 6 + 1 := by
    unfold cW1; simp (disch := omega) only [lAd_o, s_ne, s_eq, wSt_o]
  have xl : ∀ k, k < c + 1 + cl → cW1 I s u (c + 1 + cl) ln (7 + 4 * s + 1) k = wLn I (7 + 4 * s) (nI ru) (nI u) (c + 1 + cl) k := by
    intro k hk
    unfold cW1; simp (disch := omega) only [lAd_o, s_ne]
    rw [e2, ru2]
    exact if_pos ⟨rfl, hk⟩
  have y1 : ∀ x, x < 588 → ¬ (98 * s + 4 ≤ x ∧ x < 98 * s + 4 + (c + 1 + cl)) → x ≠ 98 * s + 3 → vR1 v s (nI u) (c + 1 + cl) ln x = v x := by
    intro x h1 h2 h3
    unfold vR1; simp (disch := omega) only [vTl_o, u_ne, vSt_o]
  have y6 : vR1 v s (nI u) (c + 1 + cl) ln (98 * s + 3) = v (98 * s + 3) + 1 := by
    unfold vR1; simp (disch := omega) only [vTl_o, u_ne, u_eq]
  have yl : ∀ k, k < c + 1 + cl → vR1 v s (nI u) (c + 1 + cl) ln (98 * s + (4 + k)) = vLn v s (nI u) (c + 1 + cl) k := by
    intro k hk
    unfold vR1; simp (disch := omega) only [vTl_o, u_ne]
    rw [vSt, if_pos (by omega), show 98 * s + (4 + k) - (98 * s + 4) = k by omega]
  have z : ∀ j, (j = 2 ∨ j = 3 ∨ j = 5 ∨ j = 7 ∨ j = 8) → cW1 I s u (c + 1 + cl) ln 1 j = I 1 j := by
    intro j hj
    unfold cW1; simp (disch := omega) only [lAd_o, s_ne, wSt_o]
  have zv : ∀ x, (x = 588 ∨ x = 589 ∨ x = 591 ∨ x = 593 ∨ x = 594) → vR1 v s (nI u) (c + 1 + cl) ln x = v x := by
    intro x hx
    unfold vR1; simp (disch := omega) only [vTl_o, u_ne, vSt_o]
  have z46 : cW1 I s u (c + 1 + cl) ln 1 4 = vR1 v s (nI u) (c + 1 + cl) ln 590 ∧ cW1 I s u (c + 1 + cl) ln 1 6 = vR1 v s (nI u) (c + 1 + cl) ln 592 := by
    unfold cW1 vR1
    constructor <;> simp (disch := omega) only [lAd_o, s_ne, s_eq, wSt_o, vTl_o, u_ne, u_eq, vSt_o, e4, e6]
  generalize cW1 I s u (c + 1 + cl) ln = X at hl1 x1 xw xw6 xl z z46 ⊢
  generalize vR1 v s (nI u) (c + 1 + cl) ln = w at hl1 y1 y6 yl zv z46 ⊢
  unfold cW2 vR2
  rw [kLet_v, kLet_lost f5 hfl]
  refine RC_upd (fun z => z = s) hv (fun z _ hz => ?_) (fun y hz1 hz2 => ⟨fun d hd => ?_, fun x x1 x2 => ?_⟩) ?_
  · subst hz
    by_cases e : f = 0
    · subst e
      refine ⟨0, 0, 0, rW_empty ?_ ?_ ?_ ?_ ?_ ?_⟩ <;> simp (disch := omega) only [lAd_o, s_ne, s_eq, vTl_o, u_ne, u_eq, cBr, kLet, if_pos, if_true]
      rfl
    · have hk2 : kLet c f + 1 ≤ f := by unfold kLet; split <;> (try split) <;> omega
      refine ⟨1, 0, kLet c f, rW_str (ru := ru) (lm := lm) (u := u) hw ru2 ru1 lm2 lm1 hu (by omega) kl (by omega) (fun q => absurd q (by omega)) ?_ ?_ ?_ ?_ ?_ ?_ ?_ ?_ (fun k hk => ?_) (fun k hk => ?_) (fun k hk => ?_) (fun k hk => ?_) (fun k hk => ?_) (fun i hi => ?_)⟩
      · simp (disch := omega) only [lAd_o, s_ne, cBr, if_neg, xw]; exact f1
      · simp (disch := omega) only [lAd_o, s_ne, cBr_4]; rfl
      · simp (disch := omega) only [lAd_o, s_ne, cBr_5]
      · simp (disch := omega) only [lAd_o, s_ne, cBr, if_neg, xw6]
      · simp (disch := omega) only [vTl_o, u_ne, u_eq, if_neg]
      · simp (disch := omega) only [vTl_o, u_ne, u_eq]; rfl
      · simp (disch := omega) only [vTl_o, u_ne, u_eq]
      · simp (disch := omega) only [vTl_o, u_ne, y6]
      · simp (disch := omega) only [lAd_o, s_ne, cBr_o, xl]
      · simp (disch := omega) only [lAd_o, s_ne, cBr_o, x1]
      · simp (disch := omega) only [lAd_o, s_ne, cBr_o, x1]
      · simp (disch := omega) only [vTl_o, u_ne, yl]
      · simp (disch := omega) only [vTl_o, u_ne, y1]
      · simp (disch := omega) only [vTl_o, u_ne, y1]
  · funext j; simp (disch := omega) only [lAd_o, s_ne, cBr_o, x1]
  · simp (disch := omega) only [vTl_o, u_ne, y1]
  · obtain ⟨l1, l2, l3, l4⟩ := hl1
    obtain ⟨z4, z6⟩ := z46
    have q := rL_add (I := mSet (mSet (cBr X (7 + 4 * s) c f) 1 7 (X 1 7 + 1)) 1 8 (X 1 8 + nI (c - kLet c f))) (v := vU (vU w 593 (w 593 + 1)) 594 (w 594 + nI (c - kLet c f))) (n := lnx ln) (kd := 2) (sp := nI s) (nu := nI (c + 1 + cl - f)) l1
      (by simp (disch := omega) only [s_ne, cBr_o]; exact l2) (by simp (disch := omega) only [u_ne]; exact l3) (fun e he => by simp (disch := omega) only [s_ne, cBr_o, u_ne]; exact l4 e he)
    obtain ⟨m, q1, q2, q3, q4⟩ := q
    refine rE_mk ?_ ?_ ?_ ?_ ?_ ?_ ?_ ?_ ?_ ⟨m, q1, q2, ?_, fun e he => ?_⟩
    · simp (disch := omega) only [lAd_o, s_ne, s_eq, cBr_o, vTl_o, u_ne, u_eq, z, zv, z4, z6, e2, e3, e5, e7, e8]
    · simp (disch := omega) only [lAd_o, s_ne, s_eq, cBr_o, vTl_o, u_ne, u_eq, z, zv, z4, z6, e2, e3, e5, e7, e8]
    · simp (disch := omega) only [lAd_o, s_ne, s_eq, cBr_o, vTl_o, u_ne, u_eq, z, zv, z4, z6, e2, e3, e5, e7, e8]
    · simp (disch := omega) only [lAd_o, s_ne, s_eq, cBr_o, vTl_o, u_ne, u_eq, z, zv, z4, z6, e2, e3, e5, e7, e8]
    · simp (disch := omega) only [lAd_o, s_ne, s_eq, cBr_o, vTl_o, u_ne, u_eq, z, zv, z4, z6, e2, e3, e5, e7, e8]
    · simp (disch := omega) only [lAd_o, s_ne, s_eq, cBr_o, vTl_o, u_ne, u_eq, z, zv, z4, z6, e2, e3, e5, e7, e8]
    · simp (disch := omega) only [lAd_o, s_ne, s_eq, cBr_o, vTl_o, u_ne, u_eq, z, zv, z4, z6, e2, e3, e5, e7, e8]
    · simp (disch := omega) only [vTl_o, u_ne, zv]; exact ⟨ru, ru1, ru2⟩
    · simp (disch := omega) only [vTl_o, u_ne, zv]; exact ⟨lm, lm0, lm1, lm2⟩
    · simp (disch := omega) only [u_ne]; exact q3
    · simp (disch := omega) only [u_ne]; exact q4 e he
