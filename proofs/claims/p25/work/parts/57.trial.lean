/-! THE TRIAL WIRE: one rewind more -/
/-- what reading needs of a wire and its row -/
def rV (I : Nat → Nat → Int32) (a : Nat) (v : Nat → Int32) (s cl c : Nat) : Prop := (∀ k, k < c + 1 + cl → I (a + 1) k = v (98 * s + (4 + k)) ∧ okL (v (98 * s + (4 + k)))) ∧ (∀ i, i < c → I (a + 3) (i + 1) = v (98 * s + (68 + i)) ∧ ∃ t, t < 8 ∧ v (98 * s + (68 + i)) = nI t)
theorem rV_rd {I : Nat → Nat → Int32} {a s cl c r : Nat} {v : Nat → Int32} {way : Int32} (h : rV I a v s cl c) (hw : way = 2 → cl = 1) (f6 : c ≤ 30) :
    (∀ i, i < c → ∃ x, rdA I a c way i = nI x ∧ 0 < x ∧ x < 1000000) ∧ (∀ i, i < c → ∃ x, rdA (vL v s) 0 c way i = nI x ∧ 0 < x ∧ x < 1000000) ∧ (∀ i, i < c → rdS I r a c way (r + 1) i = nbR v s c way i) ∧ rdS I r a c way r 1 = nI (cnt (pMi (nbR v s c way) (trR v s)) c) ∧ rdS I r a c way r 2 = nI (cnt (pUn (nbR v s c way) (trR v s)) c) := by
  obtain ⟨k3, k4⟩ := h
  have e : ∀ i, i < c → rdN I a c way i = nbR v s c way i := fun i hi => ((rd_cg (I := I) (I' := vL v s) (w := a) (w' := 0) (cl := cl) (fun j hj => (k3 j hj).1) hw i (by omega)).2 hi).2
  have et : ∀ i, i < c → I (a + 3) (i + 1) = trR v s i := fun i hi => (k4 i hi).1
  have q1 : cnt (pMi (rdN I a c way) (fun i => I (a + 3) (i + 1))) c = cnt (pMi (nbR v s c way) (trR v s)) c := cnt_cg c (fun i hi => by simp only [pMi, e i hi, et i hi])
  have q2 : cnt (pUn (rdN I a c way) (fun i => I (a + 3) (i + 1))) c = cnt (pUn (nbR v s c way) (trR v s)) c := cnt_cg c (fun i hi => by simp only [pUn, e i hi, et i hi])
  refine ⟨fun i hi => ?_, fun i hi => ?_, fun i hi => ?_, ?_, ?_⟩
  · obtain ⟨x, x1, x2, x3⟩ := (rd_rng (I := I) (w := a) (way := way) (fun j hj => by rw [(k3 j hj).1]; exact (k3 j hj).2) hw f6 i (by omega)).2 hi
    exact ⟨x, x1, by omega, by omega⟩
  · obtain ⟨x, x1, x2, x3⟩ := (rd_rng (I := vL v s) (w := 0) (way := way) (fun j hj => (k3 j hj).2) hw f6 i (by omega)).2 hi
    exact ⟨x, x1, by omega, by omega⟩
  · rw [← e i hi]
    show rSt I r (rdN I a c way) (fun i => I (a + 3) (i + 1)) c c (r + 1) i = _
    rw [rSt, if_pos ⟨rfl, hi⟩]
  · rw [← q1]
    show rSt I r (rdN I a c way) (fun i => I (a + 3) (i + 1)) c c r 1 = _
    rw [rSt, if_neg (by omega), if_pos ⟨rfl, rfl⟩]
  · rw [← q2]
    show rSt I r (rdN I a c way) (fun i => I (a + 3) (i + 1)) c c r 2 = _
    rw [rSt, if_neg (by omega), if_neg (by omega), if_pos ⟨rfl, rfl⟩]
/-- what is left in the trial wire, as far as it is read -/
def rFin (X : Nat → Nat → Int32) (v : Nat → Int32) (s c : Nat) : Prop := ∃ p cl, p ≤ 1 ∧ cl ≤ 1 ∧ X 190 4 = nI cl ∧ X 190 5 = nI c ∧ c ≤ 30 ∧ vF v s p cl c ∧ (0 < c → rV X 190 v s cl c)
theorem rFin_c {K : mK} {R : Nat → Nat → Option Nat} {X : Nat → Nat → Int32} {v : Nat → Int32} {s c : Nat} {way : Int32} {Q : Option Value → mH → Prop} (h : rFin X v s c) (hw : way ≠ 2) (gr : zR K R 188) (gw : zW K R 190) :
    (EvM 18 [.ref 188, .ref 190, .int way] (K, R, X) Q ↔ Q none (K, R, rdS X 188 190 c way)) ∧ (∀ i, i < c → rdS X 188 190 c way 189 i = nbR v s c way i) ∧ rdS X 188 190 c way 188 1 = nI (cnt (pMi (nbR v s c way) (trR v s)) c) ∧ rdS X 188 190 c way 188 2 = nI (cnt (pUn (nbR v s c way) (trR v s)) c) := by
  obtain ⟨p, cl, p1, cl1, x4, x5, c1, hf, hV⟩ := h
  rcases Nat.eq_zero_or_pos c with e | e
  · subst e
    have c0 : ∀ P : Nat → Bool, cnt P 0 = 0 := fun _ => rfl
    refine ⟨m_readAll gr gw (by omega) x4 x5 c1 (fun q => absurd q hw) (fun i hi => absurd hi (by omega)) (Or.inr hw), fun i hi => absurd hi (by omega), ?_, ?_⟩
    · unfold rdS
      rw [rSt, if_neg (by omega), if_pos ⟨rfl, rfl⟩, c0, c0]
    · unfold rdS
      rw [rSt, if_neg (by omega), if_neg (by omega), if_pos ⟨rfl, rfl⟩, c0, c0]
  · obtain ⟨y1, y2, y3, y4, y5⟩ := rV_rd (r := 188) (way := way) (hV e) (fun q => absurd q hw) c1
    exact ⟨m_readAll gr gw (by omega) x4 x5 c1 (fun q => absurd q hw) y1 (Or.inr hw), y3, y4, y5⟩
/-- the trial wire is the row's, but for how often it was rewound -/
def rWt (X : Nat → Nat → Int32) (v : Nat → Int32) (s cl c : Nat) : Prop := ∃ I0, rW I0 190 v s 1 cl c ∧ ∀ x j, ¬ (x = 190 ∧ j = 6) → X x j = I0 x j
def tI (X : Nat → Nat → Int32) (v : Nat → Int32) (s cl c ru lm : Nat) : Prop := rWt X v s cl c ∧ v 588 = nI ru ∧ v 589 = nI lm ∧ ∃ ln, ln ≤ 10 ∧ v 595 = nI ln
theorem tI_fin {X : Nat → Nat → Int32} {v : Nat → Int32} {s cl c ru lm : Nat} (h : tI X v s cl c ru lm) : rFin X v s c := by
  obtain ⟨⟨I0, hw, hX⟩, -⟩ := h
  obtain ⟨⟨f1, f2, f3, f4, f5, f6⟩, hf, -, -, -, k3, k4, -⟩ := hw
  refine ⟨1, cl, by omega, f5, by rw [hX _ _ (by omega)]; exact f2, by rw [hX _ _ (by omega)]; exact f3, f6, hf, fun _ => ⟨fun k hk => ⟨?_, okL_G (k3 k hk).2.2⟩, fun i hi => ⟨?_, (k4 i hi).2⟩⟩⟩
  · rw [hX _ _ (by omega)]; exact (k3 k hk).1
  · rw [hX _ _ (by omega)]; exact (k4 i hi).1
/-- whether a rewind doesn't break the wire; the row behind one -/
def gOk (v : Nat → Int32) (s u : Nat) : Prop := fB (vBd v s (nI u) (gn v s)) (gn v s) (gn v s) = gn v s
def gR1 (v : Nat → Int32) (s u : Nat) : Nat → Int32 := vR1 v s (nI u) (gn v s) (gln v)
def gR2 (v : Nat → Int32) (s u : Nat) : Nat → Int32 := vR2 (gR1 v s u) s (gc v s) (gl v s) (fB (vBd v s (nI u) (gn v s)) (gn v s) (gn v s)) (lnx (gln v))
set_option maxHeartbeats 8000000 in
theorem tr_turn {K : mK} {R : Nat → Nat → Option Nat} {X : Nat → Nat → Int32} {v : Nat → Int32} {s cl c ru lm u : Nat} (gw : zW K R 190) (hs : s < 6) (hru : ru ≤ 2) (hlm : lm ≤ 200) (hu : u ≤ 9) (h : tI X v s cl c ru lm) :
    ∃ X', (∀ x, x ≠ 190 ∧ x ≠ 191 → X' x = X x) ∧
      ((gOk v s u ∧ (∀ Q, EvM 51 [.ref 190, .int (nI ru), .int (nI lm), .int (nI u)] (K, R, X) Q ↔ Q (some (.int (-1))) (K, R, X')) ∧ tI X' (gR1 v s u) s cl c ru lm)
      ∨ (¬ gOk v s u ∧ ∃ f Y c', f < 32 ∧ (∀ x, x ≠ 190 ∧ x ≠ 191 → Y x = X x) ∧ (∀ Q, EvM 51 [.ref 190, .int (nI ru), .int (nI lm), .int (nI u)] (K, R, X) Q ↔ Q (some (.int (nI f))) (K, R, Y)) ∧ (∀ Q, EvM 52 [.ref 190, .int (nI f)] (K, R, Y) Q ↔ Q none (K, R, X')) ∧ c' ≤ c ∧ rFin X' (gR2 v s u) s c')) := by
  obtain ⟨⟨I0, hw, hX⟩, r1, r2, ln, l1, l2⟩ := h
  obtain ⟨gg1, gg3, gg2, -⟩ := rW_gn hw
  have gl1 : gln v = ln := by unfold gln; rw [l2]; exact n_cl (by omega)
  obtain ⟨⟨f1, f2, f3, f4, f5, f6⟩, ⟨w1, w2, w3, -⟩, k0, k1, k2, k3, k4, k5⟩ := id hw
  unfold gR2 gR1 gOk
  rw [gg1, gg2, gg3, gl1]
  have wfX : wF X 190 1 cl c := ⟨by rw [hX _ _ (by omega)]; exact f1, by rw [hX _ _ (by omega)]; exact f2, by rw [hX _ _ (by omega)]; exact f3, f4, f5, f6⟩
  obtain ⟨x1, x2⟩ := str_eq (lm := lm) (u := u) hw r1 r2
  have eL : ∀ k, wLn X 190 (nI ru) (nI u) (c + 1 + cl) k = wLn I0 190 (nI ru) (nI u) (c + 1 + cl) k := by
    intro k
    unfold wLn
    rw [hX _ _ (by omega)]
  have x2' : fB (wBd X 190 (nI ru) (nI lm) (nI u) (c + 1 + cl)) (c + 1 + cl) (c + 1 + cl) = fB (vBd v s (nI u) (c + 1 + cl)) (c + 1 + cl) (c + 1 + cl) := by
    rw [← x2]
    refine fB_cg _ (Nat.le_refl _) (fun k hk => ?_)
    unfold wBd
    rw [eL, hX (190 + 2) _ (by omega)]
  have fle := (fB_le (vBd v s (nI u) (c + 1 + cl)) (c + 1 + cl) (c + 1 + cl) (Nat.le_refl _)).1
  have hst := fun (Q : Option Value → mH → Prop) => @m_stretch K R X 190 1 cl c (nI ru) (nI lm) (nI u) Q gw wfX
  rw [show ngp 1 cl c = c + 1 + cl from rfl] at hst
  simp only [x2'] at hst
  have y1 : ∀ x, x < 590 → ¬ (98 * s + 4 ≤ x ∧ x < 98 * s + 4 + (c + 1 + cl)) → x ≠ 98 * s + 3 → vR1 v s (nI u) (c + 1 + cl) ln x = v x := by
    intro x h1 h2 h3
    unfold vR1; simp (disch := omega) only [vTl_o, u_ne, vSt_o]
  have y6 : vR1 v s (nI u) (c + 1 + cl) ln (98 * s + 3) = v (98 * s + 3) + 1 := by
    unfold vR1; simp (disch := omega) only [vTl_o, u_ne, u_eq]
  have yl : ∀ k, k < c + 1 + cl → vR1 v s (nI u) (c + 1 + cl) ln (98 * s + (4 + k)) = vLn v s (nI u) (c + 1 + cl) k := by
    intro k hk
    unfold vR1; simp (disch := omega) only [vTl_o, u_ne]
    rw [vSt, if_pos (by omega), show 98 * s + (4 + k) - (98 * s + 4) = k by omega]
  have y5 : vR1 v s (nI u) (c + 1 + cl) ln 595 = nI (lnx ln) := by
    unfold vR1
    refine vTl_n ?_ l1
    simp (disch := omega) only [u_ne, vSt_o]; exact l2
  have hX2 : ∀ x j, ¬ (x = 190 ∧ j = 6) → ¬ (x = 191 ∧ j < c + 1 + cl) → wSt X 190 (nI ru) (nI u) (c + 1 + cl) (c + 1 + cl) x j = I0 x j := fun x j h1 h2 => by rw [wSt, if_neg (by omega), hX x j h1]
  have hXl : ∀ k, k < c + 1 + cl → wSt X 190 (nI ru) (nI u) (c + 1 + cl) (c + 1 + cl) (190 + 1) k = wLn I0 190 (nI ru) (nI u) (c + 1 + cl) k := fun k hk => by rw [wSt, if_pos ⟨rfl, hk⟩, eL]
  have hXf : ∀ x, x ≠ 190 ∧ x ≠ 191 → wSt X 190 (nI ru) (nI u) (c + 1 + cl) (c + 1 + cl) x = X x := fun x hx => by funext j; rw [wSt_o (by omega)]
  generalize vR1 v s (nI u) (c + 1 + cl) ln = w at y1 y6 yl y5 ⊢
  generalize wSt X 190 (nI ru) (nI u) (c + 1 + cl) (c + 1 + cl) = Y at hst hX2 hXl hXf
  by_cases e : fB (vBd v s (nI u) (c + 1 + cl)) (c + 1 + cl) (c + 1 + cl) = c + 1 + cl
  · refine ⟨Y, hXf, Or.inl ⟨e, fun Q => ?_, ⟨⟨mSet Y 190 6 (I0 190 6 + 1), ?_, fun x j h => (s_ne h).symm⟩, by rw [y1 _ (by omega) (by omega) (by omega)]; exact r1, by rw [y1 _ (by omega) (by omega) (by omega)]; exact r2, lnx ln, lnx_le l1, y5⟩⟩⟩
    · rw [hst, if_pos e]
    · refine rW_str (ru := ru) (lm := lm) (u := u) hw r1 hru r2 hlm hu (by omega) (Nat.le_refl _) f5 (fun q => ⟨q, rfl⟩) ?_ ?_ ?_ ?_ ?_ ?_ ?_ ?_ (fun k hk => ?_) (fun k hk => ?_) (fun k hk => ?_) (fun k hk => ?_) (fun k hk => ?_) (fun i hi => ?_)
      · rw [s_ne (by omega), hX2 _ _ (by omega) (by omega)]; exact f1
      · rw [s_ne (by omega), hX2 _ _ (by omega) (by omega)]; exact f2
      · rw [s_ne (by omega), hX2 _ _ (by omega) (by omega)]; exact f3
      · exact s_eq
      · rw [y1 _ (by omega) (by omega) (by omega)]; exact w1
      · rw [y1 _ (by omega) (by omega) (by omega)]; exact w2
      · rw [y1 _ (by omega) (by omega) (by omega)]; exact w3
      · exact y6
      · rw [s_ne (by omega)]; exact hXl k hk
      · rw [s_ne (by omega), hX2 _ _ (by omega) (by omega)]
      · rw [s_ne (by omega), hX2 _ _ (by omega) (by omega)]
      · exact yl k hk
      · exact y1 _ (by omega) (by omega) (by omega)
      · exact y1 _ (by omega) (by omega) (by omega)
  · generalize hfi : fB (vBd v s (nI u) (c + 1 + cl)) (c + 1 + cl) (c + 1 + cl) = f at hst e fle ⊢
    have kl := kLet_le c f
    have hlx := lnx_le l1
    have hV2 : vR2 w s c cl f (lnx ln) = vU (vU (vU (vTl (vU (vU w 593 (w 593 + 1)) 594 (w 594 + nI (c - kLet c f))) (lnx ln) 2 (nI s) (nI (c + 1 + cl - f))) (98 * s) (if f = 0 then 0 else 1)) (98 * s + 1) 0) (98 * s + 2) (nI (kLet c f)) := by
      unfold vR2
      rw [kLet_v, kLet_lost f5 (by omega)]
    refine ⟨cBr Y 190 c f, fun x hx => ?_, Or.inr ⟨e, f, Y, kLet c f, by omega, hXf, fun Q => ?_, fun Q => ?_, kl, ?_⟩⟩
    · rw [← hXf x hx]; funext j; rw [cBr_o (Or.inl hx.1)]
    · rw [hst, if_neg e]
    · rw [m_breakAt gw (c := c) (by rw [hX2 _ _ (by omega) (by omega)]; exact f3) f6 (by omega)]
      unfold cBr kLet
      by_cases e0 : f = 0
      · rw [if_pos e0, if_pos e0]
      · rw [if_neg e0, if_neg e0, if_neg e0]
    · rw [hV2]
      refine ⟨if f = 0 then 0 else 1, 0, by split <;> omega, by omega, cBr_4, cBr_5, by omega, ⟨?_, ?_, ?_, by split <;> omega, by omega, by omega⟩, fun hc => ?_⟩
      · simp (disch := omega) only [u_ne, u_eq]
        split <;> rfl
      · simp (disch := omega) only [u_ne, u_eq]; rfl
      · simp (disch := omega) only [u_eq]
      · have e0 : ¬ f = 0 := by
          intro e0
          subst e0
          unfold kLet at hc
          simp at hc
        have hk2 : kLet c f + 1 ≤ f := by unfold kLet; split <;> (try split) <;> omega
        have hw2 : rW (mSet (cBr Y 190 c f) 190 6 (I0 190 6 + 1)) 190 (vU (vU (vU (vTl (vU (vU w 593 (w 593 + 1)) 594 (w 594 + nI (c - kLet c f))) (lnx ln) 2 (nI s) (nI (c + 1 + cl - f))) (98 * s) (if f = 0 then 0 else 1)) (98 * s + 1) 0) (98 * s + 2) (nI (kLet c f))) s 1 0 (kLet c f) := by
          refine rW_str (ru := ru) (lm := lm) (u := u) hw r1 hru r2 hlm hu (by omega) kl (by omega) (fun q => absurd q (by omega)) ?_ ?_ ?_ ?_ ?_ ?_ ?_ ?_ (fun k hk => ?_) (fun k hk => ?_) (fun k hk => ?_) (fun k hk => ?_) (fun k hk => ?_) (fun i hi => ?_)
          · simp (disch := omega) only [s_ne, cBr, if_neg, hX2]; exact f1
          · simp (disch := omega) only [s_ne, cBr_4]; rfl
          · simp (disch := omega) only [s_ne, cBr_5]
          · exact s_eq
          · simp (disch := omega) only [u_ne, u_eq, if_neg]
          · simp (disch := omega) only [u_ne, u_eq]; rfl
          · simp (disch := omega) only [u_eq]
          · simp (disch := omega) only [vTl_o, u_ne, y6]
          · rw [s_ne (by omega), cBr_o (by omega)]; exact hXl k (by omega)
          · rw [s_ne (by omega), cBr_o (by omega), hX2 _ _ (by omega) (by omega)]
          · rw [s_ne (by omega), cBr_o (by omega), hX2 _ _ (by omega) (by omega)]
          · simp (disch := omega) only [vTl_o, u_ne, yl]
          · simp (disch := omega) only [vTl_o, u_ne, y1]
          · simp (disch := omega) only [vTl_o, u_ne, y1]
        obtain ⟨-, -, -, -, -, q3, q4, -⟩ := hw2
        refine ⟨fun k hk => ⟨?_, okL_G (q3 k hk).2.2⟩, fun i hi => ⟨?_, (q4 i hi).2⟩⟩
        · rw [← (q3 k hk).1, s_ne (by omega)]
        · rw [← (q4 i hi).1, s_ne (by omega)]
