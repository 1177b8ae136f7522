/-! THE GHOST MACHINE: the law's own methods over the ghost; a call of the class is one step -/
def gA (G : gS) (v' : Nat → Int32) : gS := (v', nTu G.2.1, vRec G.2.2.1 G.1 G.2.1, G.2.2.2)
def RELG (K : mK) (R : Nat → Nat → Option Nat) (I : Nat → Nat → Int32) (G : gS) : Prop := REL K R I G.1 G.2.1 G.2.2.1 G.2.2.2.1 G.2.2.2.2
def aRule (v : Nat → Int32) (k : Nat) : Int32 := if k = 3 then -2 else if v 588 = nI k then -5 else v 588
def nRule (G : gS) (k : Nat) : gS := if k = 3 then G else if G.1 588 = nI k then G else gA G (vU G.1 588 (nI k))
def aLim (v : Nat → Int32) (k : Nat) : Int32 := if k = 100 ∨ k = 201 then -2 else if v 589 = nI k then -5 else v 589
def nLim (G : gS) (k : Nat) : gS := if k = 100 ∨ k = 201 then G else if G.1 589 = nI k then G else gA G (vU G.1 589 (nI k))
def aRew (v : Nat → Int32) (s u T : Nat) : Int32 := if gp v s = 0 then -4 else nI (wWind s u (T - 1) 1 v).1
def nRew (G : gS) (s u T : Nat) : gS := if gp G.1 s = 0 then G else gA G (wWind s u (T - 1) 1 G.1).2
def aCut (v : Nat → Int32) (s l : Nat) : Int32 := if gc v s ≤ l then -1 else if gLow v = 6 then -3 else nI (gLow v)
def nCut (G : gS) (s l : Nat) : gS := if gc G.1 s ≤ l then G else if gLow G.1 = 6 then G else gA G (wCut G.1 s l)
def aSplice (v : Nat → Int32) (s t : Nat) : Int32 := if s = t then -2 else if gp v s = 0 ∨ gp v t = 0 then -4 else if 30 < gc v s + gc v t then -3 else nI (gc v s + gc v t)
def nSplice (G : gS) (s t : Nat) : gS := if s = t then G else if gp G.1 s = 0 ∨ gp G.1 t = 0 then G else if 30 < gc G.1 s + gc G.1 t then G else gA G (wSplice G.1 s t)
def aClose (v : Nat → Int32) (s : Nat) : Int32 := if gp v s = 0 then -4 else if gl v s = 1 then -5 else nI (gc v s)
def nClose (G : gS) (s : Nat) : gS := if gp G.1 s = 0 then G else if gl G.1 s = 1 then G else gA G (wClose G.1 s)
noncomputable def aPunch (v : Nat → Int32) (s y : Nat) : Int32 := @ite _ (gBar v s y) (Classical.propDecidable _) (-4) (nI (cnt (pMi (nbR v s (gc v s) (nI y)) (trR v s)) (gc v s)))
noncomputable def nPunch (G : gS) (s y : Nat) : gS := @ite _ (gBar G.1 s y) (Classical.propDecidable _) G (gA G (wPunch G.1 s y))
def aUndo (G : gS) : Int32 := if G.2.1 = 0 then -5 else nI (G.2.1 - 1)
def nUndo (G : gS) : gS := if G.2.1 = 0 then G else (fun x => G.2.2.1 (626 * (G.2.1 - 1) + x), G.2.1 - 1, G.2.2)
/-- the spool of a text that writes -/
def gSp (G : gS) : Nat := G.2.2.2.2 6 - 48
def aPerf (G : gS) : Int32 := if G.2.2.2.1 = 0 then -100 else aWrite G.1 (gSp G) (G.2.2.2.1 - 8)
def nPerf (G : gS) : gS := if G.2.2.2.1 = 0 then G else if gp G.1 (gSp G) = 1 ∨ 30 < G.2.2.2.1 - 8 then G else gA G (wWrite G.1 (gSp G) (G.2.2.2.1 - 8) (fun i => nI (G.2.2.2.2 (8 + i) - 97)))
def nType (G : gS) (ch : Nat) : gS := (G.1, G.2.1, G.2.2.1, G.2.2.2.1 + 1, tU G.2.2.2.2 G.2.2.2.1 ch)
def nClear (G : gS) : gS := (G.1, G.2.1, G.2.2.1, 0, G.2.2.2.2)
/-- what a call of the class does to the ghost -/
noncomputable def gC0 (z : Nat) (G : gS) : Option (Int32 × gS) :=
  if z = 67 then some (nI G.2.2.2.1, nClear G)
  else if z = 70 then some (aUndo G, nUndo G)
  else if z = 71 then some (-5, G)
  else if z = 68 then @ite _ (G.2.2.2.1 = 0 ∨ txW G.2.2.2.1 G.2.2.2.2 (gSp G)) (Classical.propDecidable _) (some (aPerf G, nPerf G)) none
  else none
noncomputable def gC1 (z : Nat) (x : Int32) (G : gS) : Option (Int32 × gS) :=
  if z = 80 then (if mIn x 10 = true then some (aCount G.1 G.2.1 x.toNatClampNeg, G) else none)
  else if z = 66 then (if mIn x 65536 = true ∧ G.2.2.2.1 < 50 then some (nI (G.2.2.2.1 + 1), nType G x.toNatClampNeg) else none)
  else if z = 76 then (if mIn x 6 = true then some (aBest G.1 x.toNatClampNeg, G) else none)
  else if z = 64 then (if mIn x 6 = true then some (aClose G.1 x.toNatClampNeg, nClose G x.toNatClampNeg) else none)
  else if z = 59 then (if mIn x 4 = true then some (aRule G.1 x.toNatClampNeg, nRule G x.toNatClampNeg) else none)
  else if z = 60 then (if mIn x 202 = true ∧ 100 ≤ x.toNatClampNeg then some (aLim G.1 x.toNatClampNeg, nLim G x.toNatClampNeg) else none)
  else none
noncomputable def gC2 (z : Nat) (x y : Int32) (G : gS) : Option (Int32 × gS) :=
  if z = 72 then (if mIn x 6 = true ∧ mIn y 7 = true then some (aSpool G.1 x.toNatClampNeg y.toNatClampNeg, G) else if x = 6 ∧ y = 0 then some (-1, G) else none)
  else if z = 79 then (if mIn x 10 = true ∧ mIn y 3 = true then some (aEvent G.1 x.toNatClampNeg y.toNatClampNeg, G) else none)
  else if z = 62 then (if mIn x 6 = true ∧ mIn y 1001 = true then some (aCut G.1 x.toNatClampNeg y.toNatClampNeg, nCut G x.toNatClampNeg y.toNatClampNeg) else none)
  else if z = 63 then (if mIn x 6 = true ∧ mIn y 6 = true then some (aSplice G.1 x.toNatClampNeg y.toNatClampNeg, nSplice G x.toNatClampNeg y.toNatClampNeg) else none)
  else if z = 65 then (if mIn x 6 = true ∧ mIn y 3 = true then some (aPunch G.1 x.toNatClampNeg y.toNatClampNeg, nPunch G x.toNatClampNeg y.toNatClampNeg) else none)
  else none
noncomputable def gC3 (z : Nat) (x y w : Int32) (G : gS) : Option (Int32 × gS) :=
  if z = 73 then (if mIn x 6 = true ∧ mIn y 1001 = true ∧ mIn w 3 = true then some (aGap G.1 x.toNatClampNeg y.toNatClampNeg w.toNatClampNeg, G) else none)
  else if z = 74 then (if mIn x 6 = true ∧ mIn y 3 = true ∧ mIn w 1001 = true then some (aRead G.1 x.toNatClampNeg y.toNatClampNeg w.toNatClampNeg, G) else none)
  else if z = 75 then (if mIn x 6 = true ∧ mIn y 3 = true ∧ mIn w 3 = true then some (aErr G.1 x.toNatClampNeg y.toNatClampNeg w.toNatClampNeg, G) else none)
  else if z = 78 then (if mIn x 6 = true ∧ mIn y 2 = true ∧ mIn w 10 = true then some (aSafe G.1 x.toNatClampNeg y.toNatClampNeg w.toNatClampNeg, G) else none)
  else if z = 61 then (if mIn x 6 = true ∧ mIn y 10 = true ∧ mIn w 31 = true ∧ 1 ≤ w.toNatClampNeg then some (aRew G.1 x.toNatClampNeg y.toNatClampNeg w.toNatClampNeg, nRew G x.toNatClampNeg y.toNatClampNeg w.toNatClampNeg) else none)
  else none
noncomputable def gC4 (z : Nat) (x y w r : Int32) (G : gS) : Option (Int32 × gS) :=
  if z = 77 then (if mIn x 6 = true ∧ mIn y 2 = true ∧ mIn w 10 = true ∧ mIn r 31 = true then some (aAfter G.1 x.toNatClampNeg y.toNatClampNeg w.toNatClampNeg r.toNatClampNeg, G) else none)
  else none
noncomputable def gCall (z : Nat) (as : List Value) (G : gS) : Option (Int32 × gS) := match as with
  | [.ref o] => if o = 0 then gC0 z G else none
  | [.ref o, .int x] => if o = 0 then gC1 z x G else none
  | [.ref o, .int x, .int y] => if o = 0 then gC2 z x y G else none
  | [.ref o, .int x, .int y, .int w] => if o = 0 then gC3 z x y w G else none
  | [.ref o, .int x, .int y, .int w, .int r] => if o = 0 then gC4 z x y w r G else none
  | _ => none
theorem in_nat {x : Int32} {N : Nat} (h : mIn x N = true) : ∃ k, k < N ∧ x.toNatClampNeg = k ∧ x = nI k := by
  simp only [mIn, Bool.and_eq_true, decide_eq_true_eq] at h
  refine ⟨x.toNatClampNeg, h.2, rfl, ?_⟩
  apply Int32.toInt_inj.mp
  have h1 := h.1
  rw [Int32.le_iff_toInt_le, Int32.toInt_zero] at h1
  have h3 := x.toInt_lt
  rw [nI_toInt (by show x.toInt.toNat < _; omega)]
  show _ = ((x.toInt.toNat : Nat) : Int)
  omega
def AOG (c : Nat) (as : List Value) (K : mK) (R : Nat → Nat → Option Nat) (I : Nat → Nat → Int32) (x : Int32) (G : gS) : Prop := EvM c (.ref 0 :: as) (K, R, I) (fun w k => w = some (.int x) ∧ ∃ R' I', k = (K, R', I') ∧ RELG K R' I' G)
theorem AOG_q {c : Nat} {as : List Value} {K : mK} {R : Nat → Nat → Option Nat} {I : Nat → Nat → Int32} {x : Int32} {G : gS} (h : RELG K R I G) (q : QO c as K R I x) : AOG c as K R I x G := by
  obtain ⟨I1, q1, q2⟩ := q
  refine EvM_mono ?_ q1
  rintro w k ⟨h1, h2⟩
  exact ⟨h1, R, I1, h2, REL_scr h q2⟩
theorem AOG_a {c : Nat} {as : List Value} {K : mK} {R : Nat → Nat → Option Nat} {I : Nat → Nat → Int32} {x : Int32} {G' : gS} {v H : Nat → Int32} {n t : Nat} {T : Nat → Nat} (q : AO c as K R I x v n H t T) (h : (v, n, H, t, T) = G') : AOG c as K R I x G' := by
  obtain ⟨R1, I1, q1, q2⟩ := q
  refine EvM_mono ?_ q1
  rintro w k ⟨h1, h2⟩
  subst h
  exact ⟨h1, R1, I1, h2, q2⟩
section CALLS
variable {K : mK} {R : Nat → Nat → Option Nat} {I : Nat → Nat → Int32} {G : gS}
theorem s_rule (h : RELG K R I G) {k : Nat} (hk : k ≤ 3) : AOG 59 [.int (nI k)] K R I (aRule G.1 k) (nRule G k) := by
  have q := q_setRule h k hk
  unfold aRule nRule
  by_cases c1 : k = 3
  · rw [if_pos c1] at q; rw [if_pos c1, if_pos c1]; exact AOG_q h q
  · rw [if_neg c1] at q; rw [if_neg c1, if_neg c1]
    by_cases c2 : G.1 588 = nI k
    · rw [if_pos c2] at q; rw [if_pos c2, if_pos c2]; exact AOG_q h q
    · rw [if_neg c2] at q; rw [if_neg c2, if_neg c2]; exact AOG_a q rfl
theorem s_lim (h : RELG K R I G) {k : Nat} (hk0 : 100 ≤ k) (hk : k ≤ 201) : AOG 60 [.int (nI k)] K R I (aLim G.1 k) (nLim G k) := by
  have q := q_setLimit h k hk0 hk
  unfold aLim nLim
  by_cases c1 : k = 100 ∨ k = 201
  · rw [if_pos c1] at q; rw [if_pos c1, if_pos c1]; exact AOG_q h q
  · rw [if_neg c1] at q; rw [if_neg c1, if_neg c1]
    by_cases c2 : G.1 589 = nI k
    · rw [if_pos c2] at q; rw [if_pos c2, if_pos c2]; exact AOG_q h q
    · rw [if_neg c2] at q; rw [if_neg c2, if_neg c2]; exact AOG_a q rfl
theorem s_rew (h : RELG K R I G) {s u T : Nat} (hs : s < 6) (hu : u ≤ 9) (hT1 : 1 ≤ T) (hT2 : T ≤ 30) : AOG 61 [.int (nI s), .int (nI u), .int (nI T)] K R I (aRew G.1 s u T) (nRew G s u T) := by
  have q := q_rewind h s u T hs hu hT1 hT2
  unfold aRew nRew
  by_cases c1 : gp G.1 s = 0
  · rw [if_pos c1] at q; rw [if_pos c1, if_pos c1]; exact AOG_q h q
  · rw [if_neg c1] at q; rw [if_neg c1, if_neg c1]; exact AOG_a q rfl
theorem s_cut (h : RELG K R I G) {s l : Nat} (hs : s < 6) (hl : l ≤ 1000) : AOG 62 [.int (nI s), .int (nI l)] K R I (aCut G.1 s l) (nCut G s l) := by
  have q := q_cut h s l hs hl
  unfold aCut nCut
  by_cases c1 : gc G.1 s ≤ l
  · rw [if_pos c1] at q; rw [if_pos c1, if_pos c1]; exact AOG_q h q
  · rw [if_neg c1] at q; rw [if_neg c1, if_neg c1]
    by_cases c2 : gLow G.1 = 6
    · rw [if_pos c2] at q; rw [if_pos c2, if_pos c2]; exact AOG_q h q
    · rw [if_neg c2] at q; rw [if_neg c2, if_neg c2]; exact AOG_a q rfl
theorem s_splice (h : RELG K R I G) {s t : Nat} (hs : s < 6) (ht : t < 6) : AOG 63 [.int (nI s), .int (nI t)] K R I (aSplice G.1 s t) (nSplice G s t) := by
  have q := q_splice h s t hs ht
  unfold aSplice nSplice
  by_cases c1 : s = t
  · rw [if_pos c1] at q; rw [if_pos c1, if_pos c1]; exact AOG_q h q
  · rw [if_neg c1] at q; rw [if_neg c1, if_neg c1]
    by_cases c2 : gp G.1 s = 0 ∨ gp G.1 t = 0
    · rw [if_pos c2] at q; rw [if_pos c2, if_pos c2]; exact AOG_q h q
    · rw [if_neg c2] at q; rw [if_neg c2, if_neg c2]
      by_cases c3 : 30 < gc G.1 s + gc G.1 t
      · rw [if_pos c3] at q; rw [if_pos c3, if_pos c3]; exact AOG_q h q
      · rw [if_neg c3] at q; rw [if_neg c3, if_neg c3]; exact AOG_a q rfl
theorem s_close (h : RELG K R I G) {s : Nat} (hs : s < 6) : AOG 64 [.int (nI s)] K R I (aClose G.1 s) (nClose G s) := by
  have q := q_close h s hs
  unfold aClose nClose
  by_cases c1 : gp G.1 s = 0
  · rw [if_pos c1] at q; rw [if_pos c1, if_pos c1]; exact AOG_q h q
  · rw [if_neg c1] at q; rw [if_neg c1, if_neg c1]
    by_cases c2 : gl G.1 s = 1
    · rw [if_pos c2] at q; rw [if_pos c2, if_pos c2]; exact AOG_q h q
    · rw [if_neg c2] at q; rw [if_neg c2, if_neg c2]; exact AOG_a q rfl
theorem s_punch (h : RELG K R I G) {s y : Nat} (hs : s < 6) (hy : y ≤ 2) : AOG 65 [.int (nI s), .int (nI y)] K R I (aPunch G.1 s y) (nPunch G s y) := by
  obtain ⟨q1, q2⟩ := q_punch h s y hs hy
  unfold aPunch nPunch
  by_cases c1 : gBar G.1 s y
  · rw [if_pos c1, if_pos c1]; exact AOG_q h (q1 c1)
  · rw [if_neg c1, if_neg c1]; exact AOG_a (q2 c1) rfl
theorem s_undo (h : RELG K R I G) : AOG 70 [] K R I (aUndo G) (nUndo G) := by
  unfold aUndo nUndo
  by_cases c1 : G.2.1 = 0
  · rw [if_pos c1, if_pos c1]; exact AOG_q h (q_undo0 h c1)
  · rw [if_neg c1, if_neg c1]; exact AOG_a (q_undo h c1) rfl
theorem s_perf (h : RELG K R I G) (ht : G.2.2.2.1 = 0 ∨ txW G.2.2.2.1 G.2.2.2.2 (gSp G)) : AOG 68 [] K R I (aPerf G) (nPerf G) := by
  unfold aPerf nPerf
  by_cases c1 : G.2.2.2.1 = 0
  · rw [if_pos c1, if_pos c1]
    have h' := id h
    unfold RELG at h'
    rw [c1] at h'
    exact AOG_q h (q_perform0 h')
  · rw [if_neg c1, if_neg c1]
    have q := q_perform h (gSp G) (ht.resolve_left c1)
    by_cases c2 : gp G.1 (gSp G) = 1 ∨ 30 < G.2.2.2.1 - 8
    · rw [if_pos c2] at q; rw [if_pos c2]; exact AOG_q h q
    · rw [if_neg c2] at q; rw [if_neg c2]
      have e : aWrite G.1 (gSp G) (G.2.2.2.1 - 8) = nI (G.2.2.2.1 - 8) := by
        unfold aWrite
        rw [if_neg (fun z => c2 (Or.inl z)), if_neg (fun z => c2 (Or.inr z))]
      rw [e]
      exact AOG_a q rfl
set_option maxHeartbeats 4000000 in
theorem call_sound (h : RELG K R I G) {z : Nat} {as : List Value} {x : Int32} {G' : gS} (hc : gCall z as G = some (x, G')) : EvM z as (K, R, I) (fun w k => w = some (.int x) ∧ ∃ R' I', k = (K, R', I') ∧ RELG K R' I' G') := by
  unfold gCall at hc
  split at hc
  · split at hc
    · rename_i o e; subst e
      unfold gC0 at hc
      split at hc
      · rename_i e; subst e; cases hc; exact AOG_a (q_clearText h) rfl
      split at hc
      · rename_i e; subst e; cases hc; exact s_undo h
      split at hc
      · rename_i e; subst e; cases hc; exact AOG_q h (q_restore h)
      split at hc
      · rename_i e; subst e
        split at hc
        · rename_i c; cases hc; exact s_perf h c
        · cases hc
      · cases hc
    · cases hc
  · split at hc
    · rename_i o y e; subst e
      unfold gC1 at hc
      split at hc
      · rename_i e; subst e
        split at hc
        · rename_i c; cases hc
          obtain ⟨k, k1, k2, k3⟩ := in_nat c
          rw [k2, k3]; exact AOG_q h (q_count h k k1)
        · cases hc
      split at hc
      · rename_i e; subst e
        split at hc
        · rename_i c; cases hc
          obtain ⟨k, k1, k2, k3⟩ := in_nat c.1
          rw [k2, k3]; exact AOG_a (q_type h k k1 c.2) rfl
        · cases hc
      split at hc
      · rename_i e; subst e
        split at hc
        · rename_i c; cases hc
          obtain ⟨k, k1, k2, k3⟩ := in_nat c
          rw [k2, k3]; exact AOG_q h (q_bestWay h k k1)
        · cases hc
      split at hc
      · rename_i e; subst e
        split at hc
        · rename_i c; cases hc
          obtain ⟨k, k1, k2, k3⟩ := in_nat c
          rw [k2, k3]; exact s_close h k1
        · cases hc
      split at hc
      · rename_i e; subst e
        split at hc
        · rename_i c; cases hc
          obtain ⟨k, k1, k2, k3⟩ := in_nat c
          rw [k2, k3]; exact s_rule h (by omega)
        · cases hc
      split at hc
      · rename_i e; subst e
        split at hc
        · rename_i c; cases hc
          obtain ⟨k, k1, k2, k3⟩ := in_nat c.1
          have c2 := c.2
          rw [k2] at c2
          rw [k2, k3]; exact s_lim h c2 (by omega)
        · cases hc
      · cases hc
    · cases hc
  · split at hc
    · rename_i o y y2 e; subst e
      unfold gC2 at hc
      split at hc
      · rename_i e; subst e
        split at hc
        · rename_i c; cases hc
          obtain ⟨k, k1, k2, k3⟩ := in_nat c.1
          obtain ⟨l, l1, l2, l3⟩ := in_nat c.2
          rw [k2, k3, l2, l3]; exact AOG_q h (q_spool h k l k1 l1)
        · split at hc
          · rename_i c; cases hc
            obtain ⟨rfl, rfl⟩ := c
            exact AOG_q h (q_spool6 h 0)
          · cases hc
      split at hc
      · rename_i e; subst e
        split at hc
        · rename_i c; cases hc
          obtain ⟨k, k1, k2, k3⟩ := in_nat c.1
          obtain ⟨l, l1, l2, l3⟩ := in_nat c.2
          rw [k2, k3, l2, l3]; exact AOG_q h (q_event h k l k1 (by omega))
        · cases hc
      split at hc
      · rename_i e; subst e
        split at hc
        · rename_i c; cases hc
          obtain ⟨k, k1, k2, k3⟩ := in_nat c.1
          obtain ⟨l, l1, l2, l3⟩ := in_nat c.2
          rw [k2, k3, l2, l3]; exact s_cut h k1 (by omega)
        · cases hc
      split at hc
      · rename_i e; subst e
        split at hc
        · rename_i c; cases hc
          obtain ⟨k, k1, k2, k3⟩ := in_nat c.1
          obtain ⟨l, l1, l2, l3⟩ := in_nat c.2
          rw [k2, k3, l2, l3]; exact s_splice h k1 l1
        · cases hc
      split at hc
      · rename_i e; subst e
        split at hc
        · rename_i c; cases hc
          obtain ⟨k, k1, k2, k3⟩ := in_nat c.1
          obtain ⟨l, l1, l2, l3⟩ := in_nat c.2
          rw [k2, k3, l2, l3]; exact s_punch h k1 (by omega)
        · cases hc
      · cases hc
    · cases hc
  · split at hc
    · rename_i o y y2 y3 e; subst e
      unfold gC3 at hc
      split at hc
      · rename_i e; subst e
        split at hc
        · rename_i c; cases hc
          obtain ⟨k, k1, k2, k3⟩ := in_nat c.1
          obtain ⟨l, l1, l2, l3⟩ := in_nat c.2.1
          obtain ⟨m, m1, m2, m3⟩ := in_nat c.2.2
          rw [k2, k3, l2, l3, m2, m3]; exact AOG_q h (q_gap h k l m k1 (by omega) (by omega))
        · cases hc
      split at hc
      · rename_i e; subst e
        split at hc
        · rename_i c; cases hc
          obtain ⟨k, k1, k2, k3⟩ := in_nat c.1
          obtain ⟨l, l1, l2, l3⟩ := in_nat c.2.1
          obtain ⟨m, m1, m2, m3⟩ := in_nat c.2.2
          rw [k2, k3, l2, l3, m2, m3]; exact AOG_q h (q_read h k l m k1 (by omega) (by omega))
        · cases hc
      split at hc
      · rename_i e; subst e
        split at hc
        · rename_i c; cases hc
          obtain ⟨k, k1, k2, k3⟩ := in_nat c.1
          obtain ⟨l, l1, l2, l3⟩ := in_nat c.2.1
          obtain ⟨m, m1, m2, m3⟩ := in_nat c.2.2
          rw [k2, k3, l2, l3, m2, m3]; exact AOG_q h (q_errors h k l m k1 (by omega) (by omega))
        · cases hc
      split at hc
      · rename_i e; subst e
        split at hc
        · rename_i c; cases hc
          obtain ⟨k, k1, k2, k3⟩ := in_nat c.1
          obtain ⟨l, l1, l2, l3⟩ := in_nat c.2.1
          obtain ⟨m, m1, m2, m3⟩ := in_nat c.2.2
          rw [k2, k3, l2, l3, m2, m3]; exact AOG_q h (q_safe h k l m k1 (by omega) (by omega))
        · cases hc
      split at hc
      · rename_i e; subst e
        split at hc
        · rename_i c; cases hc
          obtain ⟨k, k1, k2, k3⟩ := in_nat c.1
          obtain ⟨l, l1, l2, l3⟩ := in_nat c.2.1
          obtain ⟨m, m1, m2, m3⟩ := in_nat c.2.2.1
          have c4 := c.2.2.2
          rw [m2] at c4
          rw [k2, k3, l2, l3, m2, m3]; exact s_rew h k1 (by omega) c4 (by omega)
        · cases hc
      · cases hc
    · cases hc
  · split at hc
    · rename_i o y y2 y3 y4 e; subst e
      unfold gC4 at hc
      split at hc
      · rename_i e; subst e
        split at hc
        · rename_i c; cases hc
          obtain ⟨k, k1, k2, k3⟩ := in_nat c.1
          obtain ⟨l, l1, l2, l3⟩ := in_nat c.2.1
          obtain ⟨m, m1, m2, m3⟩ := in_nat c.2.2.1
          obtain ⟨r, r1, r2, r3⟩ := in_nat c.2.2.2
          rw [k2, k3, l2, l3, m2, m3, r2, r3]; exact AOG_q h (q_after h k l m r k1 (by omega) (by omega) (by omega))
        · cases hc
      · cases hc
    · cases hc
  · cases hc
end CALLS
