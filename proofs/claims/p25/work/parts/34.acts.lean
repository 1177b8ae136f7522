/-! THE RELATION of the class's cells with its ghost, and what an act does to it -/
def zG (K : mK) (R : Nat → Nat → Option Nat) (f : Nat → Nat) : Prop :=
  zS K R 1 ∧ zS K R 153 ∧ zH K R f ∧ zW K R 190 ∧ zR K R 186 ∧ zR K R 188 ∧
  (K.2.2.1 0 = (1, 7) ∧ R 0 0 = some 1 ∧ R 0 1 = some 31 ∧ R 0 2 = some 153 ∧ R 0 4 = some 183 ∧ R 0 5 = some 185 ∧ R 0 6 = some 186 ∧ R 0 7 = some 188 ∧ R 0 8 = some 190) ∧
  (K.2.2.1 183 = (1, 5) ∧ R 183 0 = some 184 ∧ K.2.2.1 184 = (3, 50)) ∧ K.2.2.1 185 = (1, 0)
def rH (I : Nat → Nat → Int32) (f : Nat → Nat) (n : Nat) (H : Nat → Int32) : Prop := ∀ j, j < n → RC I (33 + 30 * f j) (fun x => H (626 * j + x))
def rT (I : Nat → Nat → Int32) (t : Nat) (T : Nat → Nat) : Prop := t ≤ 50 ∧ I 183 1 = nI t ∧ ∀ k, k < t → I 184 k = nI (T k) ∧ T k < 65536
def tU (T : Nat → Nat) (k x : Nat) : Nat → Nat := fun j => if j = k then x else T j
/-- row, states in the history, their rows, the text's length, the text -/
abbrev gS : Type := (Nat → Int32) × Nat × (Nat → Int32) × Nat × (Nat → Nat)
def REL (K : mK) (R : Nat → Nat → Option Nat) (I : Nat → Nat → Int32) (v : Nat → Int32) (n : Nat) (H : Nat → Int32) (t : Nat) (T : Nat → Nat) : Prop :=
  ∃ f, zG K R f ∧ RC I 1 v ∧ n ≤ 4 ∧ I 31 1 = nI n ∧ rH I f n H ∧ I 0 3 = 0 ∧ rT I t T
theorem zG_turn {K : mK} {R : Nat → Nat → Option Nat} {f : Nat → Nat} (h : zG K R f) : zG K (rTt R) (fTu f) := by
  obtain ⟨h2, h3, h4, h5, ⟨q1, q2, q3, q4⟩, ⟨p1, p2, p3, p4⟩, ⟨a0, a1, a2, a3, a4, a5, a6, a7, a8⟩, ⟨b0, b1, b2⟩, c0⟩ := h
  have e : ∀ x, x ≠ 32 → rTt R x = R x := rTt_o
  refine ⟨zS_c e h2 (by omega), zS_c e h3 (by omega), zH_turn h4, zW_c e h5 (by omega), ⟨q1, q2, by rw [e _ (by omega)]; exact q3, q4⟩, ⟨p1, p2, by rw [e _ (by omega)]; exact p3, p4⟩, ⟨a0, ?_⟩, ⟨b0, by rw [e _ (by omega)]; exact b1, b2⟩, c0⟩
  rw [e 0 (by omega)]
  exact ⟨a1, a2, a3, a4, a5, a6, a7, a8⟩
def gTu (f : Nat → Nat) (n : Nat) : Nat → Nat := if n = 4 then fTu f else f
def nTu (n : Nat) : Nat := if n = 4 then 4 else n + 1
def RTu (R : Nat → Nat → Option Nat) (n : Nat) : Nat → Nat → Option Nat := if n = 4 then rTt R else R
def qTu (f : Nat → Nat) (n : Nat) : Nat := if n = 4 then f 0 else f n
theorem zG_tu {K : mK} {R : Nat → Nat → Option Nat} {f : Nat → Nat} {n : Nat} (h : zG K R f) : zG K (RTu R n) (gTu f n) := by
  unfold RTu gTu
  split
  · exact zG_turn h
  · exact h
theorem RC_fl {I : Nat → Nat → Int32} {a : Nat} {v : Nat → Int32} (h : RC I a v) : ∀ s, s < 6 → ∃ p cl, p ≤ 1 ∧ cl ≤ 1 ∧ I (a + 6 + 4 * s) 3 = nI p ∧ I (a + 6 + 4 * s) 4 = nI cl := by
  intro s hs
  obtain ⟨p, cl, c, ⟨f1, f2, f3, f4, f5, f6⟩, -⟩ := h.1 s hs
  exact ⟨p, cl, f4, f5, f1, f2⟩
/-- the class's remembering, with the relation -/
theorem a_remember {K : mK} {R : Nat → Nat → Option Nat} {I : Nat → Nat → Int32} {f : Nat → Nat} {n : Nat} {v : Nat → Int32} {Q : Option Value → mH → Prop} (g : zG K R f) (hv : RC I 1 v) (hn : I 31 1 = nI n) (hn2 : n ≤ 4) :
    EvM 9 [.ref 31, .ref 1] (K, R, I) Q ↔ Q none (K, RTu R n, hRm I (qTu f n) n) := m_remember g.2.2.1 g.1 hn hn2 (RC_fl hv)
theorem qTu_lt {K : mK} {R : Nat → Nat → Option Nat} {f : Nat → Nat} {n : Nat} (g : zG K R f) (hn2 : n ≤ 4) : qTu f n < 4 := by
  have h := g.2.2.1.2.2.2.2.1
  unfold qTu
  split
  · exact h 0 (by omega)
  · exact h n (by omega)
theorem hRm_o {I : Nat → Nat → Int32} {q n x j : Nat} (h : x < 33 + 30 * q ∨ 33 + 30 * q + 30 ≤ x) (h2 : x ≠ 31) : hRm I q n x j = I x j := by
  rw [hRm, s_ne (by omega), sCp_o h]
theorem hRm_31 {I : Nat → Nat → Int32} {q n : Nat} : hRm I q n 31 1 = nI (nTu n) := s_eq
theorem a_hist {K : mK} {R : Nat → Nat → Option Nat} {I : Nat → Nat → Int32} {f : Nat → Nat} {n : Nat} {H v : Nat → Int32} (g : zG K R f) (hv : RC I 1 v) (hn2 : n ≤ 4) (hH : rH I f n H) : rH (hRm I (qTu f n) n) (gTu f n) (nTu n) (vRec H v n) := by
  obtain ⟨-, -, ⟨-, -, -, -, z4, z5, -⟩, -⟩ := g
  intro j hj
  have old : ∀ i, i < n → (n = 4 → i ≠ 0) → ∀ w : Nat → Int32, (∀ x, x < 626 → w x = H (626 * i + x)) → RC (hRm I (qTu f n) n) (33 + 30 * f i) w := by
    intro i hi hi0 w hw
    refine RC_cong (hH i hi) (fun d j hd _ => ?_) hw
    have h1 := z4 i (by omega)
    have h2 : f i ≠ qTu f n := by
      unfold qTu
      split
      · rename_i e; intro q; exact hi0 e (z5 _ _ (by omega) (by omega) q)
      · rename_i e; intro q; have := z5 _ _ (by omega) (by omega) q; omega
    rw [hRm_o (by omega) (by omega)]
  have new : ∀ w : Nat → Int32, (∀ x, x < 626 → w x = v x) → RC (hRm I (qTu f n) n) (33 + 30 * qTu f n) w := by
    intro w hw
    refine RC_cong hv (fun d j hd hvd => ?_) hw
    rw [hRm, s_ne (by omega), sCp_in hd hvd]
  by_cases e : n = 4
  · subst e
    simp only [nTu, if_true] at hj
    simp only [gTu, if_true]
    by_cases e3 : j = 3
    · subst e3
      rw [show fTu f 3 = qTu f 4 by simp [fTu, qTu]]
      refine new _ (fun x hx => ?_)
      show vRec H v 4 (626 * 3 + x) = v x
      rw [vRec, if_pos rfl, if_neg (by omega), if_pos (by omega), show 626 * 3 + x - 1878 = x by omega]
    · rw [show fTu f j = f (j + 1) by simp [fTu, e3]]
      refine old (j + 1) (by omega) (by omega) _ (fun x hx => ?_)
      show vRec H v 4 (626 * j + x) = _
      rw [vRec, if_pos rfl, if_pos (by omega), show 626 * j + x + 626 = 626 * (j + 1) + x by omega]
  · simp only [nTu, if_neg e] at hj
    simp only [gTu, if_neg e]
    by_cases e3 : j = n
    · subst e3
      have q0 := new (fun x => vRec H v j (626 * j + x)) (fun x hx => by
        show vRec H v j (626 * j + x) = v x
        rw [vRec, if_neg e, if_pos (by omega), show 626 * j + x - 626 * j = x by omega])
      rw [show qTu f j = f j by simp [qTu, e]] at q0
      rw [show qTu f j = f j by simp [qTu, e]]
      exact q0
    · refine old j (by omega) (fun q => absurd q e) _ (fun x hx => ?_)
      show vRec H v n (626 * j + x) = _
      rw [vRec, if_neg e, if_neg (by omega)]
theorem RC_out {I I' : Nat → Nat → Int32} {a : Nat} {v : Nat → Int32} (h : RC I a v) (hI : ∀ x, a ≤ x → x < a + 30 → I' x = I x) : RC I' a v := RC_cong h (fun d j hd _ => by rw [hI _ (by omega) (by omega)]) (fun _ _ => rfl)
/-- the relation behind an act -/
theorem REL_act {K : mK} {R : Nat → Nat → Option Nat} {I I2 : Nat → Nat → Int32} {f : Nat → Nat} {n t : Nat} {v v' H : Nat → Int32} {T : Nat → Nat} (g : zG K R f) (hv : RC I 1 v) (hn2 : n ≤ 4) (hH : rH I f n H) (hP : I 0 3 = 0) (hT : rT I t T)
    (h2 : ∀ x, 31 ≤ x → x < 185 → I2 x = hRm I (qTu f n) n x) (h20 : I2 0 = I 0) (h2v : RC I2 1 v') : REL K (RTu R n) I2 v' (nTu n) (vRec H v n) t T := by
  have hq := qTu_lt g hn2
  have z4 := (zG_tu (n := n) g).2.2.1.2.2.2.2.1
  refine ⟨gTu f n, zG_tu g, h2v, ?_, ?_, ?_, ?_, ?_⟩
  · unfold nTu; split <;> omega
  · rw [h2 31 (by omega) (by omega)]; exact hRm_31
  · intro j hj
    have hj4 : j < 4 := by unfold nTu at hj; split at hj <;> omega
    have := z4 j hj4
    exact RC_out (a_hist g hv hn2 hH j hj) (fun x x1 x2 => h2 x (by omega) (by omega))
  · rw [h20]; exact hP
  · obtain ⟨t1, t2, t4⟩ := hT
    refine ⟨t1, ?_, fun k hk => ?_⟩
    · rw [h2 183 (by omega) (by omega), hRm_o (by omega) (by omega)]; exact t2
    · rw [h2 184 (by omega) (by omega), hRm_o (by omega) (by omega)]; exact t4 k hk
