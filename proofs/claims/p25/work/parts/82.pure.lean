/-! PURE FACTS of the rows: counts, events, sums, fresh wires, winding -/
section CT
variable {v : Nat → Int32} {n : Nat}
theorem ct_0 : aCount v n 0 = nI (cnt (fun s => !(v (98 * s) == 0)) 6) := rfl
theorem ct_1 : aCount v n 1 = sm (fun s => if v (98 * s) = 0 then 0 else v (98 * s + 2)) 6 := rfl
theorem ct_2 : aCount v n 2 = v 590 := rfl
theorem ct_3 : aCount v n 3 = v 591 := rfl
theorem ct_4 : aCount v n 4 = v 592 := rfl
theorem ct_5 : aCount v n 5 = v 593 := rfl
theorem ct_6 : aCount v n 6 = v 594 := rfl
theorem ct_7 : aCount v n 7 = v 588 := rfl
theorem ct_8 : aCount v n 8 = v 589 := rfl
theorem ct_9 : aCount v n 9 = nI n := rfl
end CT
theorem gln_of {v : Nat → Int32} {n : Nat} (h : v 595 = nI n) (hn : n ≤ 10) : gln v = n := by unfold gln; rw [h]; exact n_cl (by omega)
theorem ev_cong {v w : Nat → Int32} (h : ∀ x, 595 ≤ x → w x = v x) (e k : Nat) : aEvent w e k = aEvent v e k := by
  have hg : gln w = gln v := by unfold gln; rw [h 595 (by omega)]
  unfold aEvent
  rw [hg, h _ (by omega)]
theorem ev_0 {v : Nat → Int32} {n : Nat} {kd sp nu : Int32} (hv : v 595 = nI n) (hn : n ≤ 10) : aEvent (vTl v n kd sp nu) 0 0 = kd ∧ aEvent (vTl v n kd sp nu) 0 1 = sp ∧ aEvent (vTl v n kd sp nu) 0 2 = nu := by
  have hl : lnx n ≤ 10 := by unfold lnx; split <;> omega
  have hg : gln (vTl v n kd sp nu) = lnx n := gln_of (vTl_n hv hn) hl
  have h0 : 0 < lnx n := by unfold lnx; split <;> omega
  unfold aEvent
  rw [hg, if_pos h0, if_pos h0, if_pos h0]
  by_cases e : n = 10
  · subst e
    refine ⟨?_, ?_, ?_⟩
    · show vTl v 10 kd sp nu 623 = kd
      unfold vTl; rw [if_pos rfl, if_neg (by omega), if_pos rfl]
    · show vTl v 10 kd sp nu 624 = sp
      unfold vTl; rw [if_pos rfl, if_neg (by omega), if_neg (by omega), if_pos rfl]
    · show vTl v 10 kd sp nu 625 = nu
      unfold vTl; rw [if_pos rfl, if_neg (by omega), if_neg (by omega), if_neg (by omega), if_pos rfl]
  · have hx : lnx n = n + 1 := if_neg e
    rw [hx, show n + 1 - 1 - 0 = n by omega]
    refine ⟨?_, ?_, ?_⟩
    · unfold vTl; rw [if_neg e, if_pos (by omega)]
    · unfold vTl; rw [if_neg e, if_neg (by omega), if_pos (by omega)]
    · unfold vTl; rw [if_neg e, if_neg (by omega), if_neg (by omega), if_pos (by omega)]
theorem ev_1 {v : Nat → Int32} {n k : Nat} {kd sp nu : Int32} (hv : v 595 = nI n) (hn : n ≤ 10) (h1 : 1 ≤ n) (hk : k ≤ 2) : aEvent (vTl v n kd sp nu) 1 k = aEvent v 0 k := by
  have hl : lnx n ≤ 10 := by unfold lnx; split <;> omega
  have hg : gln (vTl v n kd sp nu) = lnx n := gln_of (vTl_n hv hn) hl
  have h0 : 1 < lnx n := by unfold lnx; split <;> omega
  have hg2 := gln_of hv hn
  unfold aEvent
  rw [hg, hg2, if_pos h0, if_pos (by omega)]
  by_cases e : n = 10
  · subst e
    show vTl v 10 kd sp nu (620 + k) = v (623 + k)
    unfold vTl
    rw [if_pos rfl, if_pos (by omega), show 620 + k + 3 = 623 + k by omega]
  · have hx : lnx n = n + 1 := if_neg e
    rw [hx, show n + 1 - 1 - 1 = n - 1 by omega, show n - 1 - 0 = n - 1 by omega]
    unfold vTl
    rw [if_neg e, if_neg (by omega), if_neg (by omega), if_neg (by omega), if_neg (by omega)]
/-! sums and counts -/
theorem sm_cq {f g : Nat → Int32} : ∀ k, (∀ j, j < k → f j = g j) → sm f k = sm g k := by
  intro k
  induction k with
  | zero => intro _; rfl
  | succ k ih => intro h; rw [sm, sm, ih (fun j hj => h j (by omega)), h k (by omega)]
theorem sm_add {f : Nat → Int32} (a : Nat) : ∀ b, sm f (a + b) = sm f a + sm (fun j => f (a + j)) b := by
  intro b
  induction b with
  | zero => exact (Int32.add_zero _).symm
  | succ b ih =>
    show sm f (a + b) + f (a + b) = sm f a + (sm (fun j => f (a + j)) b + f (a + b))
    rw [ih, Int32.add_assoc]
theorem cnt_cq {P P' : Nat → Bool} : ∀ k, (∀ j, j < k → P j = P' j) → cnt P k = cnt P' k := by
  intro k
  induction k with
  | zero => intro _; rfl
  | succ k ih => intro h; rw [cnt, cnt, ih (fun j hj => h j (by omega)), h k (by omega)]
theorem cnt_up {P P' : Nat → Bool} {i : Nat} (h1 : P i = false) (h2 : P' i = true) : ∀ k, i < k → (∀ j, j < k → j ≠ i → P' j = P j) → cnt P' k = cnt P k + 1 := by
  intro k
  induction k with
  | zero => intro h; omega
  | succ k ih =>
    intro hi h
    rw [cnt, cnt]
    by_cases e : i = k
    · subst e
      rw [cnt_cq (P := P') (P' := P) i (fun j hj => h j (by omega) (by omega)), h1, h2]
      rfl
    · rw [ih (by omega) (fun j hj hj2 => h j (by omega) hj2), h k (by omega) (fun q => e q.symm)]
      omega
theorem fB_cnt {P : Nat → Bool} {n : Nat} : ∀ k, k ≤ n → (fB P n k = n ↔ cnt (fun j => !P j) k = k) := by
  intro k
  induction k with
  | zero => intro _; exact ⟨fun _ => rfl, fun _ => rfl⟩
  | succ k ih =>
    intro hk
    have hi := ih (by omega)
    have hb := (fB_le P n k (by omega)).1
    have hc := cnt_le (fun j => !P j) k
    rw [fB, cnt]
    by_cases e : fB P n k = n
    · have e2 := hi.mp e
      rw [if_pos e, e2]
      cases hp : P k
      · simp [hp]
      · simp [hp]; omega
    · rw [if_neg e]
      constructor
      · intro q; exact absurd q e
      · intro q
        refine absurd (hi.mpr ?_) e
        cases hp : P k
        · simp [hp] at q; omega
        · simp [hp] at q; omega
/-! a fresh wire -/
theorem nmb_5 : ∀ t, t < 8 → nmb (nI (2000 + 1000 * t)) 5000 = nI t := by decide +kernel
theorem rdM_5 : ∀ t, t < 8 → (3 * 5000 + 5 * nI (2000 + 1000 * t) / (nI t + 2)) / 4 = (5000 : Int32) := by decide +kernel
theorem nom_t {q : Nat → Int32} {c i t : Nat} (hi : i < c) (h : q i = nI t) : nomQ q c (i + 1) = nI (2000 + 1000 * t) := by
  rw [nomQ_i hi, h, show (2000 : Int32) = nI 2000 from rfl, show (1000 : Int32) = nI 1000 from rfl, n_mul, n_add]
theorem fresh {v q : Nat → Int32} {s c cl w : Nat} (hL : ∀ j, j < c + 1 + cl → v (98 * s + (4 + j)) = nomQ q c j) (hq : ∀ i, i < c → ∃ t, t < 8 ∧ q i = nI t) (hw : w ≤ 2) (hcl : w = 2 → cl = 1) (hc : c ≤ 30) : ∀ i, i < c → nbR v s c (nI w) i = q i := by
  have h0 : vL v s 1 0 = 5000 := by show v (98 * s + (4 + 0)) = _; rw [hL 0 (by omega), nomQ_0]
  have hi : ∀ i, i < c → ∃ t, t < 8 ∧ q i = nI t ∧ vL v s 1 (i + 1) = nI (2000 + 1000 * t) := by
    intro i h
    obtain ⟨t, t1, t2⟩ := hq i h
    refine ⟨t, t1, t2, ?_⟩
    show v (98 * s + (4 + (i + 1))) = _
    rw [hL (i + 1) (by omega), nom_t h t2]
  by_cases h2 : w = 2
  · subst h2
    have hcl := hcl rfl
    intro i h
    obtain ⟨t, t1, t2, t3⟩ := hi i h
    have hb : vL v s 1 (c + 1) = 5000 := by show v (98 * s + (4 + (c + 1))) = _; rw [hL (c + 1) (by omega), nomQ_e]
    have hm : mBt (vL v s) 0 c i = 5000 := by
      unfold mBt
      rw [show (0 + 1 : Nat) = 1 from rfl, hb, h0, show (5000 : Int32) - 5000 = nI 0 from by decide, n_mul, n_div (by omega) (by omega), Nat.zero_mul, Nat.zero_div]
      rfl
    show nmb (vL v s 1 (i + 1)) (rdA (vL v s) 0 c (nI 2) i) = q i
    unfold rdA
    rw [if_pos (show nI 2 = 2 from rfl), hm, t3, nmb_5 t t1, t2]
  · have hn2 : ¬ nI w = 2 := by rw [show (2 : Int32) = nI 2 from rfl, n_eq (by omega) (by omega)]; exact h2
    have hM : ∀ i, i ≤ c → rdM (vL v s) 0 c (nI w) i = 5000 := by
      intro i
      induction i with
      | zero => intro _; exact h0
      | succ i ih =>
        intro h
        obtain ⟨t, t1, t2, t3⟩ := hi i (by omega)
        have e := ih (by omega)
        have t3' : vL v s (0 + 1) (i + 1) = nI (2000 + 1000 * t) := t3
        rw [rdM, if_neg hn2, e, t3', nmb_5 t t1, if_neg (n_m1 (by omega))]
        split
        · exact rdM_5 t t1
        · rfl
    intro i h
    obtain ⟨t, t1, t2, t3⟩ := hi i h
    show nmb (vL v s 1 (i + 1)) (rdA (vL v s) 0 c (nI w) i) = q i
    unfold rdA
    rw [if_neg hn2, hM i (by omega), t3, nmb_5 t t1, t2]
/-! what a row's change leaves -/
theorem gNom_o {v w : Nat → Int32} {r : Nat} (h : ∀ x, 98 * r ≤ x → x < 98 * r + 98 → w x = v x) (hc : gc v r ≤ 30) (hn : gNom v r) : gNom w r := by
  have e1 : gp w r = gp v r := by unfold gp; rw [h _ (by omega) (by omega)]
  have e2 : gl w r = gl v r := by unfold gl; rw [h _ (by omega) (by omega)]
  have e3 : gc w r = gc v r := by unfold gc; rw [h _ (by omega) (by omega)]
  unfold gNom
  rw [e1, e2, e3]
  intro hp
  obtain ⟨n1, n2, n3⟩ := hn hp
  refine ⟨by rw [h _ (by omega) (by omega)]; exact n1, fun i hi => ?_, fun q => ?_⟩
  · rw [h _ (by omega) (by omega)]; exact n2 i hi
  · rw [h _ (by omega) (by omega)]; exact n3 q
/-- what stays over the steps of the law: breaks counted, nominals -/
def Inv (b : Nat) (G : gS) : Prop := (∃ k, k ≤ b ∧ G.1 593 = nI k) ∧ ∀ s, s < 6 → gNom G.1 s
def StG (G G' : gS) : Prop := (G'.1 = G.1 ∧ G'.2.1 = G.2.1 ∧ G'.2.2.1 = G.2.2.1) ∨ (G'.2.1 = nTu G.2.1 ∧ G'.2.2.1 = vRec G.2.2.1 G.1 G.2.1)
theorem Inv_s {b : Nat} {G : gS} (h : Inv b G) : Inv (b + 1) G := by
  obtain ⟨⟨k, k1, k2⟩, h2⟩ := h
  exact ⟨⟨k, by omega, k2⟩, h2⟩
theorem StG_A {G : gS} {v' : Nat → Int32} : StG G (gA G v') := Or.inr ⟨rfl, rfl⟩
theorem StG_0 {G : gS} : StG G G := Or.inl ⟨rfl, rfl, rfl⟩
/-! winding -/
/-- what stays of a row over rewinds of the spool s -/
def Wk (v w : Nat → Int32) (s : Nat) : Prop := (∀ x, x < 588 → ¬ (98 * s ≤ x ∧ x < 98 * s + 36) → w x = v x) ∧ w 588 = v 588 ∧ w 589 = v 589 ∧ w 591 = v 591 ∧ ∃ n, n ≤ 10 ∧ w 595 = nI n
theorem Wk_tr {v w z : Nat → Int32} {s : Nat} (h : Wk v w s) (h2 : Wk w z s) : Wk v z s := by
  obtain ⟨a1, a2, a3, a4, a5⟩ := h
  obtain ⟨b1, b2, b3, b4, b5⟩ := h2
  exact ⟨fun x hx hx2 => by rw [b1 x hx hx2, a1 x hx hx2], by rw [b2, a2], by rw [b3, a3], by rw [b4, a4], b5⟩
theorem lnx_b {n : Nat} (h : n ≤ 10) : lnx n ≤ 10 ∧ 1 ≤ lnx n := by unfold lnx; split <;> omega
theorem r1_f {v : Nat → Int32} {s u : Nat} (hs : s < 6) (hN : gn v s ≤ 32) (hl : gln v ≤ 10) (hl2 : v 595 = nI (gln v)) :
    Wk v (gR1 v s u) s ∧ gR1 v s u (98 * s) = v (98 * s) ∧ gR1 v s u (98 * s + 1) = v (98 * s + 1) ∧ gR1 v s u (98 * s + 2) = v (98 * s + 2) ∧ gR1 v s u (98 * s + 3) = v (98 * s + 3) + 1 ∧ gR1 v s u 590 = v 590 + (10 - nI u) ∧ gR1 v s u 592 = v 592 + 1 ∧ gR1 v s u 593 = v 593 ∧ gR1 v s u 594 = v 594 ∧ gR1 v s u 595 = nI (lnx (gln v)) ∧ aEvent (gR1 v s u) 0 0 = 1 ∧ aEvent (gR1 v s u) 0 2 = nI u := by
  unfold gR1 vR1
  have h5 : ∀ z : Nat → Int32, (∀ x, x = 595 → z x = v x) → z 595 = nI (gln v) := fun z hz => by rw [hz _ rfl]; exact hl2
  have h6 := h5 (vU (vU (vU (vSt v s (nI u) (gn v s) (gn v s)) (98 * s + 3) (v (98 * s + 3) + 1)) 590 (v 590 + (10 - nI u))) 592 (v 592 + 1)) (fun x hx => by
    subst hx
    simp (disch := omega) only [u_ne, vSt_o])
  obtain ⟨e0, e1, e2⟩ := ev_0 (kd := 1) (sp := nI s) (nu := nI u) h6 hl
  refine ⟨⟨fun x hx hx2 => ?_, ?_, ?_, ?_, lnx (gln v), (lnx_b hl).1, vTl_n h6 hl⟩, ?_, ?_, ?_, ?_, ?_, ?_, ?_, ?_, vTl_n h6 hl, e0, e2⟩
  all_goals simp (disch := omega) only [vTl_o, u_ne, u_eq, vSt_o]
theorem r2_f {v : Nat → Int32} {s u : Nat} (hs : s < 6) (hc : gc v s ≤ 30) (hcl : gl v s ≤ 1) (hl : gln v ≤ 10) (hl2 : v 595 = nI (gln v)) (hno : ¬ gOk v s u) :
    Wk v (gR2 v s u) s ∧ gR2 v s u (98 * s + 1) = 0 ∧ gR2 v s u (98 * s + 3) = v (98 * s + 3) + 1 ∧ gR2 v s u 590 = v 590 + (10 - nI u) ∧ gR2 v s u 592 = v 592 + 1 ∧ gR2 v s u 593 = v 593 + 1 ∧ aEvent (gR2 v s u) 0 0 = 2 ∧ aEvent (gR2 v s u) 1 2 = nI u ∧
      ∃ p c', p ≤ 1 ∧ c' ≤ gc v s ∧ gR2 v s u (98 * s) = nI p ∧ gR2 v s u (98 * s + 2) = nI c' ∧ gR2 v s u 594 = v 594 + nI (gc v s - c') ∧ (p = 0 → c' = 0) := by
  have hN : gn v s ≤ 32 := by unfold gn; omega
  obtain ⟨⟨a1, a2, a3, a4, a5⟩, b1, b2, b3, b4, b5, b6, b7, b8, b9, b10, b11⟩ := r1_f (u := u) hs hN hl hl2
  have hf := fB_le (vBd v s (nI u) (gn v s)) (gn v s) (gn v s) (Nat.le_refl _)
  have hf2 : fB (vBd v s (nI u) (gn v s)) (gn v s) (gn v s) < gn v s := by
    have := hf.1
    have h2 : ¬ fB (vBd v s (nI u) (gn v s)) (gn v s) (gn v s) = gn v s := hno
    omega
  unfold gR2 vR2
  generalize fB (vBd v s (nI u) (gn v s)) (gn v s) (gn v s) = f at hf2 ⊢
  generalize gR1 v s u = r at *
  obtain ⟨l1, l2⟩ := lnx_b hl
  generalize lnx (gln v) = ln at *
  unfold gn at hf2
  generalize gc v s = c at *
  generalize gl v s = cl at *
  have h6 : (vU (vU r 593 (r 593 + 1)) 594 (r 594 + (if f = c + cl ∧ cl = 1 then 0 else nI (c - (if f = 0 then 0 else f - 1))))) 595 = nI ln := by
    rw [u_ne (by omega), u_ne (by omega)]; exact b9
  have hc5 : ∀ (w : Nat → Int32) (p q t : Int32) (e k : Nat), aEvent (vU (vU (vU w (98 * s) p) (98 * s + 1) q) (98 * s + 2) t) e k = aEvent w e k := by
    intro w p q t e k
    exact ev_cong (fun x hx => by rw [u_ne (by omega), u_ne (by omega), u_ne (by omega)]) e k
  refine ⟨⟨fun x hx hx2 => ?_, ?_, ?_, ?_, lnx ln, (lnx_b l1).1, ?_⟩, ?_, ?_, ?_, ?_, ?_, ?_, ?_, (if f = 0 then 0 else 1), (if c < f then c else if f = 0 then 0 else f - 1), ?_, ?_, ?_, ?_, ?_, ?_⟩
  · simp (disch := omega) only [vTl_o, u_ne]; exact a1 x hx hx2
  · simp (disch := omega) only [vTl_o, u_ne]; exact a2
  · simp (disch := omega) only [vTl_o, u_ne]; exact a3
  · simp (disch := omega) only [vTl_o, u_ne]; exact a4
  · rw [u_ne (by omega), u_ne (by omega), u_ne (by omega)]; exact vTl_n h6 l1
  · simp (disch := omega) only [u_ne, u_eq]
  · simp (disch := omega) only [vTl_o, u_ne]; exact b4
  · simp (disch := omega) only [vTl_o, u_ne]; exact b5
  · simp (disch := omega) only [vTl_o, u_ne]; exact b6
  · simp (disch := omega) only [vTl_o, u_ne, u_eq]; rw [b7]
  · rw [hc5]; exact (ev_0 h6 l1).1
  · rw [hc5, ev_1 h6 l1 l2 (by omega)]
    rw [← b11]
    exact ev_cong (fun x hx => by rw [u_ne (by omega), u_ne (by omega)]) 0 2
  · split <;> omega
  · split
    · omega
    · split <;> omega
  · simp (disch := omega) only [u_ne, u_eq]
    split <;> rfl
  · simp (disch := omega) only [u_eq]
  · simp (disch := omega) only [vTl_o, u_ne, u_eq]
    rw [b8]
    congr 1
    by_cases z1 : f = c + cl ∧ cl = 1
    · rw [if_pos z1, if_pos (by omega), Nat.sub_self]; rfl
    · rw [if_neg z1, if_neg (show ¬ c < f by omega)]
  · intro q
    by_cases z : f = 0
    · rw [if_neg (by omega), if_pos z]
    · rw [if_neg z] at q; omega
theorem wAft_W (s u : Nat) : ∀ (d ti : Nat) (v : Nat → Int32), (wWind s u d ti v).2 = wAft s u (d + 1) v := by
  intro d
  induction d with
  | zero =>
    intro ti v
    by_cases h : gOk v s u
    · rw [wAft_ok h, wWind]
      rw [if_pos (show fB (vBd v s (nI u) (gn v s)) (gn v s) (gn v s) = gn v s from h)]
      rfl
    · rw [wAft_no h, wWind]
      rw [if_neg (show ¬ fB (vBd v s (nI u) (gn v s)) (gn v s) (gn v s) = gn v s from h)]
      rfl
  | succ d ih =>
    intro ti v
    by_cases h : gOk v s u
    · rw [wAft_ok h, wWind]
      rw [if_pos (show fB (vBd v s (nI u) (gn v s)) (gn v s) (gn v s) = gn v s from h)]
      exact ih (ti + 1) (gR1 v s u)
    · rw [wAft_no h, wWind]
      rw [if_neg (show ¬ fB (vBd v s (nI u) (gn v s)) (gn v s) (gn v s) = gn v s from h)]
      rfl
/-- what a winding leaves -/
def WA (v w : Nat → Int32) (s u m : Nat) : Prop := Wk v w s ∧ w (98 * s + 3) = v (98 * s + 3) + nI m ∧ w 590 = v 590 + (10 - nI u) * nI m ∧ w 592 = v 592 + nI m
def WB (v w : Nat → Int32) (s u : Nat) : Prop := w (98 * s) = v (98 * s) ∧ w (98 * s + 1) = v (98 * s + 1) ∧ w (98 * s + 2) = v (98 * s + 2) ∧ w 593 = v 593 ∧ w 594 = v 594 ∧ aEvent w 0 0 = 1 ∧ aEvent w 0 2 = nI u
def WC (v w : Nat → Int32) (s u : Nat) : Prop := w (98 * s + 1) = 0 ∧ w 593 = v 593 + 1 ∧ aEvent w 0 0 = 2 ∧ aEvent w 1 2 = nI u ∧ ∃ p c', p ≤ 1 ∧ c' ≤ gc v s ∧ w (98 * s) = nI p ∧ w (98 * s + 2) = nI c' ∧ w 594 = v 594 + nI (gc v s - c') ∧ (p = 0 → c' = 0)
theorem WA_s {v r w : Nat → Int32} {s u m : Nat} (hk : Wk v r s) (h3 : r (98 * s + 3) = v (98 * s + 3) + 1) (h0 : r 590 = v 590 + (10 - nI u)) (h2 : r 592 = v 592 + 1) (h : WA r w s u m) : WA v w s u (m + 1) := by
  obtain ⟨a1, a2, a3, a4⟩ := h
  have e : nI (m + 1) = 1 + nI m := by rw [show (1 : Int32) = nI 1 from rfl, n_add, Nat.add_comm]
  refine ⟨Wk_tr hk a1, ?_, ?_, ?_⟩
  · rw [a2, h3, e, Int32.add_assoc]
  · rw [a3, h0, e, Int32.mul_add, Int32.mul_one, Int32.add_assoc]
  · rw [a4, h2, e, Int32.add_assoc]
theorem wind_f {s u : Nat} (hs : s < 6) : ∀ (d ti : Nat) (v : Nat → Int32), gc v s ≤ 30 → gl v s ≤ 1 → gln v ≤ 10 → v 595 = nI (gln v) →
    (((wWind s u d ti v).1 = ti + d ∧ WA v (wWind s u d ti v).2 s u (d + 1) ∧ WB v (wWind s u d ti v).2 s u) ∨
     ∃ e, e ≤ d ∧ (wWind s u d ti v).1 = ti + e ∧ WA v (wWind s u d ti v).2 s u (e + 1) ∧ WC v (wWind s u d ti v).2 s u ∧ ∀ c y nb dd t, wSafe s u c y nb dd t v ≤ t + e) := by
  have one : ∀ (x : Int32), x * nI 1 = x := fun x => Int32.mul_one x
  have safe0 : ∀ v, ¬ gOk v s u → ∀ c y nb dd t, wSafe s u c y nb dd t v ≤ t + 0 := by
    intro v h c y nb dd t
    cases dd with
    | zero => exact Nat.le_refl _
    | succ dd => unfold wSafe; rw [if_neg h]; omega
  have brk : ∀ (v : Nat → Int32), gc v s ≤ 30 → gl v s ≤ 1 → gln v ≤ 10 → v 595 = nI (gln v) → ¬ gOk v s u → WA v (gR2 v s u) s u 1 ∧ WC v (gR2 v s u) s u := by
    intro v h1 h2 h3 h4 h
    obtain ⟨a1, a2, a3, a4, a5, a6, a7, a8, a9⟩ := r2_f (u := u) hs h1 h2 h3 h4 h
    exact ⟨⟨a1, a3, by rw [one]; exact a4, a5⟩, a2, a6, a7, a8, a9⟩
  intro d
  induction d with
  | zero =>
    intro ti v h1 h2 h3 h4
    by_cases h : gOk v s u
    · have e : wWind s u 0 ti v = (ti, gR1 v s u) := if_pos (show fB (vBd v s (nI u) (gn v s)) (gn v s) (gn v s) = gn v s from h)
      rw [e]
      obtain ⟨a1, b1, b2, b3, b4, b5, b6, b7, b8, b9, b10, b11⟩ := r1_f (u := u) hs (by unfold gn; omega) h3 h4
      exact Or.inl ⟨rfl, ⟨a1, b4, by rw [one]; exact b5, b6⟩, b1, b2, b3, b7, b8, b10, b11⟩
    · have e : wWind s u 0 ti v = (ti, gR2 v s u) := if_neg (show ¬ fB (vBd v s (nI u) (gn v s)) (gn v s) (gn v s) = gn v s from h)
      rw [e]
      obtain ⟨q1, q2⟩ := brk v h1 h2 h3 h4 h
      exact Or.inr ⟨0, Nat.le_refl _, rfl, q1, q2, safe0 v h⟩
  | succ d ih =>
    intro ti v h1 h2 h3 h4
    by_cases h : gOk v s u
    · have e : wWind s u (d + 1) ti v = wWind s u d (ti + 1) (gR1 v s u) := if_pos (show fB (vBd v s (nI u) (gn v s)) (gn v s) (gn v s) = gn v s from h)
      rw [e]
      obtain ⟨a1, b1, b2, b3, b4, b5, b6, b7, b8, b9, b10, b11⟩ := r1_f (u := u) hs (by unfold gn; omega) h3 h4
      obtain ⟨l1, l2⟩ := lnx_b h3
      have g1 : gc (gR1 v s u) s = gc v s := by unfold gc; rw [b3]
      have g2 : gl (gR1 v s u) s = gl v s := by unfold gl; rw [b2]
      have g3 : gln (gR1 v s u) = lnx (gln v) := gln_of b9 l1
      rcases ih (ti + 1) (gR1 v s u) (by omega) (by omega) (by omega) (by rw [g3]; exact b9) with ⟨c1, c2, c3⟩ | ⟨e, e1, c1, c2, c3, c4⟩
      · obtain ⟨k1, k2, k3, k4, k5, k6, k7⟩ := c3
        exact Or.inl ⟨by rw [c1]; omega, WA_s a1 b4 b5 b6 c2, by rw [k1, b1], by rw [k2, b2], by rw [k3, b3], by rw [k4, b7], by rw [k5, b8], k6, k7⟩
      · obtain ⟨k1, k2, k3, k4, p, c', k5, k6, k7, k8, k9, k10⟩ := c3
        refine Or.inr ⟨e + 1, by omega, by rw [c1]; omega, WA_s a1 b4 b5 b6 c2, ⟨k1, by rw [k2, b7], k3, k4, p, c', k5, by omega, k7, k8, by rw [k9, b8, g1], k10⟩, ?_⟩
        intro c y nb dd t
        cases dd with
        | zero => show t ≤ _; omega
        | succ dd =>
          unfold wSafe
          rw [if_pos h]
          split
          · have := c4 c y nb dd (t + 1); omega
          · omega
    · have e : wWind s u (d + 1) ti v = (ti, gR2 v s u) := if_neg (show ¬ fB (vBd v s (nI u) (gn v s)) (gn v s) (gn v s) = gn v s from h)
      rw [e]
      obtain ⟨q1, q2⟩ := brk v h1 h2 h3 h4 h
      exact Or.inr ⟨0, by omega, rfl, q1, q2, safe0 v h⟩
