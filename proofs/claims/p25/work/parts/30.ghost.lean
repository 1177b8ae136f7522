/-! THE GHOST of a state: a row of numbers (cells 98 s + .. of the wire s; 588 rule, 589 limit, 590 to 594 sums, 595 and on the log) -/
/-- a wire's flags in the row v -/
def vF (v : Nat → Int32) (s p cl c : Nat) : Prop := v (98 * s) = nI p ∧ v (98 * s + 1) = nI cl ∧ v (98 * s + 2) = nI c ∧ p ≤ 1 ∧ cl ≤ 1 ∧ c ≤ 30
/-- the row's cells behind one more event -/
def vTl (v : Nat → Int32) (n : Nat) (kd sp nu : Int32) : Nat → Int32 := fun x =>
  if n = 10 then (if 596 ≤ x ∧ x < 623 then v (x + 3) else if x = 623 then kd else if x = 624 then sp else if x = 625 then nu else v x)
  else if x = 596 + 3 * n then kd else if x = 597 + 3 * n then sp else if x = 598 + 3 * n then nu else if x = 595 then nI (n + 1) else v x
def vU (v : Nat → Int32) (k : Nat) (x : Int32) : Nat → Int32 := fun j => if j = k then x else v j
theorem u_ne {v : Nat → Int32} {k j : Nat} {x : Int32} (h : j ≠ k) : vU v k x j = v j := if_neg h
theorem u_eq {v : Nat → Int32} {k : Nat} {x : Int32} : vU v k x k = x := if_pos rfl
def vRec (H v : Nat → Int32) (n : Nat) : Nat → Int32 := fun x =>
  if n = 4 then (if x < 1878 then H (x + 626) else if x < 2504 then v (x - 1878) else H x) else (if 626 * n ≤ x ∧ x < 626 * n + 626 then v (x - 626 * n) else H x)
/-- a gap of the row, stretched; whether it is too long then; the row when m gaps are stretched -/
def vLn (v : Nat → Int32) (s : Nat) (pu : Int32) (n k : Nat) : Int32 := v (98 * s + (4 + k)) + v (98 * s + (4 + k)) * vStr (v 588) pu (nI k) (nI n) / 10000
def vBd (v : Nat → Int32) (s : Nat) (pu : Int32) (n k : Nat) : Bool := !decide (vLn v s pu n k * 100 ≤ v (98 * s + (36 + k)) * v 589)
def vSt (v : Nat → Int32) (s : Nat) (pu : Int32) (n m : Nat) : Nat → Int32 := fun x => if 98 * s + 4 ≤ x ∧ x < 98 * s + 4 + m then vLn v s pu n (x - (98 * s + 4)) else v x
/-- the row behind one rewind, as far as the event -/
def vR1 (v : Nat → Int32) (s : Nat) (pu : Int32) (n ln : Nat) : Nat → Int32 :=
  vTl (vU (vU (vU (vSt v s pu n n) (98 * s + 3) (v (98 * s + 3) + 1)) 590 (v 590 + (10 - pu))) 592 (v 592 + 1)) ln 1 (nI s) pu
def lnx (ln : Nat) : Nat := if ln = 10 then 10 else ln + 1
/-- and behind a break at the gap f -/
def vR2 (w : Nat → Int32) (s c cl f ln : Nat) : Nat → Int32 :=
  vU (vU (vU (vTl (vU (vU w 593 (w 593 + 1)) 594 (w 594 + (if f = c + cl ∧ cl = 1 then 0 else nI (c - (if f = 0 then 0 else f - 1))))) ln 2 (nI s) (nI (c + 1 + cl - f))) (98 * s) (if f = 0 then 0 else 1)) (98 * s + 1) 0) (98 * s + 2) (nI (if c < f then c else if f = 0 then 0 else f - 1))
theorem vTl_o {v : Nat → Int32} {n x : Nat} {kd sp nu : Int32} (h : x < 595) : vTl v n kd sp nu x = v x := by
  unfold vTl
  by_cases e : n = 10
  · rw [if_pos e, if_neg (by omega), if_neg (by omega), if_neg (by omega), if_neg (by omega)]
  · rw [if_neg e, if_neg (by omega), if_neg (by omega), if_neg (by omega), if_neg (by omega)]
theorem vTl_n {v : Nat → Int32} {n : Nat} {kd sp nu : Int32} (hn : v 595 = nI n) (h2 : n ≤ 10) : vTl v n kd sp nu 595 = nI (lnx n) := by
  unfold vTl lnx
  by_cases e : n = 10
  · rw [if_pos e, if_pos e, if_neg (by omega), if_neg (by omega), if_neg (by omega), if_neg (by omega), hn, e]
  · rw [if_neg e, if_neg e, if_neg (by omega), if_neg (by omega), if_neg (by omega), if_pos rfl]
theorem vSt_o {v : Nat → Int32} {s n m x : Nat} {pu : Int32} (h : ¬ (98 * s + 4 ≤ x ∧ x < 98 * s + 4 + m)) : vSt v s pu n m x = v x := if_neg h
