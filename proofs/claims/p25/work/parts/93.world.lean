/-! how the worlds of rows and the pictures fit -/
theorem gFs_len {G : mG} {c : Nat} {r : Nat → Option Nat} {i : Nat → Int32} : (gFs G c r i).length = mNf c := by rw [gFs, List.length_map, List.length_range]
theorem gFs_at {G : mG} {c b : Nat} {r : Nat → Option Nat} {i : Nat → Int32} (hb : b < mNf c) : (gFs G c r i)[b]? = some (if mFk c b = 2 then va_rf ((r b).map (fun q => gB G + q)) else .int (i b)) := by
  rw [gFs, List.getElem?_map, List.getElem?_range hb]; rfl
theorem gFs_set {G : mG} {c b : Nat} {r r' : Nat → Option Nat} {i i' : Nat → Int32} {v : Value} (hb : b < mNf c) (hv : v = (if mFk c b = 2 then va_rf ((r' b).map (fun q => gB G + q)) else .int (i' b))) (ho : ∀ j, j ≠ b → r' j = r j ∧ i' j = i j) : (gFs G c r i).set b v = gFs G c r' i' := by
  apply List.ext_getElem?
  intro j
  by_cases hj : j = b
  · subst hj
    rw [List.getElem?_set_self (by rw [gFs_len]; exact hb), gFs_at hb, hv]
  · rw [List.getElem?_set_ne (Ne.symm hj)]
    rcases Nat.lt_or_ge j (mNf c) with q | q
    · rw [gFs_at q, gFs_at q, (ho j hj).1, (ho j hj).2]
    · rw [List.getElem?_eq_none (by rw [gFs_len]; exact q), List.getElem?_eq_none (by rw [gFs_len]; exact q)]
theorem gE_ob {G : mG} {h : mH} {k c : Nat} (e : h.1.2.2.1 k = (1, c)) : gE G h k = .inr (c, gFs G c (h.2.1 k) (h.2.2 k)) := by rw [gE, e]; rfl
theorem gE_ia {G : mG} {h : mH} {k : Nat} (e : (h.1.2.2.1 k).1 = 2) : gE G h k = .inl (gC G 2, (h.1.2.2.1 k).2, .inl (h.2.2 k)) := by
  rw [gE, if_neg (by omega), if_pos e]
theorem gE_ca {G : mG} {h : mH} {k : Nat} (e : (h.1.2.2.1 k).1 = 3) : gE G h k = .inl (gC G 3, (h.1.2.2.1 k).2, .inl (h.2.2 k)) := by
  rw [gE, if_neg (by omega), if_neg (by omega), if_pos e]
theorem gE_ra {G : mG} {h : mH} {k t : Nat} (ht : t = 4 ∨ t = 5) (e : (h.1.2.2.1 k).1 = t) : gE G h k = .inl (gC G t, (h.1.2.2.1 k).2, .inr (.inr (.inr (.inr (fun j => (h.2.1 k j).map (fun q => gB G + q)))))) := by
  rw [gE, if_neg (by omega), if_neg (by omega), if_neg (by omega), e]
theorem gE_congr {G : mG} {h h' : mH} {k : Nat} (hs : h'.1.2.2.1 k = h.1.2.2.1 k) (hr : h'.2.1 k = h.2.1 k) (hi : h'.2.2 k = h.2.2 k) : gE G h' k = gE G h k := by
  rw [gE, gE, hs, hr, hi]
theorem mSet_o {I : Nat → Nat → Int32} {a k : Nat} {x : Int32} {b : Nat} (h : b ≠ a) : mSet I a k x b = I b := by
  funext j
  simp [mSet, h]
theorem mSet_s {I : Nat → Nat → Int32} {a k : Nat} {x : Int32} : mSet I a k x a = fun j => if j = k then x else I a j := by
  funext j
  simp [mSet]
theorem mSetR_o {I : Nat → Nat → Option Nat} {a k : Nat} {x : Option Nat} {b : Nat} (h : b ≠ a) : mSetR I a k x b = I b := by
  funext j
  simp [mSetR, h]
theorem mSetR_s {I : Nat → Nat → Option Nat} {a k : Nat} {x : Option Nat} : mSetR I a k x a = fun j => if j = k then x else I a j := by
  funext j
  simp [mSetR]
theorem mCpy_o {I : Nat → Nat → Int32} {p sp q dp n : Nat} {b : Nat} (h : b ≠ q) : mCpy I p sp q dp n b = I b := by
  funext j
  simp [mCpy, h]
theorem mCpy_s {I : Nat → Nat → Int32} {p sp q dp n : Nat} : mCpy I p sp q dp n q = va_cpy (I p) (I q) sp dp n := by
  funext j
  simp [mCpy, va_cpy]
theorem gW_putI {G : mG} {h : mH} {o a b : Nat} {x : Int32} (ho : o < h.1.1) (hs : h.1.2.2.1 o = (1, a)) (hb : b < mNf a) (hf : ¬ mFk a b = 2) : (gW G h).set o (gB G + o, .inr (a, (gFs G a (h.2.1 o) (h.2.2 o)).set b (.int x))) = gW G (h.1, h.2.1, mSet h.2.2 o b x) := by
  rw [← gW_set (G := G) (h := h) (h' := (h.1, h.2.1, mSet h.2.2 o b x)) rfl ho (fun j hj => gE_congr rfl rfl (mSet_o hj)), gE_ob (h := (h.1, h.2.1, mSet h.2.2 o b x)) hs]
  congr 4
  refine gFs_set hb ?_ (fun j hj => ⟨rfl, ?_⟩)
  · rw [if_neg hf]; simp [mSet]
  · simp [mSet, hj]
theorem gW_putR {G : mG} {h : mH} {o a b q : Nat} (ho : o < h.1.1) (hs : h.1.2.2.1 o = (1, a)) (hb : b < mNf a) (hf : mFk a b = 2) : (gW G h).set o (gB G + o, .inr (a, (gFs G a (h.2.1 o) (h.2.2 o)).set b (.ref (gB G + q)))) = gW G (h.1, mSetR h.2.1 o b (some q), h.2.2) := by
  rw [← gW_set (G := G) (h := h) (h' := (h.1, mSetR h.2.1 o b (some q), h.2.2)) rfl ho (fun j hj => gE_congr rfl (mSetR_o hj) rfl), gE_ob (h := (h.1, mSetR h.2.1 o b (some q), h.2.2)) hs]
  congr 4
  refine gFs_set hb ?_ (fun j hj => ⟨?_, rfl⟩)
  · rw [if_pos hf]; simp [mSetR, va_rf]
  · simp [mSetR, hj]
theorem gW_iast {G : mG} {h : mH} {o k : Nat} {x : Int32} (ho : o < h.1.1) (hs : (h.1.2.2.1 o).1 = 2) : (gW G h).set o (gB G + o, .inl (gC G 2, (h.1.2.2.1 o).2, .inl (upd (h.2.2 o) k x))) = gW G (h.1, h.2.1, mSet h.2.2 o k x) := by
  rw [← gW_set (G := G) (h := h) (h' := (h.1, h.2.1, mSet h.2.2 o k x)) rfl ho (fun j hj => gE_congr rfl rfl (mSet_o hj)), gE_ia (h := (h.1, h.2.1, mSet h.2.2 o k x)) hs]
  have e : mSet h.2.2 o k x o = upd (h.2.2 o) k x := by funext j; simp [upd, mSet]
  show _ = (gW G h).set o (gB G + o, .inl (gC G 2, (h.1.2.2.1 o).2, .inl (mSet h.2.2 o k x o)))
  rw [e]
theorem gW_cast {G : mG} {h : mH} {o k : Nat} {x : Int32} (ho : o < h.1.1) (hs : (h.1.2.2.1 o).1 = 3) : (gW G h).set o (gB G + o, .inl (gC G 3, (h.1.2.2.1 o).2, .inl (upd (h.2.2 o) k x))) = gW G (h.1, h.2.1, mSet h.2.2 o k x) := by
  rw [← gW_set (G := G) (h := h) (h' := (h.1, h.2.1, mSet h.2.2 o k x)) rfl ho (fun j hj => gE_congr rfl rfl (mSet_o hj)), gE_ca (h := (h.1, h.2.1, mSet h.2.2 o k x)) hs]
  have e : mSet h.2.2 o k x o = upd (h.2.2 o) k x := by funext j; simp [upd, mSet]
  show _ = (gW G h).set o (gB G + o, .inl (gC G 3, (h.1.2.2.1 o).2, .inl (mSet h.2.2 o k x o)))
  rw [e]
theorem gW_aast {G : mG} {h : mH} {o k q t : Nat} (ho : o < h.1.1) (ht : t = 4 ∨ t = 5) (hs : (h.1.2.2.1 o).1 = t) : (gW G h).set o (gB G + o, .inl (gC G t, (h.1.2.2.1 o).2, .inr (.inr (.inr (.inr (va_up (fun j => (h.2.1 o j).map (fun q => gB G + q)) k (some (gB G + q)))))))) = gW G (h.1, mSetR h.2.1 o k (some q), h.2.2) := by
  rw [← gW_set (G := G) (h := h) (h' := (h.1, mSetR h.2.1 o k (some q), h.2.2)) rfl ho (fun j hj => gE_congr rfl (mSetR_o hj) rfl), gE_ra (h := (h.1, mSetR h.2.1 o k (some q), h.2.2)) ht hs]
  have e : (fun j => (mSetR h.2.1 o k (some q) o j).map (fun q => gB G + q)) = va_up (fun j => (h.2.1 o j).map (fun q => gB G + q)) k (some (gB G + q)) := by
    funext j
    by_cases e : j = k <;> simp [va_up, mSetR, e]
  show _ = (gW G h).set o (gB G + o, .inl (gC G t, (h.1.2.2.1 o).2, .inr (.inr (.inr (.inr (fun j => (mSetR h.2.1 o k (some q) o j).map (fun q => gB G + q)))))))
  rw [e]
theorem gW_copy {G : mG} {h : mH} {o r sp dp n : Nat} (hr : r < h.1.1) (hs : (h.1.2.2.1 r).1 = 2) : (gW G h).set r (gB G + r, .inl (gC G 2, (h.1.2.2.1 r).2, .inl (va_cpy (h.2.2 o) (h.2.2 r) sp dp n))) = gW G (h.1, h.2.1, mCpy h.2.2 o sp r dp n) := by
  rw [← gW_set (G := G) (h := h) (h' := (h.1, h.2.1, mCpy h.2.2 o sp r dp n)) rfl hr (fun j hj => gE_congr rfl rfl (mCpy_o hj)), gE_ia (h := (h.1, h.2.1, mCpy h.2.2 o sp r dp n)) hs]
  show _ = (gW G h).set r (gB G + r, .inl (gC G 2, (h.1.2.2.1 r).2, .inl (mCpy h.2.2 o sp r dp n r)))
  rw [mCpy_s]
theorem aw_lay {c : Nat} (hc : c < 8) : ∀ w ∈ u_ws (mCN c) (mTT c) (mNf c), w ∈ aw := by
  intro w hw
  refine aw_of (w_lay c hc w hw) ?_
  obtain ⟨k, -, rfl⟩ := List.mem_map.mp hw
  unfold u_lay
  split <;> rfl
section SZ
variable {p : Program} {l : Launch} {e : Env} {R : Room} {s : State} {m : MethodId} {args : Array Value} {below : List Frame} {meth : Method} {c : Code} {H : Heap} {locs : List Loc} {cells slots : Nat} {Q : State → Prop}
theorem W_size {g : JFrame} (kk : H.size ≤ s.heap.size + cells → W p l e R s m args below meth c H locs cells slots Q g) : W p l e R s m args below meth c H locs cells slots Q g := by
  intro T hT X
  have h1 : T.heap.size ≤ s.heap.size + cells := X.same.2.2.1
  exact kk (by rw [← hT]; exact h1) T hT X
end SZ
theorem gHp_size {G : mG} {h : mH} {s : State} {H : Heap} {locs : List Loc} {n0 cells : Nat} (hp : gHp G h s H locs) (h0 : s.heap.size = gB G + n0) (hn : h.1.1 = n0 + cells) (hz : H.size ≤ s.heap.size + cells) : H.size = gB G + h.1.1 := by
  obtain ⟨hP, -, hS, -⟩ := hp
  have h1 := hS.1
  rcases Nat.eq_zero_or_pos h.1.1 with q | q
  · omega
  · have h2 := (hP (h.1.1 - 1) _ (gW_at (G := G) (by omega))).lt
    dsimp only at h2
    omega
