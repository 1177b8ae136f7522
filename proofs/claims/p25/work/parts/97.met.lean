/-! THE BODY of a method, by the length of its run; THE CONTRACTS, by rank -/
section BDY
variable {p : Program} {l : Launch} {e : Env} {R : Room} {s : State} {m : MethodId} {args : Array Value} {below : List Frame} {meth : Method} {c : Code} {Q : State → Prop}
set_option maxHeartbeats 4000000 in
theorem snd_body {z n0 s0 : Nat} {G : mG} (hC : gChk) (hz : kAll z = true) (X : gCx p R s m args meth c G z n0) (IH : ∀ a, a < 107 → mRk a < mRk z → gMet l G a) : ∀ (f : Nat) (is : List mIns) (L st : List Value) (h : mH) (r : Option Value × mH), mR f z is L st h = some r → (∀ v ∈ st, mIV v) →
    ∀ (pc : Nat) (ls : Array Slot) (H : Heap) (locs : List Loc) (cells slots : Nat), kBlk z pc is = true → lv_has ls (mN z) (gLs G L) → gHp G h s H locs → h.1.1 = n0 + cells → h.1.2.1 = s0 + slots → r.2.1.1 ≤ n0 + R.cells → r.2.1.2.1 ≤ s0 + R.slots →
    (∀ (H1 : Heap) (locs1 : List Loc) (cells1 slots1 pc1 : Nat) (ls1 : Array Slot), gHp G r.2 s H1 locs1 → r.2.1.1 = n0 + cells1 → r.2.1.2.1 = s0 + slots1 →
      ((r.1 = none ∧ decode (mC z) pc1 = .ok (.return_, 1) ∧ mT z = none) ∨ (∃ (x v : Int32), r.1 = some (.int x) ∧ decode (mC z) pc1 = .ok (.ireturn, 1) ∧ mNar v x = true ∧ mT z = some (if v = 0 then .int else if v = 1 then .boolean else if v = 2 then .byte else .char)) ∨ (∃ x : Int64, r.1 = some (.long x) ∧ decode (mC z) pc1 = .ok (.lreturn, 1) ∧ mT z = some .long)) →
      W p l e R s m args below meth c H1 locs1 cells1 slots1 Q (F0 m pc1 ls1 (r.1.toList.map (gV G)))) →
    W p l e R s m args below meth c H locs cells slots Q (F0 m pc ls (st.map (gV G))) := by
  intro f
  induction f with
  | zero => intro is L st h r hr; cases hr
  | succ f ih =>
    intro is L st h r hr hst pc ls H locs cells slots hk hl hp hc hsl hcR hsR hend
    cases is with
    | nil => rw [mR_nil] at hr; cases hr
    | cons i is =>
      have ok : mOK G h := hp.2.2.2
      rw [mR_succ] at hr
      generalize hw : mStep mRc i L st h = w at hr
      rcases w with ⟨L', st', h'⟩ | ⟨t, L', st'⟩ | ⟨v, h'⟩ | (_ | ⟨a, as, st'⟩)
      · obtain ⟨⟨o1, o2, o3⟩, o4⟩ := mStep_inv hw ok hst
        obtain ⟨n1, n2⟩ := kEnd_nx hw
        obtain ⟨k1, k2, k3⟩ := kBlk_cons hk n2
        have k3 : kBlk z (pc + kLen i) is = true := k3.resolve_left (by rw [n1]; decide)
        obtain ⟨i1, i2, i3, -⟩ := mR_inv (G := G) _ _ _ _ _ _ _ hr o1 o4
        dsimp only at hr i2 i3
        refine snd_nx (s0 := s0) X hw k1 k2 hl hp hc hsl (by omega) (by omega) hst (fun ls' H' locs' cells' slots' g1 g2 g3 g4 => ?_)
        exact ih is L' st' h' r hr o4 _ ls' H' locs' cells' slots' k3 g1 g2 g3 g4 hcR hsR hend
      · obtain ⟨rfl, o4⟩ := mStep_jp hw hst
        dsimp only at hr
        refine snd_jp X.1 X.2.1 hw hk ?_
        rcases mB_chk (t := t) hz with q | q
        · rw [q, mR_nil] at hr; cases hr
        · exact ih _ L' st' h r hr o4 t ls H locs cells slots q hl hp hc hsl hcR hsR hend
      · cases hr
        obtain ⟨rfl, q⟩ := mStep_rt hw
        rcases q with ⟨q1, q2, q3⟩ | ⟨x, q1, q2, q3, q4⟩ | ⟨x, q1, q2, q3⟩
        · obtain ⟨ins, a, b, w⟩ := i
          dsimp only at q2
          subst q2; subst q3; subst q1
          obtain ⟨k1, k2, -⟩ := kBlk_cons hk rfl
          simp only [kIns, decide_eq_true_eq] at k2
          exact hend H locs cells slots pc ls hp hc hsl (Or.inl ⟨rfl, k1, k2⟩)
        · obtain ⟨ins, a, b, w⟩ := i
          dsimp only at q2 q4
          subst q2; subst q3; subst q1
          obtain ⟨k1, k2, -⟩ := kBlk_cons hk rfl
          simp only [kIns, decide_eq_true_eq] at k2
          exact hend H locs cells slots pc ls hp hc hsl (Or.inr (Or.inl ⟨x, w, rfl, k1, q4, k2⟩))
        · obtain ⟨ins, a, b, w⟩ := i
          dsimp only at q2
          subst q2; subst q3; subst q1
          obtain ⟨k1, k2, -⟩ := kBlk_cons hk rfl
          simp only [kIns, decide_eq_true_eq] at k2
          exact hend H locs cells slots pc ls hp hc hsl (Or.inr (Or.inr ⟨x, rfl, k1, k2⟩))
      · cases hr
      · dsimp only at hr
        cases hcl : mR f a (mB a 0) (as ++ List.replicate (mN a - as.length) .null) [] h with
        | none => rw [hcl] at hr; cases hr
        | some q =>
          rw [hcl] at hr
          dsimp only at hr
          obtain ⟨a1, a2, a3, a4⟩ := mR_inv (G := G) _ _ _ _ _ _ _ hcl ok (fun v hv => by cases hv)
          obtain ⟨e1, e2, e3, e4, e5, eall, hkd⟩ := mStep_cl hw
          have hst' : ∀ v ∈ q.1.toList ++ st', mIV v := by
            intro v hv
            rcases List.mem_append.mp hv with w | w
            · rcases a4 with e | ⟨x, e⟩ | ⟨x, e⟩ <;> rw [e] at w
              · cases w
              · rw [Option.toList_some, List.mem_singleton] at w; rw [w]; exact jv_i
              · rw [Option.toList_some, List.mem_singleton] at w; rw [w]; exact jv_l
            · rw [e3] at w; exact tk_mem hst v w
          obtain ⟨i1, i2, i3, -⟩ := mR_inv (G := G) _ _ _ _ _ _ _ hr a1 hst'
          have hne : kNop i = false ∧ kEnd i = false := by
            obtain ⟨ins, a', b, v⟩ := i
            rcases hkd with ⟨k, _, _, hi, _⟩ | ⟨k, _, _, hi, _⟩ | ⟨k, hi, _⟩ <;> (dsimp only at hi; subst hi; exact ⟨rfl, rfl⟩)
          obtain ⟨k1, k2, k3⟩ := kBlk_cons hk hne.1
          have k3 : kBlk z (pc + kLen i) is = true := k3.resolve_left (by rw [hne.2]; decide)
          refine snd_cl (s0 := s0) hC X IH hw k1 k2 hcl hl hp hc hsl (by omega) (by omega) hst (fun H' locs' cells' slots' g2 g3 g4 => ?_)
          exact ih is L _ q.2 r hr hst' _ ls H' locs' cells' slots' k3 hl g2 g3 g4 hcR hsR hend
end BDY
theorem lg_len {G : mG} (hF : gF G = .null ∨ ∃ t, gF G = .ref t) : ∀ (as : List Value), (∀ v ∈ as, mIR v) → (lg_sl (as.map (gV G))).length = as.length := by
  intro as
  induction as with
  | nil => intro _; rfl
  | cons a as ih =>
    intro h
    have h1 : ¬ (gV G a).category = 2 := by rw [gV_cat hF (h a List.mem_cons_self)]; decide
    have h2 := ih (fun v hv => h v (List.mem_cons_of_mem _ hv))
    unfold lg_sl at h2 ⊢
    rw [List.map_cons, List.flatMap_cons, if_neg h1, List.length_append, h2, List.length_cons]
    simp; omega
set_option maxHeartbeats 4000000 in
theorem gMet_step {l : Launch} {G : mG} {z : Nat} (hC : gChk) (hz : z < 107) (IH : ∀ a, a < 107 → mRk a < mRk z → gMet l G a) : gMet l G z := by
  intro f as h r hr hlen ok has
  obtain ⟨d1, d2, d3, d4, d5, d6, d7, d8, d9⟩ := w_nm z hz
  refine Met.ofW (cc := mC z) (maxL := mN z) (ret := mT z) d2 rfl ?_
  intro p e s m args below meth c s₁ B hml hv
  obtain ⟨rfl, hsz, hP, hD, hK, hE⟩ := hv
  have hF := hE.2.2.2.2.1
  have hx := B.exec
  have hb := B.bytes
  have hrt := B.returns
  have hlocks := B.notSynchronized
  have hts := atoms_spec (ws := .code (mY z) (mC z) (mN z) (mT z) :: aw) B.pre
  have hown : s.vm.findClass (mY z).cls = some m.cls := findClass_of_methodNamed B.named
  rw [d1] at hown
  have X : gCx p (headSpec (.code (mY z) (mC z) (mN z) (mT z) :: aw) { frames := mRk z, cells := r.2.1.1 - h.1.1, slots := r.2.1.2.1 - h.1.2.1, locals := mLo z }).room s m (as.map (gV G)).toArray meth c G z h.1.1 :=
    ⟨hx, hb, hml, hown, fun w hw => hts w (List.mem_cons_of_mem _ hw), hK, hE, Nat.le_refl _, Nat.le_refl _, fun q => by rw [(name_of_methodNamed B.named B.method).1]; exact (d7 q).1, hsz⟩
  have hl := lv_entry (as.map (gV G)) (n := mN z) (by rw [lg_len hF as has, hlen]; exact d6)
  rw [lg_entry_eq]
  generalize (lg_sl (as.map (gV G)) ++ List.replicate (mN z - (lg_sl (as.map (gV G))).length) Slot.unset).toArray = ls at hl ⊢
  have hl := gLs_entry (n := mN z - as.length) hF has hl
  obtain ⟨i1, i2, i3, i4⟩ := mR_inv (G := G) _ _ _ _ _ _ _ hr ok (fun v hv => by cases hv)
  have hblk : kBlk z 0 (mB z 0) = true := by
    rcases mB_chk (t := 0) (hC z hz).2 with q | q
    · rw [q, mR_nil] at hr; cases hr
    · exact q
  refine snd_body (s0 := h.1.2.1) hC (hC z hz).2 X IH f (mB z 0) _ [] h r hr (fun v hv => by cases hv) 0 ls s.heap [] 0 0 hblk hl ⟨hP, hD, va_S.rf, ok⟩ rfl rfl (by show _ ≤ _ + (r.2.1.1 - h.1.1); omega) (by show _ ≤ _ + (r.2.1.2.1 - h.1.2.1); omega) ?_
  intro H1 locs1 cells1 slots1 pc1 ls1 hp1 hc1 hs1 hcase
  obtain ⟨g1, g2, g3, g4⟩ := hp1
  have e1 : r.2.1.1 - h.1.1 = cells1 := by omega
  have e2 : r.2.1.2.1 - h.1.2.1 = slots1 := by omega
  rw [e1, e2]
  have hq : ∀ (t : State), t.heap = H1 → va_P (gD G) vwCl (gW G r.2) t.heap ∧ va_D (gAt G) (gW G r.2) ∧ s.heap.size ≤ t.heap.size ∧ ∀ q : Nat, q < s.heap.size → ¬ gAt G q → t.heap[q]? = s.heap[q]? := fun t ht => by rw [ht]; exact ⟨g1, g2, g3.1, g3.2.1⟩
  rcases hcase with ⟨q1, q2, q3⟩ | ⟨x, v, q1, q2, q3, q4⟩ | ⟨x, q1, q2, q3⟩
  · rw [q1]
    refine W.vret hx hb (by rw [hrt, q3]) (fun t ht hW => ?_) g3.2.2 q2
    exact ⟨by rw [q1]; rfl, hq t ht⟩
  · rw [q1]
    refine W.zret hx hb (by rw [hrt, q4]) (mNar_ok q3) (fun t ht hW => ?_) g3.2.2 q2
    exact ⟨by rw [q1]; rfl, hq t ht⟩
  · rw [q1]
    refine W.lret hx hb (by rw [hrt, q3]) (fun t ht hW => ?_) g3.2.2 q2
    exact ⟨by rw [q1]; rfl, hq t ht⟩
theorem gMet_all {l : Launch} {G : mG} (hC : gChk) : ∀ (d z : Nat), z < 107 → mRk z ≤ d → gMet l G z := by
  intro d
  induction d with
  | zero => intro z hz hd; exact gMet_step hC hz (fun a ha hr => absurd hr (by omega))
  | succ d ih => intro z hz hd; exact gMet_step hC hz (fun a ha hr => ih a ha (by omega))
