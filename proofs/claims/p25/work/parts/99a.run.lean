/-! the law's walk, out of the small machine's run -/
theorem lawRun_all : lawRun := fun L xs hL => by
  obtain ⟨f, r, h1, h2, h3, h4⟩ := lawRun_ok L xs hL
  exact ⟨f, r, h1, h2, h3, h4⟩
theorem whole_start {p : Program} {e : Env} {s : State} {m : MethodId} {below : List Frame} {meth : Method} {c : Code} {b L : Nat} {xs : Nat → Int32} (l : Launch) (_ : l.flags = flags0) (hL : L ≤ 260) (C0 : lw_At p s m meth c b L xs) : W p l e room_1 s m #[Value.ref b] below meth c s.heap [] 0 0 (lw_Z below #[Value.ref b] s) (entryFrame m ([Value.ref b] : List Value).toArray 16) := law_start w_ck k_law lawRun_all l hL C0
