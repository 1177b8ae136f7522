/-! what a run keeps -/
set_option maxHeartbeats 4000000 in
theorem mStep_inv {G : mG} {rc : Nat → Nat} {i : mIns} {L st L' st' : List Value} {h h' : mH} (hs : mStep rc i L st h = .inl (L', st', h')) (ok : mOK G h) (hst : ∀ v ∈ st, mIR v) : mOK G h' ∧ h.1.1 ≤ h'.1.1 ∧ h.1.2.1 ≤ h'.1.2.1 ∧ ∀ v ∈ st', mIR v := by
  sorry
