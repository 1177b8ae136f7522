/-! an op that leaves the reference's cells alone on the class's side -/
def OPx (c r : Nat) (as : List Value) : Prop := ∀ K R I, REL K R I → ∃ v0 R1 I1, EvM c (.ref 0 :: as) (K, R, I) (fun v k => v = some (.int v0) ∧ k = (K, R1, I1)) ∧ (zM K R1 ∧ ∀ x, 194 ≤ x → I1 x = I x) ∧ ∀ J, SCR I1 J → EvM r (.ref 194 :: as) (K, R1, J) (OPo K v0)
theorem OPx_OP {c r : Nat} {as : List Value} (h : OPx c r as) : OP c r as := fun K R I hrel => by
  obtain ⟨v0, R1, I1, h1, -, h3⟩ := h K R I hrel
  exact ⟨v0, R1, I1, h1, h3⟩
