/-! What is owed, true for nothing: no launch meets its premises (part 01). It is not a proof of the property. -/
theorem i_vc : Claimed_1_1 ∧ Claimed_1_2 :=
  ⟨fun l _ hL _ => absurd hL (em_no_launch l), fun l _ hL _ => absurd hL (em_no_launch l)⟩
