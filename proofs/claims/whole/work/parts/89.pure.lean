/-! THE WHOLE -/
theorem whole_pure {G : Nat → Nat} {h0 : Nat → Option AO} {L : Nat} {xs : Nat → Int32} (hL : L ≤ 2560) (h : StartH G h0 L xs) : PureOK G h0 := by
  sorry
