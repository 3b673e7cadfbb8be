theorem law_pure : LawPure := by
  intro xs L hL
  exact law_p1 xs L hL
