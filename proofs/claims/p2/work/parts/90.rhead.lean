/-! the first four bytes -/
section Hd
variable {lc lm : Nat → Int32} {ls at_ fa pl fl : Int32} {f : Nat}
theorem ihb (x b : Int32) : ∃ r, fX1_isHeadByte x b = some r ∧ (r = 0 ∨ r = 1) := by
  unfold fX1_isHeadByte bX1_isHeadByte_0
  by_cases g0 : x = 0
  · rw [if_pos g0]
    by_cases h : b = 58
    · rw [if_pos h]; exact ⟨_, rfl, Or.inr rfl⟩
    · rw [if_neg h]; exact ⟨_, rfl, Or.inl rfl⟩
  rw [if_neg g0]
  by_cases g1 : x = 1
  · rw [if_pos g1]
    by_cases h : b = 41
    · rw [if_pos h]; exact ⟨_, rfl, Or.inr rfl⟩
    · rw [if_neg h]; exact ⟨_, rfl, Or.inl rfl⟩
  rw [if_neg g1]
  by_cases g2 : x = 2
  · rw [if_pos g2]
    by_cases h : b = 10
    · rw [if_pos h]; exact ⟨_, rfl, Or.inr rfl⟩
    · rw [if_neg h]; exact ⟨_, rfl, Or.inl rfl⟩
  rw [if_neg g2]
  by_cases h : b < 0
  · rw [if_pos h]; exact ⟨_, rfl, Or.inl rfl⟩
  rw [if_neg h]
  by_cases h7 : 7 < b
  · rw [if_pos h7]; exact ⟨_, rfl, Or.inl rfl⟩
  · rw [if_neg h7]; exact ⟨_, rfl, Or.inr rfl⟩
theorem ihm1 (x : Int32) : fX1_isHeadByte x (-1) ≠ some 1 := by
  unfold fX1_isHeadByte bX1_isHeadByte_0
  by_cases g0 : x = 0
  · rw [if_pos g0]; decide
  rw [if_neg g0]
  by_cases g1 : x = 1
  · rw [if_pos g1]; decide
  rw [if_neg g1]
  by_cases g2 : x = 2
  · rw [if_pos g2]; decide
  rw [if_neg g2]; decide
theorem ih3 {b : Int32} (h : fX1_isHeadByte 3 b = some 1) : 0 ≤ b.toInt ∧ b.toInt ≤ 7 := by
  unfold fX1_isHeadByte bX1_isHeadByte_0 at h
  rw [if_neg (by decide), if_neg (by decide), if_neg (by decide)] at h
  by_cases g : b < 0
  · rw [if_pos g] at h; exact absurd (Option.some.inj h) (by decide)
  · rw [if_neg g] at h
    by_cases g7 : 7 < b
    · rw [if_pos g7] at h; exact absurd (Option.some.inj h) (by decide)
    · have z7 : (7 : Int32).toInt = 7 := by decide
      rw [zlt, z0] at g
      rw [zlt, z7] at g7
      omega
theorem chd_step {f0 x : Int32} (hx : x.toInt < 4) (h2 : ls.toInt ≤ 6000) : ∃ f' fa', bX1_scanHead_2 (f + 1) fl at_ f0 fa lc ls x = bX1_scanHead_2 f fl at_ f' fa' lc ls (x + 1) ∧ (f' = 0 ↔ (f0 = 0 ∧ fX1_isHeadByte x (catv lc ls x) = some 1)) := by
  have z4 : (4 : Int32).toInt = 4 := by decide
  obtain ⟨r, e, hr⟩ := ihb x (catv lc ls x)
  rw [bX1_scanHead_2, if_neg (by rw [zle, z4]; omega), cat h2, Option.bind_some, e, Option.bind_some]
  rcases hr with rfl | rfl
  · obtain ⟨f', fa', e1, e2⟩ := jfail (fl := f0) (fa := fa) (c := 1) (w' := x)
    rw [if_pos rfl, e1, Option.bind_some]
    unfold bX1_scanHead_28
    refine ⟨f', fa', rfl, e2.trans ⟨fun h => absurd h.2 (by decide), fun h => absurd (Option.some.inj h.2) (by decide)⟩⟩
  · rw [if_neg (by decide)]
    unfold bX1_scanHead_28
    exact ⟨f0, fa, rfl, fun h => ⟨h, rfl⟩, fun h => h.1⟩
theorem FU5 : FU = 999995 + 1 + 1 + 1 + 1 + 1 := rfl
theorem chead (h2 : ls.toInt ≤ 6000) : ∃ f' fa', fX1_scanHead fl at_ 0 (-1) lc ls = some (catv lc ls 3, 4, f', fa') ∧ (f' = 0 ↔ (fX1_isHeadByte 0 (catv lc ls 0) = some 1 ∧ fX1_isHeadByte 1 (catv lc ls 1) = some 1 ∧ fX1_isHeadByte 2 (catv lc ls 2) = some 1 ∧ fX1_isHeadByte 3 (catv lc ls 3) = some 1)) := by
  unfold fX1_scanHead bX1_scanHead_0
  rw [FU5]
  obtain ⟨f1, a1, e1, c1⟩ := chd_step (f := 999995 + 1 + 1 + 1 + 1) (fl := fl) (at_ := at_) (fa := -1) (lc := lc) (f0 := 0) (x := 0) (by decide) h2
  rw [e1, show (0 : Int32) + 1 = 1 by decide]
  obtain ⟨f2, a2, e2, c2⟩ := chd_step (f := 999995 + 1 + 1 + 1) (fl := fl) (at_ := at_) (fa := a1) (lc := lc) (f0 := f1) (x := 1) (by decide) h2
  rw [e2, show (1 : Int32) + 1 = 2 by decide]
  obtain ⟨f3, a3, e3, c3⟩ := chd_step (f := 999995 + 1 + 1) (fl := fl) (at_ := at_) (fa := a2) (lc := lc) (f0 := f2) (x := 2) (by decide) h2
  rw [e3, show (2 : Int32) + 1 = 3 by decide]
  obtain ⟨f4, a4, e4, c4⟩ := chd_step (f := 999995 + 1) (fl := fl) (at_ := at_) (fa := a3) (lc := lc) (f0 := f3) (x := 3) (by decide) h2
  rw [e4, show (3 : Int32) + 1 = 4 by decide]
  rw [bX1_scanHead_2, if_pos (by decide), cat h2, Option.bind_some]
  refine ⟨f4, a4, rfl, ?_⟩
  rw [c4, c3, c2, c1]
  exact ⟨fun h => ⟨h.1.1.1.2, h.1.1.2, h.1.2, h.2⟩, fun h => ⟨⟨⟨⟨rfl, h.1⟩, h.2.1⟩, h.2.2.1⟩, h.2.2.2⟩⟩
theorem rhd_fault {f2 x : Int32} (h : f2 ≠ 0) : bX7_readHead_2 (f + 1) lm ls at_ fl f2 pl x = some (at_, fl, f2, pl) := by
  rw [bX7_readHead_2]
  by_cases g : 4 ≤ x
  · rw [if_pos g]
  · rw [if_neg g, if_neg h]
theorem rhd_end {x : Int32} (hx : x.toInt < 4) (h : at_ = ls) : bX7_readHead_2 (f + 1) lm ls at_ fl 0 pl x = some (at_, fl, 1, at_) := by
  have z4 : (4 : Int32).toInt = 4 := by decide
  rw [bX7_readHead_2, if_neg (by rw [zle, z4]; omega), if_pos rfl, if_pos h]
  rfl
theorem rhd_step {x b : Int32} (hx0 : 0 ≤ x.toInt) (hx : x.toInt < 4) (h0 : 0 ≤ at_.toInt) (h1 : at_.toInt < ls.toInt) (h2 : ls.toInt ≤ 6000) (hb : lm at_.toInt.toNat &&& 255 = b) : ∃ f' pl', bX7_readHead_2 (f + 1) lm ls at_ fl 0 pl x = bX7_readHead_2 f lm ls (at_ + 1) b f' pl' (x + 1) ∧ ((f' = 0 ∧ pl' = pl ∧ fX1_isHeadByte x b = some 1) ∨ (f' = 1 ∧ fX1_isHeadByte x b ≠ some 1)) := by
  have z4 : (4 : Int32).toInt = 4 := by decide
  have n10 : (some (0 : Int32)) ≠ some 1 := by decide
  have g1 : ∀ K, bX7_readHead_107 K lm ls (at_ + 1) fl 0 pl x b 1 = K lm ls (at_ + 1) b 0 pl (x + 1) := by
    intro K
    unfold bX7_readHead_107 bX7_readHead_125
    rw [if_pos rfl, if_neg (by decide)]
  have g0 : ∀ K, bX7_readHead_107 K lm ls (at_ + 1) fl 0 pl x b 0 = K lm ls (at_ + 1) b 1 x (x + 1) := by
    intro K
    unfold bX7_readHead_107 bX7_readHead_125
    rw [if_pos rfl, if_pos rfl]
    rfl
  rw [bX7_readHead_2, if_neg (by rw [zle, z4]; omega), if_pos rfl, if_neg (by rw [zeq]; omega), rnext_ok h0 h1 h2, Option.bind_some]
  dsimp only
  rw [hb]
  unfold fX1_isHeadByte bX1_isHeadByte_0
  by_cases c0 : x = 0
  · rw [if_pos c0, if_pos c0]
    by_cases h : b = 58
    · rw [if_pos h, if_pos h, g1]; exact ⟨_, _, rfl, Or.inl ⟨rfl, rfl, rfl⟩⟩
    · rw [if_neg h, if_neg h, g0]; exact ⟨_, _, rfl, Or.inr ⟨rfl, n10⟩⟩
  rw [if_neg c0, if_neg c0]
  by_cases c1 : x = 1
  · rw [if_pos c1, if_pos c1]
    by_cases h : b = 41
    · rw [if_pos h, if_pos h, g1]; exact ⟨_, _, rfl, Or.inl ⟨rfl, rfl, rfl⟩⟩
    · rw [if_neg h, if_neg h, g0]; exact ⟨_, _, rfl, Or.inr ⟨rfl, n10⟩⟩
  rw [if_neg c1, if_neg c1]
  by_cases c2 : x = 2
  · rw [if_pos c2, if_pos c2]
    by_cases h : b = 10
    · rw [if_pos h, if_pos h, g1]; exact ⟨_, _, rfl, Or.inl ⟨rfl, rfl, rfl⟩⟩
    · rw [if_neg h, if_neg h, g0]; exact ⟨_, _, rfl, Or.inr ⟨rfl, n10⟩⟩
  rw [if_neg c2, if_neg c2]
  have hb0 : ¬ b < 0 := by
    have := byv (lm at_.toInt.toNat)
    rw [hb] at this
    rw [zlt, z0]; omega
  rw [if_neg hb0]
  by_cases h : 7 < b
  · rw [if_pos h, if_pos h, g0]; exact ⟨_, _, rfl, Or.inr ⟨rfl, n10⟩⟩
  · rw [if_neg h, if_neg h, g1]; exact ⟨_, _, rfl, Or.inl ⟨rfl, rfl, rfl⟩⟩
theorem rhead (hl : 0 ≤ ls.toInt) (h2 : ls.toInt ≤ 6000) : ∃ at' fl' f' pl', fX7_readHead lm ls 0 fl 0 (-1) = some (at', fl', f', pl') ∧ (((4 ≤ ls.toInt ∧ fX1_isHeadByte 0 (lm 0 &&& 255) = some 1 ∧ fX1_isHeadByte 1 (lm 1 &&& 255) = some 1 ∧ fX1_isHeadByte 2 (lm 2 &&& 255) = some 1 ∧ fX1_isHeadByte 3 (lm 3 &&& 255) = some 1) ∧ at' = 4 ∧ fl' = lm 3 &&& 255 ∧ f' = 0 ∧ pl' = -1) ∨ (¬ (4 ≤ ls.toInt ∧ fX1_isHeadByte 0 (lm 0 &&& 255) = some 1 ∧ fX1_isHeadByte 1 (lm 1 &&& 255) = some 1 ∧ fX1_isHeadByte 2 (lm 2 &&& 255) = some 1 ∧ fX1_isHeadByte 3 (lm 3 &&& 255) = some 1) ∧ 0 < f'.toInt)) := by
  have z3 : (3 : Int32).toInt = 3 := by decide
  unfold fX7_readHead bX7_readHead_0
  rw [FU5]
  by_cases l0 : ls.toInt = 0
  · rw [rhd_end (by decide) (zeq.mpr (by rw [z0]; omega))]
    exact ⟨_, _, _, _, rfl, Or.inr ⟨fun h => by have := h.1; omega, by decide⟩⟩
  obtain ⟨f0, p0, e0, c0⟩ := rhd_step (f := 999995 + 1 + 1 + 1 + 1) (lm := lm) (fl := fl) (pl := -1) (at_ := 0) (x := 0) (b := lm 0 &&& 255) (by decide) (by decide) (by decide) (by rw [z0]; omega) h2 rfl
  rw [e0]
  rcases c0 with ⟨rfl, rfl, b0⟩ | ⟨rfl, b0⟩
  case inr =>
    rw [rhd_fault (by decide)]
    exact ⟨_, _, _, _, rfl, Or.inr ⟨fun h => b0 h.2.1, by decide⟩⟩
  rw [show (0 : Int32) + 1 = 1 by decide]
  by_cases l1 : ls.toInt = 1
  · rw [rhd_end (by decide) (zeq.mpr (by rw [z1]; omega))]
    exact ⟨_, _, _, _, rfl, Or.inr ⟨fun h => by have := h.1; omega, by decide⟩⟩
  obtain ⟨f1, p1, e1, c1⟩ := rhd_step (f := 999995 + 1 + 1 + 1) (lm := lm) (fl := (lm 0 &&& 255)) (pl := -1) (at_ := 1) (x := 1) (b := lm 1 &&& 255) (by decide) (by decide) (by decide) (by rw [z1]; omega) h2 rfl
  rw [e1]
  rcases c1 with ⟨rfl, rfl, b1⟩ | ⟨rfl, b1⟩
  case inr =>
    rw [rhd_fault (by decide)]
    exact ⟨_, _, _, _, rfl, Or.inr ⟨fun h => b1 h.2.2.1, by decide⟩⟩
  rw [show (1 : Int32) + 1 = 2 by decide]
  by_cases l2 : ls.toInt = 2
  · rw [rhd_end (by decide) (zeq.mpr (by rw [z2]; omega))]
    exact ⟨_, _, _, _, rfl, Or.inr ⟨fun h => by have := h.1; omega, by decide⟩⟩
  obtain ⟨f2, p2, e2, c2⟩ := rhd_step (f := 999995 + 1 + 1) (lm := lm) (fl := (lm 1 &&& 255)) (pl := -1) (at_ := 2) (x := 2) (b := lm 2 &&& 255) (by decide) (by decide) (by decide) (by rw [z2]; omega) h2 rfl
  rw [e2]
  rcases c2 with ⟨rfl, rfl, b2⟩ | ⟨rfl, b2⟩
  case inr =>
    rw [rhd_fault (by decide)]
    exact ⟨_, _, _, _, rfl, Or.inr ⟨fun h => b2 h.2.2.2.1, by decide⟩⟩
  rw [show (2 : Int32) + 1 = 3 by decide]
  by_cases l3 : ls.toInt = 3
  · rw [rhd_end (by decide) (zeq.mpr (by rw [z3]; omega))]
    exact ⟨_, _, _, _, rfl, Or.inr ⟨fun h => by have := h.1; omega, by decide⟩⟩
  obtain ⟨f3, p3, e3, c3⟩ := rhd_step (f := 999995 + 1) (lm := lm) (fl := (lm 2 &&& 255)) (pl := -1) (at_ := 3) (x := 3) (b := lm 3 &&& 255) (by decide) (by decide) (by decide) (by rw [z3]; omega) h2 rfl
  rw [e3]
  rcases c3 with ⟨rfl, rfl, b3⟩ | ⟨rfl, b3⟩
  case inr =>
    rw [rhd_fault (by decide)]
    exact ⟨_, _, _, _, rfl, Or.inr ⟨fun h => b3 h.2.2.2.2, by decide⟩⟩
  rw [show (3 : Int32) + 1 = 4 by decide]
  rw [bX7_readHead_2, if_pos (by decide)]
  exact ⟨_, _, _, _, rfl, Or.inl ⟨⟨by omega, b0, b1, b2, b3⟩, rfl, rfl, rfl, rfl⟩⟩
end Hd
