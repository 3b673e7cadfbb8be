/-! an item judged and kept -/
section JK
variable {kinds starts lengths depths b_cells openKinds : Nat → Int32} {numbers : Nat → Int64} {b_size b_tooLong size depth named : Int32} {mk ms ml mw mp mi mb mo mm md : Nat → Int32} {mn : Nat → Int64} {ni nc nh ti tc th tb tz lc lm : Nat → Int32} {nz tz0 ls fa pl first kd st le to ov fl at_ : Int32} {nu : Int64}
theorem jfail {c w' : Int32} : ∃ f' fa', fX1_fail fl fa c w' = some (f', fa') ∧ (f' = 0 ↔ fl = 0 ∧ c = 0) := by
  unfold fX1_fail bX1_fail_0
  by_cases g : fl = 0
  · rw [if_pos g]; exact ⟨_, _, rfl, ⟨fun h => ⟨g, h⟩, fun h => h.2⟩⟩
  · rw [if_neg g]; exact ⟨_, _, rfl, ⟨fun h => absurd h g, fun h => absurd h.1 g⟩⟩
def roomR (b_size size depth kd le : Int32) : Prop := size.toInt < 1500 ∧ b_size.toInt + le.toInt ≤ 5000 ∧ ((kd = 5 ∨ kd = 6) → depth.toInt < 30)
theorem j124 (hR : DR 1 kinds starts lengths depths numbers b_cells b_size b_tooLong openKinds size depth named mk mn ms ml mw mp mi mb mo mm md) (fm : Int32) : ∃ f' fa', bX1_judgeItem_124 fl fa first kd fm st le to ov ni nz ti tz0 lc ls lengths b_size size depth = some (f', fa', le, to) ∧ (f' = 0 ↔ (fl = 0 ∧ ov = 0 ∧ roomR b_size size depth kd le)) := by
  obtain ⟨a1, a2, a3, a4, a5, a6, a7, a8, a9, a10, a11, a12⟩ := id hR.1
  obtain ⟨q, q1, q2⟩ := croom (size := size) (depth := depth) (x := kd) (n := le) a7 a8
  have h141 : ∀ fl fa, ∃ f' fa', bX1_judgeItem_141 fl fa first kd fm st le to ov ni nz ti tz0 lc ls lengths b_size size depth = some (f', fa', le, to) ∧ (f' = 0 ↔ (fl = 0 ∧ roomR b_size size depth kd le)) := by
    intro fl fa
    unfold bX1_judgeItem_141 roomR
    rw [q1, Option.bind_some]
    by_cases g : q = 0
    · rw [if_pos g]
      obtain ⟨f', fa', e1, e2⟩ := jfail (fl := fl) (fa := fa) (c := 7) (w' := first)
      rw [e1]
      exact ⟨_, _, rfl, ⟨fun h => absurd (e2.mp h).2 (by decide), fun h => absurd h.2 (q2.mp g)⟩⟩
    · rw [if_neg g]
      have g1 := Classical.byContradiction fun e => g (q2.mpr e)
      exact ⟨_, _, rfl, ⟨fun h => ⟨h, g1⟩, fun h => h.1⟩⟩
  unfold bX1_judgeItem_124
  by_cases g : ov = 0
  · rw [if_pos g]
    obtain ⟨f', fa', e1, e2⟩ := h141 fl fa
    exact ⟨f', fa', e1, e2.trans ⟨fun h => ⟨h.1, g, h.2⟩, fun h => ⟨h.1, h.2.2⟩⟩⟩
  · rw [if_neg g]
    obtain ⟨f1, fa1, e1, e2⟩ := jfail (fl := fl) (fa := fa) (c := 6) (w' := first)
    rw [e1, Option.bind_some]
    obtain ⟨f', fa', e3, e4⟩ := h141 f1 fa1
    exact ⟨f', fa', e3, e4.trans ⟨fun h => absurd (e2.mp h.1).2 (by decide), fun h => absurd h.2.1 g⟩⟩
theorem jplain (hR : DR 1 kinds starts lengths depths numbers b_cells b_size b_tooLong openKinds size depth named mk mn ms ml mw mp mi mb mo mm md) {fm : Int32} (hf : fm = 0 ∨ fm = 4 ∨ fm = 5) : ∃ f' fa', fX1_judgeItem 0 fa first kd fm st le to ov ni nz ti tz0 lc ls lengths b_size size depth = some (f', fa', le, to) ∧ (f' = 0 ↔ (ov = 0 ∧ roomR b_size size depth kd le)) := by
  obtain ⟨f', fa', e1, e2⟩ := j124 (fl := 0) (fa := fa) (first := first) (kd := kd) (st := st) (le := le) (to := to) (ov := ov) (ni := ni) (nz := nz) (ti := ti) (tz0 := tz0) (lc := lc) (ls := ls) hR fm
  refine ⟨f', fa', ?_, e2.trans ⟨fun h => h.2, fun h => ⟨rfl, h⟩⟩⟩
  unfold fX1_judgeItem bX1_judgeItem_0 bX1_judgeItem_34 bX1_judgeItem_69
  rw [if_pos rfl, if_neg (by rcases hf with rfl | rfl | rfl <;> decide), if_neg (by rcases hf with rfl | rfl | rfl <;> decide), if_neg (by rcases hf with rfl | rfl | rfl <;> decide)]
  exact e1
theorem jtext (hR : DR 1 kinds starts lengths depths numbers b_cells b_size b_tooLong openKinds size depth named mk mn ms ml mw mp mi mb mo mm md) {fm b : Int32} (hf : (fm = 1 ∧ fX4_isAscii 6000 lc ls st le = some b) ∨ (fm = 2 ∧ fX4_isText 6000 lc ls st le = some b)) : ∃ f' fa', fX1_judgeItem 0 fa first kd fm st le to ov ni nz ti tz0 lc ls lengths b_size size depth = some (f', fa', le, to) ∧ (f' = 0 ↔ (b ≠ 0 ∧ ov = 0 ∧ roomR b_size size depth kd le)) := by
  have h69 : ∀ fl fa, ∃ f' fa', bX1_judgeItem_69 fl fa first kd fm st le to ov ni nz ti tz0 lc ls lengths b_size size depth = some (f', fa', le, to) ∧ (f' = 0 ↔ (fl = 0 ∧ ov = 0 ∧ roomR b_size size depth kd le)) := by
    intro fl fa
    unfold bX1_judgeItem_69
    rw [if_neg (by rcases hf with ⟨rfl, _⟩ | ⟨rfl, _⟩ <;> decide)]
    exact j124 hR fm
  have h60 : ∃ f' fa', bX1_judgeItem_60 0 fa first kd fm st le to ov ni nz ti tz0 lc ls lengths b_size size depth = some (f', fa', le, to) ∧ f' ≠ 0 := by
    unfold bX1_judgeItem_60
    obtain ⟨f1, fa1, e1, e2⟩ := jfail (fl := 0) (fa := fa) (c := 4) (w' := first)
    rw [e1, Option.bind_some]
    obtain ⟨f', fa', e3, e4⟩ := h69 f1 fa1
    exact ⟨f', fa', e3, fun h => absurd (e2.mp (e4.mp h).1).2 (by decide)⟩
  unfold fX1_judgeItem bX1_judgeItem_0 bX1_judgeItem_34
  rcases hf with ⟨rfl, hb⟩ | ⟨rfl, hb⟩
  · rw [if_pos rfl, if_pos rfl, hb, Option.bind_some]
    by_cases g : b = 0
    · rw [if_pos g]
      obtain ⟨f', fa', e1, e2⟩ := h60
      exact ⟨f', fa', e1, ⟨fun h => absurd h e2, fun h => absurd g h.1⟩⟩
    · rw [if_neg g, if_neg (by decide)]
      obtain ⟨f', fa', e1, e2⟩ := h69 0 fa
      exact ⟨f', fa', e1, e2.trans ⟨fun h => ⟨g, h.2⟩, fun h => ⟨rfl, h.2⟩⟩⟩
  · rw [if_pos rfl, if_neg (by decide), if_pos rfl, hb, Option.bind_some]
    by_cases g : b = 0
    · rw [if_pos g]
      obtain ⟨f', fa', e1, e2⟩ := h60
      exact ⟨f', fa', e1, ⟨fun h => absurd h e2, fun h => absurd g h.1⟩⟩
    · rw [if_neg g]
      obtain ⟨f', fa', e1, e2⟩ := h69 0 fa
      exact ⟨f', fa', e1, e2.trans ⟨fun h => ⟨g, h.2⟩, fun h => ⟨rfl, h.2⟩⟩⟩
theorem jtold (hR : DR 1 kinds starts lengths depths numbers b_cells b_size b_tooLong openKinds size depth named mk mn ms ml mw mp mi mb mo mm md) {it l2 : Int32} (h1 : (kd = 10 ∧ fX3_itemAt ni nz to = some it) ∨ (kd ≠ 10 ∧ fX3_itemAt ti tz0 to = some it)) (h2 : fX0_lengthOf lengths size it = some l2) : ∃ f' fa', fX1_judgeItem 0 fa first kd 3 st le to ov ni nz ti tz0 lc ls lengths b_size size depth = some (f', fa', l2, it) ∧ (f' = 0 ↔ (it ≠ -1 ∧ ov = 0 ∧ roomR b_size size depth kd l2)) := by
  have fin : ∃ f' fa', (if it = -1 then ((fX1_fail 0 fa 5 first).bind fun v18 => bX1_judgeItem_124 v18.1 v18.2 first kd 3 st l2 it ov ni nz ti tz0 lc ls lengths b_size size depth) else bX1_judgeItem_124 0 fa first kd 3 st l2 it ov ni nz ti tz0 lc ls lengths b_size size depth) = some (f', fa', l2, it) ∧ (f' = 0 ↔ (it ≠ -1 ∧ ov = 0 ∧ roomR b_size size depth kd l2)) := by
    by_cases g : it = -1
    · rw [if_pos g]
      obtain ⟨f1, fa1, e1, e2⟩ := jfail (fl := 0) (fa := fa) (c := 5) (w' := first)
      rw [e1, Option.bind_some]
      obtain ⟨f', fa', e3, e4⟩ := j124 (fl := f1) (fa := fa1) (first := first) (kd := kd) (st := st) (le := l2) (to := it) (ov := ov) (ni := ni) (nz := nz) (ti := ti) (tz0 := tz0) (lc := lc) (ls := ls) hR 3
      exact ⟨f', fa', e3, ⟨fun h => absurd (e2.mp (e4.mp h).1).2 (by decide), fun h => absurd g h.1⟩⟩
    · rw [if_neg g]
      obtain ⟨f', fa', e3, e4⟩ := j124 (fl := 0) (fa := fa) (first := first) (kd := kd) (st := st) (le := l2) (to := it) (ov := ov) (ni := ni) (nz := nz) (ti := ti) (tz0 := tz0) (lc := lc) (ls := ls) hR 3
      exact ⟨f', fa', e3, e4.trans ⟨fun h => ⟨g, h.2⟩, fun h => ⟨rfl, h.2⟩⟩⟩
  unfold fX1_judgeItem bX1_judgeItem_0 bX1_judgeItem_34 bX1_judgeItem_69
  rw [if_pos rfl, if_neg (by decide), if_neg (by decide), if_pos rfl]
  rcases h1 with ⟨g, h1⟩ | ⟨g, h1⟩
  · rw [if_pos g, h1, Option.bind_some, h2, Option.bind_some]; exact fin
  · rw [if_neg g, h1, Option.bind_some, h2, Option.bind_some]; exact fin
theorem jfault {fm : Int32} (h : fl ≠ 0) : fX1_judgeItem fl fa first kd fm st le to ov ni nz ti tz0 lc ls lengths b_size size depth = some (fl, fa, le, to) := by
  unfold fX1_judgeItem bX1_judgeItem_0
  rw [if_neg h]
theorem kfault {fm : Int32} (h : fl ≠ 0) (flags : Int32) : ∃ r, fX1_keepItem flags at_ fl kd nu fm st le to ni nc nh nz ti tc th tz0 lc ls kinds starts lengths depths numbers b_cells b_size b_tooLong openKinds size depth named = some r := by
  unfold fX1_keepItem bX1_keepItem_0
  rw [if_neg h]
  exact ⟨_, rfl⟩
end JK
