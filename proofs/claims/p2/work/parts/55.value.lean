/-! value, name, loop -/
section Val
variable {kinds starts lengths depths b_cells openKinds tc tm : Nat → Int32} {numbers : Nat → Int64} {b_size b_tooLong size depth named ts tt : Int32} {mk ms ml mw mp mi mb mo mm md : Nat → Int32} {mn : Nat → Int64} {x : Int32}
theorem z4 : (4 : Int32).toInt = 4 := by decide
theorem z3 : (3 : Int32).toInt = 3 := by decide
theorem roffer0 (hR : DR 0 kinds starts lengths depths numbers b_cells b_size b_tooLong openKinds size depth named mk mn ms ml mw mp mi mb mo mm md) (hT : RR 1000 tc ts tt tm ts) (hbn : b_size.toInt + ts.toInt ≤ 5000) : ∃ mp', fX7_offer tm mp mb ts = some (1, mp') ∧ (∀ k : Nat, (k : Int) < b_size.toInt → mp' k = mp k) ∧ ∀ j : Nat, (j : Int) < ts.toInt → mp' (b_size.toInt.toNat + j) = b8 (tm j) := by
  obtain ⟨a1, a2, a3, a4, a5, a6, a7, a8, a9, a10, a11, a12⟩ := id hR.1
  obtain ⟨t1, t2, t3, t4, t5⟩ := id hT
  have c0 : Int32.toNatClampNeg 0 = 0 := by decide
  have hts : ts.toInt ≤ 1000 := t4
  obtain ⟨mp', g1, g2, g3⟩ := roffer (mb := mb) (ts := ts) (tm := tm) (by rw [a2]; exact a7) (by rw [a2]; exact hbn) hts ts.toInt.toNat FU 0 mp (by unfold FU; omega) (by decide) (by rw [z0]; omega)
  rw [a2, z0] at g2 g3
  refine ⟨mp', ?_, fun k hk => g2 k (by omega), fun j hj => ?_⟩
  · unfold fX7_offer bX7_offer_0
    rw [if_pos i02, c0, a2, if_pos (by rw [zle, z5000, zadd (by omega) (by omega)]; exact hbn), g1]
  · have := g3 j (by omega)
    rw [show (0 : Int).toNat + j = j by omega] at this
    exact this
theorem cacct (hd : 0 ≤ depth.toInt) (hd2 : depth.toInt ≤ 30) (hx : x = 3 ∨ x = 4 ∨ x = 10) : ∃ r, fX0_accepts openKinds size depth named x = some r ∧ (r = 0 ↔ ¬ ((x = 10 → nmc openKinds depth named) ∧ (x ≠ 10 → ¬ (0 < size.toInt ∧ depth.toInt = 0) ∧ ¬ nmc openKinds depth named))) := by
  by_cases h : x = 10
  · subst h
    obtain ⟨r, r1, r2⟩ := cacc_name (openKinds := openKinds) (size := size) (named := named) hd hd2
    refine ⟨r, r1, r2.trans (not_congr ⟨fun h => ⟨fun _ => h, fun h => absurd rfl h⟩, fun h => h.1 rfl⟩)⟩
  · have n11 : x ≠ 11 := by rcases hx with rfl | rfl | rfl <;> decide
    obtain ⟨r, r1, r2⟩ := cacc_value (openKinds := openKinds) (size := size) (named := named) hd hd2 h n11
    refine ⟨r, r1, r2.trans (not_congr ⟨fun g => ⟨fun e => absurd e h, fun _ => g⟩, fun g => g.2 h⟩)⟩
/-- what of typed bytes goes on: acceptance and room -/
def okT (openKinds : Nat → Int32) (b_size size depth named ts x : Int32) : Prop := ((x = 10 → nmc openKinds depth named) ∧ (x ≠ 10 → ¬ (0 < size.toInt ∧ depth.toInt = 0) ∧ ¬ nmc openKinds depth named)) ∧ size.toInt < 1500 ∧ b_size.toInt + ts.toInt ≤ 5000
theorem ctyped_no (hR : DR 0 kinds starts lengths depths numbers b_cells b_size b_tooLong openKinds size depth named mk mn ms ml mw mp mi mb mo mm md) (hx : x = 3 ∨ x = 4 ∨ x = 10) (h : ¬ okT openKinds b_size size depth named ts x) : fX6_addTyped tc ts tt kinds starts lengths depths numbers b_cells b_size b_tooLong openKinds size depth named x = some (-1, ts, tt, kinds, starts, lengths, depths, numbers, b_cells, b_size, b_tooLong, openKinds, size, depth, named) := by
  obtain ⟨a1, a2, a3, a4, a5, a6, a7, a8, a9, a10, a11, a12⟩ := id hR.1
  obtain ⟨r, r1, r2⟩ := cacct (openKinds := openKinds) (size := size) (named := named) a9 a10 hx
  obtain ⟨q, q1, q2⟩ := croom (size := size) (depth := depth) (x := x) (n := ts) a7 a8
  have n5 : ¬ (x = 5 ∨ x = 6) := by rcases hx with rfl | rfl | rfl <;> decide
  unfold fX6_addTyped bX6_addTyped_0 fX2_size bX2_size_0
  rw [r1, Option.bind_some]
  by_cases g : r = 0
  · rw [if_pos g]
  · rw [if_neg g, Option.bind_some, q1, Option.bind_some]
    have g1 := Classical.byContradiction fun e => g (r2.mpr e)
    rw [if_pos (q2.mpr fun e => h ⟨g1, e.1, e.2.1⟩)]
theorem ctyped_ok (hR : DR 0 kinds starts lengths depths numbers b_cells b_size b_tooLong openKinds size depth named mk mn ms ml mw mp mi mb mo mm md) (hx : x = 3 ∨ x = 4 ∨ x = 10) (h : okT openKinds b_size size depth named ts x) {b : Int32} (hb : x ≠ 4 → fX4_isText 1000 tc ts 0 ts = some b) : fX6_addTyped tc ts tt kinds starts lengths depths numbers b_cells b_size b_tooLong openKinds size depth named x = if x ≠ 4 ∧ b = 0 then some (-1, ts, tt, kinds, starts, lengths, depths, numbers, b_cells, b_size, b_tooLong, openKinds, size, depth, named) else bX6_addTyped_56 tc ts tt kinds starts lengths depths numbers b_cells b_size b_tooLong openKinds size depth named x := by
  obtain ⟨a1, a2, a3, a4, a5, a6, a7, a8, a9, a10, a11, a12⟩ := id hR.1
  obtain ⟨r, r1, r2⟩ := cacct (openKinds := openKinds) (size := size) (named := named) a9 a10 hx
  obtain ⟨q, q1, q2⟩ := croom (size := size) (depth := depth) (x := x) (n := ts) a7 a8
  have n5 : ¬ (x = 5 ∨ x = 6) := by rcases hx with rfl | rfl | rfl <;> decide
  unfold fX6_addTyped bX6_addTyped_0 fX2_size bX2_size_0
  rw [r1, Option.bind_some, if_neg (fun e => r2.mp e h.1), Option.bind_some, q1, Option.bind_some, if_neg (fun e => q2.mp e ⟨h.2.1, h.2.2, fun g => absurd g n5⟩)]
  by_cases g : x = 4
  · rw [if_pos g, if_neg (fun e => e.1 g)]
  · rw [if_neg g, Option.bind_some, hb g, Option.bind_some]
    by_cases g2 : b = 0
    · rw [if_pos g2, if_pos ⟨g, g2⟩]
    · rw [if_neg g2, if_neg (fun e => g2 e.2)]
theorem rmayt (hR : DR 0 kinds starts lengths depths numbers b_cells b_size b_tooLong openKinds size depth named mk mn ms ml mw mp mi mb mo mm md) (hT : RR 1000 tc ts tt tm ts) : ∃ q, fX7_mayBe mi mb md 0 ts 0 = some q ∧ (q = 0 ↔ ¬ (size.toInt < 1500 ∧ b_size.toInt + ts.toInt ≤ 5000)) := by
  obtain ⟨a1, a2, a3, a4, a5, a6, a7, a8, a9, a10, a11, a12⟩ := id hR.1
  obtain ⟨t1, t2, t3, t4, t5⟩ := id hT
  have hts : ts.toInt ≤ 1000 := t4
  obtain ⟨q, q1, q2⟩ := rmay (mi := mi) (mb := mb) (md := md) (d := 0) (n := ts) (o := 0) (by omega) (by rw [a2]; exact a7) (by rw [a2]; exact a8) t3 (by omega)
  rw [nI_0] at q1
  rw [a1, a2, a3] at q2
  exact ⟨q, q1, q2.trans (not_congr ⟨fun g => ⟨g.1, g.2.1⟩, fun g => ⟨g.1, g.2, fun h => absurd rfl h⟩⟩)⟩
theorem sim_name (hR : DR 0 kinds starts lengths depths numbers b_cells b_size b_tooLong openKinds size depth named mk mn ms ml mw mp mi mb mo mm md) (hT : RR 1000 tc ts tt tm ts) : ∃ r r', fX6_name tc ts tt kinds starts lengths depths numbers b_cells b_size b_tooLong openKinds size depth named = some r ∧ fX7_name tm mk mn ms ml mw mp mi mb mo mm md ts = some r' ∧ r.1 = r'.1 ∧ DR 0 r.2.2.2.1 r.2.2.2.2.1 r.2.2.2.2.2.1 r.2.2.2.2.2.2.1 r.2.2.2.2.2.2.2.1 r.2.2.2.2.2.2.2.2.1 r.2.2.2.2.2.2.2.2.2.1 r.2.2.2.2.2.2.2.2.2.2.1 r.2.2.2.2.2.2.2.2.2.2.2.1 r.2.2.2.2.2.2.2.2.2.2.2.2.1 r.2.2.2.2.2.2.2.2.2.2.2.2.2.1 r.2.2.2.2.2.2.2.2.2.2.2.2.2.2 r'.2.1 r'.2.2.1 r'.2.2.2.1 r'.2.2.2.2.1 r'.2.2.2.2.2.1 r'.2.2.2.2.2.2.1 r'.2.2.2.2.2.2.2.1 r'.2.2.2.2.2.2.2.2.1 r'.2.2.2.2.2.2.2.2.2.1 r'.2.2.2.2.2.2.2.2.2.2.1 r'.2.2.2.2.2.2.2.2.2.2.2.1 ∧ RR 1000 tc r.2.1 r.2.2.1 tm r'.2.2.2.2.2.2.2.2.2.2.2.2 := by
  obtain ⟨a1, a2, a3, a4, a5, a6, a7, a8, a9, a10, a11, a12⟩ := id hR.1
  have c0 : Int32.toNatClampNeg 0 = 0 := by decide
  obtain ⟨p, p1, p2⟩ := rwants (mo := mo) (mm := mm) (md := md) (d := 0) (by omega) (by rw [a3]; exact a9) (by rw [a3]; exact a10)
  rw [a3, ← nmc_ref hR.2.2.2.1 a9 a10] at p2
  rw [nI_0] at p1
  obtain ⟨q, q1, q2⟩ := rmayt hR hT
  have h10 : ¬ ((1 : Int32) = 0) := by decide
  unfold fX6_name bX6_name_0 fX7_name bX7_name_0
  by_cases h : okT openKinds b_size size depth named ts 10
  · obtain ⟨mp', o1, o2, o3⟩ := roffer0 hR hT h.2.2
    obtain ⟨b, b1, b2, b3⟩ := typed_text (b_size := b_size) (mp' := mp') hT a7 h.2.2 o3
    rw [ctyped_ok hR (by decide) h (fun _ => b1), p1, Option.bind_some, if_neg (fun e => p2.mp e (h.1.1 rfl)), q1, Option.bind_some, if_neg (fun e => q2.mp e h.2), o1, Option.bind_some, if_neg (show ¬ (((1 : Int32), mp').1 = 0) from h10), if_pos i02, c0, a2, b2, Option.bind_some]
    by_cases g : b = 0
    · rw [if_pos (show (10 : Int32) ≠ 4 ∧ b = 0 from ⟨by decide, g⟩), if_pos g, Option.bind_some]
      exact ⟨_, _, rfl, rfl, rfl, hR.pool o2, hT⟩
    · obtain ⟨r, r', e1, e2, e3, e4, e5, e6⟩ := typed_both (x := 10) hR hT (by decide) h.2.1 h.2.2 o2 o3 ⟨fun _ => h.1.1 rfl, fun e => absurd rfl e⟩
      rw [if_neg (show ¬ ((10 : Int32) ≠ 4 ∧ b = 0) from fun e => g e.2), if_neg g, e1, e2, Option.bind_some, Option.bind_some, if_pos i02]
      refine ⟨_, _, rfl, rfl, e3, e6, ?_⟩
      show RR 1000 tc r.2.1 r.2.2.1 tm 0
      rw [e4, e5]; exact RR.zero
  · rw [ctyped_no hR (by decide) h, p1, Option.bind_some, Option.bind_some]
    by_cases g : p = 0
    · rw [if_pos g]; exact ⟨_, _, rfl, rfl, rfl, hR, hT⟩
    · have g1 := Classical.byContradiction fun e => g (p2.mpr e)
      rw [if_neg g, q1, Option.bind_some, if_pos (q2.mpr fun e => h ⟨⟨fun _ => g1, fun e => absurd rfl e⟩, e⟩)]
      exact ⟨_, _, rfl, rfl, rfl, hR, hT⟩
theorem sim_value34 (hR : DR 0 kinds starts lengths depths numbers b_cells b_size b_tooLong openKinds size depth named mk mn ms ml mw mp mi mb mo mm md) (hT : RR 1000 tc ts tt tm ts) (hx : x = 3 ∨ x = 4) : ∃ r r', fX6_addTyped tc ts tt kinds starts lengths depths numbers b_cells b_size b_tooLong openKinds size depth named x = some r ∧ bX7_value_15 tm mk mn ms ml mw mp mi mb mo mm md ts x 1 = some r' ∧ r.1 = r'.1 ∧ DR 0 r.2.2.2.1 r.2.2.2.2.1 r.2.2.2.2.2.1 r.2.2.2.2.2.2.1 r.2.2.2.2.2.2.2.1 r.2.2.2.2.2.2.2.2.1 r.2.2.2.2.2.2.2.2.2.1 r.2.2.2.2.2.2.2.2.2.2.1 r.2.2.2.2.2.2.2.2.2.2.2.1 r.2.2.2.2.2.2.2.2.2.2.2.2.1 r.2.2.2.2.2.2.2.2.2.2.2.2.2.1 r.2.2.2.2.2.2.2.2.2.2.2.2.2.2 r'.2.1 r'.2.2.1 r'.2.2.2.1 r'.2.2.2.2.1 r'.2.2.2.2.2.1 r'.2.2.2.2.2.2.1 r'.2.2.2.2.2.2.2.1 r'.2.2.2.2.2.2.2.2.1 r'.2.2.2.2.2.2.2.2.2.1 r'.2.2.2.2.2.2.2.2.2.2.1 r'.2.2.2.2.2.2.2.2.2.2.2.1 ∧ RR 1000 tc r.2.1 r.2.2.1 tm r'.2.2.2.2.2.2.2.2.2.2.2.2 := by
  obtain ⟨a1, a2, a3, a4, a5, a6, a7, a8, a9, a10, a11, a12⟩ := id hR.1
  have c0 : Int32.toNatClampNeg 0 = 0 := by decide
  have hx3 : x = 3 ∨ x = 4 ∨ x = 10 := by rcases hx with h | h; exact Or.inl h; exact Or.inr (Or.inl h)
  have n10 : x ≠ 10 := by rcases hx with rfl | rfl <;> decide
  have h10 : ¬ ((1 : Int32) = 0) := by decide
  obtain ⟨p, p1, p2⟩ := rtakes hR
  obtain ⟨q, q1, q2⟩ := rmayt hR hT
  unfold bX7_value_15 bX7_value_47 bX7_value_57
  rw [if_neg (show ¬ x < 0 by rcases hx with rfl | rfl <;> decide), if_neg (show ¬ 6 < x by rcases hx with rfl | rfl <;> decide), p1, Option.bind_some, if_neg h10, if_pos (show x ≤ 4 by rcases hx with rfl | rfl <;> decide), q1, Option.bind_some, if_neg h10]
  by_cases h : okT openKinds b_size size depth named ts x
  · obtain ⟨mp', o1, o2, o3⟩ := roffer0 hR hT h.2.2
    obtain ⟨b, b1, b2, b3⟩ := typed_text (b_size := b_size) (mp' := mp') hT a7 h.2.2 o3
    rw [ctyped_ok hR hx3 h (fun _ => b1), if_neg (fun e => p2.mp e (h.1.2 n10)), if_neg (fun e => q2.mp e h.2), o1, Option.bind_some, if_neg (show ¬ (((1 : Int32), mp').1 = 0) from h10), if_pos i02, c0, a2, b2, Option.bind_some]
    have fin : ∃ r r', bX6_addTyped_56 tc ts tt kinds starts lengths depths numbers b_cells b_size b_tooLong openKinds size depth named x = some r ∧ bX7_value_100 tm mk mn ms ml mw mp' mi mb mo mm md ts x 1 = some r' ∧ r.1 = r'.1 ∧ DR 0 r.2.2.2.1 r.2.2.2.2.1 r.2.2.2.2.2.1 r.2.2.2.2.2.2.1 r.2.2.2.2.2.2.2.1 r.2.2.2.2.2.2.2.2.1 r.2.2.2.2.2.2.2.2.2.1 r.2.2.2.2.2.2.2.2.2.2.1 r.2.2.2.2.2.2.2.2.2.2.2.1 r.2.2.2.2.2.2.2.2.2.2.2.2.1 r.2.2.2.2.2.2.2.2.2.2.2.2.2.1 r.2.2.2.2.2.2.2.2.2.2.2.2.2.2 r'.2.1 r'.2.2.1 r'.2.2.2.1 r'.2.2.2.2.1 r'.2.2.2.2.2.1 r'.2.2.2.2.2.2.1 r'.2.2.2.2.2.2.2.1 r'.2.2.2.2.2.2.2.2.1 r'.2.2.2.2.2.2.2.2.2.1 r'.2.2.2.2.2.2.2.2.2.2.1 r'.2.2.2.2.2.2.2.2.2.2.2.1 ∧ RR 1000 tc r.2.1 r.2.2.1 tm r'.2.2.2.2.2.2.2.2.2.2.2.2 := by
      obtain ⟨r, r', e1, e2, e3, e4, e5, e6⟩ := typed_both (x := x) hR hT hx3 h.2.1 h.2.2 o2 o3 ⟨fun e => absurd e n10, fun e => (h.1.2 e).1⟩
      unfold bX7_value_100 bX7_value_116
      rw [if_neg h10, e1, e2, Option.bind_some, if_neg h10, if_pos i02]
      refine ⟨_, _, rfl, rfl, e3, e6, ?_⟩
      show RR 1000 tc r.2.1 r.2.2.1 tm 0
      rw [e4, e5]; exact RR.zero
    rcases hx with rfl | rfl
    · by_cases g : b = 0
      · rw [if_pos (show (3 : Int32) ≠ 4 ∧ b = 0 from ⟨by decide, g⟩), if_pos rfl, if_pos g]
        exact ⟨_, _, rfl, rfl, rfl, hR.pool o2, hT⟩
      · rw [if_neg (show ¬ ((3 : Int32) ≠ 4 ∧ b = 0) from fun e => g e.2), if_pos rfl, if_neg g]
        exact fin
    · rw [if_neg (show ¬ ((4 : Int32) ≠ 4 ∧ b = 0) from fun e => e.1 rfl), if_neg (show ¬ ((4 : Int32) = 3) by decide)]
      exact fin
  · rw [ctyped_no hR hx3 h]
    by_cases g : p = 0
    · rw [if_pos g]; exact ⟨_, _, rfl, rfl, rfl, hR, hT⟩
    · have g1 := Classical.byContradiction fun e => g (p2.mpr e)
      rw [if_neg g, if_pos (q2.mpr fun e => h ⟨⟨fun e => absurd e n10, fun _ => g1⟩, e⟩)]
      exact ⟨_, _, rfl, rfl, rfl, hR, hT⟩
theorem sim_value (hR : DR 0 kinds starts lengths depths numbers b_cells b_size b_tooLong openKinds size depth named mk mn ms ml mw mp mi mb mo mm md) (hT : RR 1000 tc ts tt tm ts) (n : Int32) : ∃ r r', fX6_value tc ts tt kinds starts lengths depths numbers b_cells b_size b_tooLong openKinds size depth named n = some r ∧ fX7_value tm mk mn ms ml mw mp mi mb mo mm md ts n = some r' ∧ r.1 = r'.1 ∧ DR 0 r.2.2.2.1 r.2.2.2.2.1 r.2.2.2.2.2.1 r.2.2.2.2.2.2.1 r.2.2.2.2.2.2.2.1 r.2.2.2.2.2.2.2.2.1 r.2.2.2.2.2.2.2.2.2.1 r.2.2.2.2.2.2.2.2.2.2.1 r.2.2.2.2.2.2.2.2.2.2.2.1 r.2.2.2.2.2.2.2.2.2.2.2.2.1 r.2.2.2.2.2.2.2.2.2.2.2.2.2.1 r.2.2.2.2.2.2.2.2.2.2.2.2.2.2 r'.2.1 r'.2.2.1 r'.2.2.2.1 r'.2.2.2.2.1 r'.2.2.2.2.2.1 r'.2.2.2.2.2.2.1 r'.2.2.2.2.2.2.2.1 r'.2.2.2.2.2.2.2.2.1 r'.2.2.2.2.2.2.2.2.2.1 r'.2.2.2.2.2.2.2.2.2.2.1 r'.2.2.2.2.2.2.2.2.2.2.2.1 ∧ RR 1000 tc r.2.1 r.2.2.1 tm r'.2.2.2.2.2.2.2.2.2.2.2.2 := by
  obtain ⟨a1, a2, a3, a4, a5, a6, a7, a8, a9, a10, a11, a12⟩ := id hR.1
  unfold fX6_value bX6_value_0 fX7_value bX7_value_0 bX7_value_10 bX6_value_22
  by_cases k3 : n = 3
  · subst k3
    obtain ⟨r, r', e1, e2, e3, e4⟩ := sim_value34 (x := 3) hR hT (Or.inl rfl)
    rw [if_neg (by decide), if_pos (by decide), if_pos rfl, if_pos rfl, e1, e2, Option.bind_some]
    exact ⟨_, _, rfl, rfl, e3, e4⟩
  by_cases k4 : n = 4
  · subst k4
    obtain ⟨r, r', e1, e2, e3, e4⟩ := sim_value34 (x := 4) hR hT (Or.inr rfl)
    rw [if_neg (by decide), if_pos (by decide), if_neg (by decide), if_pos rfl, if_neg (by decide), if_pos rfl, e1, e2, Option.bind_some]
    exact ⟨_, _, rfl, rfl, e3, e4⟩
  rw [if_neg k3, if_neg k3, if_neg k4, if_neg k4]
  unfold bX7_value_15
  by_cases k0 : n < 0
  · rw [if_pos k0, if_pos k0]; exact ⟨_, _, rfl, rfl, rfl, hR, hT⟩
  rw [if_neg k0, if_neg k0]
  by_cases k6 : 6 < n
  · rw [if_neg (Int32.not_le.mpr k6), if_pos k6]; exact ⟨_, _, rfl, rfl, rfl, hR, hT⟩
  rw [if_pos (Int32.not_lt.mp k6), if_neg k6]
  rw [zlt, z0] at k0
  rw [zlt, z6] at k6
  have n10 : n ≠ 10 := fun h => by rw [h, z10] at k6; omega
  have n11 : n ≠ 11 := fun h => by rw [h, z11] at k6; omega
  obtain ⟨p, p1, p2⟩ := rtakes hR
  have ref : ∃ q, fX7_mayBe mi mb md 0 0 (if n ≤ 4 then 0 else 1) = some q ∧ (q = 0 ↔ ¬ (size.toInt < 1500 ∧ b_size.toInt + 0 ≤ 5000 ∧ ((n = 5 ∨ n = 6) → depth.toInt < 30))) := by
    refine rmay0 (x := n) hR _ ?_
    by_cases g : n ≤ 4
    · rw [if_pos g]
      rw [zle, z4] at g
      refine ⟨fun h => absurd rfl h, fun h => ?_⟩
      rcases h with rfl | rfl
      · rw [z5] at g; omega
      · rw [z6] at g; omega
    · rw [if_neg g]
      rw [zle, z4] at g
      refine ⟨fun _ => ?_, fun _ => by decide⟩
      rw [zeq, zeq, z5, z6]; omega
  obtain ⟨q, q1, q2⟩ := ref
  have e47 : bX7_value_47 tm mk mn ms ml mw mp mi mb mo mm md ts n 0 0 0 = bX7_value_57 tm mk mn ms ml mw mp mi mb mo mm md ts n 0 0 0 (if n ≤ 4 then 0 else 1) := by
    unfold bX7_value_47
    by_cases g : n ≤ 4
    · rw [if_pos g, if_pos g]
    · rw [if_neg g, if_neg g]
  rw [p1, Option.bind_some, if_pos rfl, e47]
  unfold bX7_value_57
  rw [q1, Option.bind_some, if_pos rfl]
  by_cases h : okV 0 openKinds b_size size depth named n
  · obtain ⟨s, s1, s2, s3, s4⟩ := sim_add (v := 0) hR h (by omega) (by omega)
    unfold bX7_value_100 bX7_value_116
    rw [cplain_ok a5 a9 a10 a7 a8 n10 n11 h, if_neg (fun e => p2.mp e h.1), if_neg (fun e => q2.mp e h.2), if_pos rfl, s1, Option.bind_some, Option.bind_some, if_pos rfl, if_pos i02]
    exact ⟨_, _, rfl, rfl, s3.symm, s4, hT⟩
  · rw [cplain_no a9 a10 a7 a8 n10 n11 h, Option.bind_some]
    by_cases g : p = 0
    · rw [if_pos g]; exact ⟨_, _, rfl, rfl, rfl, hR, hT⟩
    · have g1 := Classical.byContradiction fun e => g (p2.mpr e)
      rw [if_neg g, if_pos (q2.mpr fun e => h ⟨g1, e⟩)]
      exact ⟨_, _, rfl, rfl, rfl, hR, hT⟩
end Val
section Loop
variable {c m oc om : Nat → Int32} {s t ms os ot oms : Int32}
theorem ccopy (hO : RR 6000 oc os ot om os) : ∀ (n fuel : Nat) (c m : Nat → Int32) (x : Int32), n < fuel → 0 ≤ x.toInt → x.toInt + n = os.toInt → RR 6000 c x 0 m x → ∃ c' m', bX2_copyFrom_6 fuel 6000 c x 0 6000 oc os x = some (c', os, 0) ∧ bX7_loop_10 fuel m om os os x = some (os, m', os) ∧ RR 6000 c' os 0 m' os := by
  obtain ⟨h1, h2, h3, h4, h5⟩ := hO
  have h4' : os.toInt ≤ 6000 := h4
  intro n
  induction n with
  | zero =>
    intro fuel c m x hf h0 hx h
    obtain ⟨f, rfl⟩ : ∃ f, fuel = f + 1 := ⟨fuel - 1, by omega⟩
    have e : x = os := zeq.mpr (by omega)
    subst e
    refine ⟨c, m, ?_, ?_, h⟩
    · rw [bX2_copyFrom_6, if_pos (by rw [zle]; omega)]
    · rw [bX7_loop_10, if_pos (by rw [zle]; omega)]
  | succ n ih =>
    intro fuel c m x hf h0 hx h
    obtain ⟨f, rfl⟩ : ∃ f, fuel = f + 1 := ⟨fuel - 1, by omega⟩
    have e1 : (x + 1).toInt = x.toInt + 1 := by rw [zadd (by rw [z1]; omega) (by rw [z1]; omega), z1]
    obtain ⟨u1, u2⟩ := h5 x.toInt.toNat (by omega)
    have hp := h.push (x := catv oc os x) (y := om x.toInt.toNat) (by omega) (by show _ < (6000 : Int); omega) (by rw [catv_in h0 (by omega), b8_and, zcl, u1])
    rw [b8_b8] at hp
    rw [b8_b8] at hp
    obtain ⟨c', m', g1, g2, g3⟩ := ih f _ _ (x + 1) (by omega) (by omega) (by omega) hp
    refine ⟨c', m', ?_, ?_, g3⟩
    · rw [bX2_copyFrom_6, if_neg (by rw [zle]; omega), cat h4, Option.bind_some, cpush (by omega) h0 (by show _ < (6000 : Int); omega), Option.bind_some, b8_b8]
      exact g1
    · rw [bX7_loop_10, if_neg (by rw [zle]; omega), if_pos ⟨h0, by omega⟩, if_pos ⟨h0, by omega⟩]
      exact g2
theorem sim_loop (hL : RR 6000 c s t m ms) (hO : RR 6000 oc os ot om oms) : ∃ r r', fX6_loop c s t oc os = some r ∧ fX7_loop m om ms oms = some r' ∧ r.1 = r'.1 ∧ RR 6000 r.2.1 r.2.2.1 r.2.2.2 r'.2.1 r'.2.2 := by
  obtain ⟨h1, h2, h3, h4, h5⟩ := id hO
  have h4' : os.toInt ≤ 6000 := h4
  subst h1
  obtain ⟨c', m', g1, g2, g3⟩ := ccopy hO oms.toInt.toNat FU c m 0 (by unfold FU; omega) (by decide) (by rw [z0]; omega) RR.zero
  unfold fX6_loop bX6_loop_0 fX2_copyFrom bX2_copyFrom_0 fX2_clear bX2_clear_0 fX2_size bX2_size_0 fX7_loop bX7_loop_0
  rw [Option.bind_some, g1, g2]
  exact ⟨_, _, rfl, rfl, rfl, g3⟩
end Loop
