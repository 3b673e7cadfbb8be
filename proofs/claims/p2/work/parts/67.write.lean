/-! write -/
section Wr
variable {kinds starts lengths depths b_cells openKinds : Nat → Int32} {numbers : Nat → Int64} {b_size b_tooLong size depth named : Int32} {mk ms ml mw mp mi mb mo mm md : Nat → Int32} {mn : Nat → Int64} {ni nc nh ti tc th tb tz oc dr opened ends wr : Nat → Int32} {nz tz0 os ot ds ws f : Int32}
theorem rcopyw (hd0 : 0 ≤ ds.toInt) (hd1 : ds.toInt ≤ 6000) : ∀ (n fuel : Nat) (x : Int32) (wr : Nat → Int32), n < fuel → 0 ≤ x.toInt → x.toInt + n = ds.toInt → ∃ wr', bX7_write_186 fuel wr dr mk mn ms ml mw mp mi md tb tz ends ds ds x = some (ds, wr', dr, tb, tz, ends, ds, ds) ∧ ∀ j : Nat, ((j : Int) < x.toInt → wr' j = wr j) ∧ (x.toInt ≤ j → (j : Int) < ds.toInt → wr' j = b8 (dr j)) := by
  intro n
  induction n with
  | zero =>
    intro fuel x wr hf hx hn
    obtain ⟨f, rfl⟩ : ∃ f, fuel = f + 1 := ⟨fuel - 1, by omega⟩
    refine ⟨wr, ?_, fun j => ⟨fun _ => rfl, fun a b => by omega⟩⟩
    rw [bX7_write_186, if_pos (by rw [zle]; omega)]
  | succ n ih =>
    intro fuel x wr hf hx hn
    obtain ⟨f, rfl⟩ : ∃ f, fuel = f + 1 := ⟨fuel - 1, by omega⟩
    have e1 : (x + 1).toInt = x.toInt + 1 := by rw [zadd (by rw [z1]; omega) (by rw [z1]; omega), z1]
    obtain ⟨wr', g1, g2⟩ := ih f (x + 1) (upd wr x.toNatClampNeg (b8 (dr x.toNatClampNeg))) (by omega) (by omega) (by omega)
    refine ⟨wr', ?_, fun j => ⟨fun h => ?_, fun h h2 => ?_⟩⟩
    · rw [bX7_write_186, if_neg (by rw [zle]; omega), if_pos ⟨hx, by omega⟩, if_pos ⟨hx, by omega⟩]; exact g1
    · rw [(g2 j).1 (by omega), upd_ne (by rw [zcl]; omega)]
    · by_cases g : (j : Int) = x.toInt
      · rw [(g2 j).1 (by omega), show j = x.toNatClampNeg by rw [zcl]; omega, upd_same]
      · exact (g2 j).2 (by omega) h2
theorem loopB (hR : DR 0 kinds starts lengths depths numbers b_cells b_size b_tooLong openKinds size depth named mk mn ms ml mw mp mi mb mo mm md) {k : Nat} (hk : k < 8) : ∀ (n fuel : Nat) (x : Int32) (opened ni nc nh : Nat → Int32) (nz : Int32) (ti tc th : Nat → Int32) (tz0 : Int32) (oc : Nat → Int32) (os ot : Int32) (dr : Nat → Int32) (ds : Int32) (tb tz ends : Nat → Int32), n < fuel → 0 ≤ x.toInt → x.toInt + n = size.toInt → TW 0 size (sameT starts lengths b_cells) (bkt starts lengths b_cells b_size size) ni nc nh nz tb tz → TW 1 size (sameT starts lengths b_cells) (bkt starts lengths b_cells b_size size) ti tc th tz0 tb tz → EO kinds depths x.toInt.toNat opened ends → OR oc os ot dr ds → 6000 < ds.toInt → ds.toInt ≤ 10100 * x.toInt + 100 → ∃ r, bX7_write_69 fuel wr dr mk mn ms ml mw mp mi md tb tz ends ws ds (nI k) x = some r ∧ r.1 = -2 ∧ r.2.1 = wr ∧ r.2.2.2.2.2.2.1 = ws := by
  have a1 := hR.1.1
  have a6 := hR.1.2.2.2.2.2.1
  have c0 : Int32.toNatClampNeg 0 = 0 := by decide
  intro n
  induction n with
  | zero =>
    intro fuel x opened ni nc nh nz ti tc th tz0 oc os ot dr ds tb tz ends hf hx hn hN hT hE h h6 hb
    obtain ⟨f, rfl⟩ : ∃ f, fuel = f + 1 := ⟨fuel - 1, by omega⟩
    rw [bX7_write_69, if_pos i02, c0, a1, if_pos (by rw [zle]; omega), if_neg (by rw [zle, z6000]; omega)]
    exact ⟨_, rfl, rfl, rfl, rfl⟩
  | succ n ih =>
    intro fuel x opened ni nc nh nz ti tc th tz0 oc os ot dr ds tb tz ends hf hx hn hN hT hE h h6 hb
    obtain ⟨f, rfl⟩ : ∃ f, fuel = f + 1 := ⟨fuel - 1, by omega⟩
    have e1 : (x + 1).toInt = x.toInt + 1 := by rw [zadd (by rw [z1]; omega) (by rw [z1]; omega), z1]
    obtain ⟨opened', ni', nc', nh', nz', ti', tc', th', tz0', oc', os', ot', dr', ds', tb', tz', ends', p1, p2, p3, p4, p5, p6, p7, p8⟩ := sim_witem hR hk hx (by omega) hN hT hE h (by omega)
    rw [p2 f wr ws]
    refine ih f (x + 1) opened' ni' nc' nh' nz' ti' tc' th' tz0' oc' os' ot' dr' ds' tb' tz' ends' (by omega) (by omega) (by omega) p4 p5 ?_ p3 (by omega) (by omega)
    rw [e1, show (x.toInt + 1).toNat = x.toInt.toNat + 1 by omega]; exact p6
theorem ctoolong (h : OR oc os ot dr ds) : fX2_isTooLong ot = some ot ∧ (ot = 0 ∨ ot = 1) := by
  have : ot = 0 ∨ ot = 1 := by
    rcases h.2 with ⟨_, _, h3, _⟩ | ⟨_, _, h3⟩
    · exact Or.inl h3
    · exact Or.inr h3
  refine ⟨?_, this⟩
  unfold fX2_isTooLong bX2_isTooLong_0
  rw [if_pos this]
theorem loopA (hR : DR 0 kinds starts lengths depths numbers b_cells b_size b_tooLong openKinds size depth named mk mn ms ml mw mp mi mb mo mm md) {k : Nat} (hk : k < 8) : ∀ (n fuel : Nat) (x : Int32) (opened ni nc nh : Nat → Int32) (nz : Int32) (ti tc th : Nat → Int32) (tz0 : Int32) (oc : Nat → Int32) (os ot : Int32) (dr : Nat → Int32) (ds : Int32) (tb tz ends : Nat → Int32), n < fuel → 0 ≤ x.toInt → x.toInt + n = size.toInt → TW 0 size (sameT starts lengths b_cells) (bkt starts lengths b_cells b_size size) ni nc nh nz tb tz → TW 1 size (sameT starts lengths b_cells) (bkt starts lengths b_cells b_size size) ti tc th tz0 tb tz → EO kinds depths x.toInt.toNat opened ends → OR oc os ot dr ds → ds.toInt ≤ 10100 * x.toInt + 100 → ∃ r r', bX5_encode_77 fuel opened (nI k) ni nc nh nz ti tc th tz0 kinds starts lengths depths numbers b_cells b_size size oc os ot x = some r ∧ bX7_write_69 fuel wr dr mk mn ms ml mw mp mi md tb tz ends ws ds (nI k) x = some r' ∧ ((r.1 = 0 ∧ r'.1 = -2 ∧ r'.2.1 = wr ∧ r'.2.2.2.2.2.2.1 = ws) ∨ (r.1 = 1 ∧ r'.1 = r.2.2.2.2.2.2.2.2.2.2.2.2.1 ∧ RR 6000 r.2.2.2.2.2.2.2.2.2.2.2.1 r.2.2.2.2.2.2.2.2.2.2.2.2.1 r.2.2.2.2.2.2.2.2.2.2.2.2.2 r'.2.1 r'.2.2.2.2.2.2.1)) := by
  have a1 := hR.1.1
  have a6 := hR.1.2.2.2.2.2.1
  have c0 : Int32.toNatClampNeg 0 = 0 := by decide
  have h10 : ¬ ((1 : Int32) = 0) := by decide
  intro n
  induction n with
  | zero =>
    intro fuel x opened ni nc nh nz ti tc th tz0 oc os ot dr ds tb tz ends hf hx hn hN hT hE h hb
    obtain ⟨f, rfl⟩ : ∃ f, fuel = f + 1 := ⟨fuel - 1, by omega⟩
    obtain ⟨o1, o2⟩ := ctoolong h
    have hle : size ≤ x := by rw [zle]; omega
    unfold bX5_encode_77 fX0_size bX0_size_0 bX5_encode_111
    rw [Option.bind_some, if_pos hle, o1, Option.bind_some, bX7_write_69, if_pos i02, c0, a1, if_pos hle]
    obtain ⟨g0, g⟩ := h
    rcases g with ⟨g1, g2, g3, g4⟩ | ⟨g1, g2, g3⟩
    · subst g2 g3
      rw [if_pos rfl, if_pos (show os ≤ 6000 by rw [zle, z6000]; exact g1)]
      obtain ⟨wr', w1, w2⟩ := rcopyw (dr := dr) (mk := mk) (mn := mn) (ms := ms) (ml := ml) (mw := mw) (mp := mp) (mi := mi) (md := md) (tb := tb) (tz := tz) (ends := ends) g0 g1 os.toInt.toNat FU 0 wr (by unfold FU; omega) (by decide) (by rw [z0]; omega)
      refine ⟨_, _, rfl, w1, Or.inr ⟨rfl, rfl, rfl, rfl, g0, g1, fun j hj => ?_⟩⟩
      obtain ⟨u1, u2⟩ := g4 j hj
      refine ⟨?_, u2⟩
      show wr' j = oc j
      rw [(w2 j).2 (by rw [z0]; omega) hj, u1, u2]
    · subst g3
      rw [if_neg h10, if_neg (show ¬ ds ≤ 6000 by rw [zle, z6000]; omega)]
      exact ⟨_, _, rfl, rfl, Or.inl ⟨rfl, rfl, rfl, rfl⟩⟩
  | succ n ih =>
    intro fuel x opened ni nc nh nz ti tc th tz0 oc os ot dr ds tb tz ends hf hx hn hN hT hE h hb
    obtain ⟨f, rfl⟩ : ∃ f, fuel = f + 1 := ⟨fuel - 1, by omega⟩
    have e1 : (x + 1).toInt = x.toInt + 1 := by rw [zadd (by rw [z1]; omega) (by rw [z1]; omega), z1]
    obtain ⟨o1, o2⟩ := ctoolong h
    have hle : ¬ size ≤ x := by rw [zle]; omega
    by_cases g : ot = 0
    · obtain ⟨opened', ni', nc', nh', nz', ti', tc', th', tz0', oc', os', ot', dr', ds', tb', tz', ends', p1, p2, p3, p4, p5, p6, p7, p8⟩ := sim_witem hR hk hx (by omega) hN hT hE h (by omega)
      obtain ⟨r, r', q1, q2, q3⟩ := ih f (x + 1) opened' ni' nc' nh' nz' ti' tc' th' tz0' oc' os' ot' dr' ds' tb' tz' ends' (by omega) (by omega) (by omega) p4 p5 (by rw [e1, show (x.toInt + 1).toNat = x.toInt.toNat + 1 by omega]; exact p6) p3 (by omega)
      refine ⟨r, r', ?_, ?_, q3⟩
      · rw [bX5_encode_77]
        unfold fX0_size bX0_size_0
        rw [Option.bind_some, if_neg hle, o1, Option.bind_some, if_pos g, p1, Option.bind_some]
        exact q1
      · rw [p2 f wr ws]; exact q2
    · have g1 : ot = 1 := by rcases o2 with h | h; exact absurd h g; exact h
      have h6 : 6000 < ds.toInt := by
        rcases h.2 with ⟨_, _, h3, _⟩ | ⟨h3, _, _⟩
        · exact absurd h3 g
        · exact h3
      obtain ⟨r', q1, q2, q3, q4⟩ := loopB (wr := wr) (ws := ws) hR hk (n + 1) (f + 1) x opened ni nc nh nz ti tc th tz0 oc os ot dr ds tb tz ends hf hx hn hN hT hE h h6 hb
      rw [q1, bX5_encode_77]
      unfold fX0_size bX0_size_0 bX5_encode_111
      rw [Option.bind_some, if_neg hle, o1, Option.bind_some, if_neg g, Option.bind_some, if_neg g]
      exact ⟨_, _, rfl, rfl, Or.inl ⟨rfl, q2, q3, q4⟩⟩
theorem sim_write (hR : DR 0 kinds starts lengths depths numbers b_cells b_size b_tooLong openKinds size depth named mk mn ms ml mw mp mi mb mo mm md) (fl : Int32) (p : Int32) : ∃ r r', fX6_write oc os ot kinds starts lengths depths numbers b_cells b_size size depth ni nc nh nz ti tc th tz0 opened fl p = some r ∧ fX7_write wr dr mk mn ms ml mw mp mi md tb tz ends ws ds p = some r' ∧ r.1 = r'.1 ∧ (((r.2.1 = 0 ∨ r.2.1 = 2) ∧ r'.2.1 = wr ∧ r'.2.2.2.2.2.2.1 = ws) ∨ (r.2.1 = 1 ∧ RR 6000 r.2.2.1 r.2.2.2.1 r.2.2.2.2.1 r'.2.1 r'.2.2.2.2.2.2.1)) := by
  obtain ⟨a1, a2, a3, a4, a5, a6, a7, a8, a9, a10, a11, a12⟩ := id hR.1
  have c0 : Int32.toNatClampNeg 0 = 0 := by decide
  have c1 : Int32.toNatClampNeg 1 = 1 := by decide
  have z7 : (7 : Int32).toInt = 7 := by decide
  have w := rwhole (mi := mi) (md := md) (d := 0) (by omega)
  rw [nI_0, a1, a3] at w
  unfold fX6_write bX6_write_0 fX7_write bX7_write_0
  rw [w, Option.bind_some]
  by_cases g0 : p < 0
  · rw [if_pos g0]
    by_cases gw : 0 < size.toInt ∧ depth.toInt = 0
    · rw [if_pos gw, if_neg (show ¬ ((1 : Int32) = 0) by decide)]; rw [if_pos g0]; exact ⟨_, _, rfl, rfl, rfl, Or.inl ⟨Or.inl rfl, rfl, rfl⟩⟩
    · rw [if_neg gw, if_pos rfl]; exact ⟨_, _, rfl, rfl, rfl, Or.inl ⟨Or.inl rfl, rfl, rfl⟩⟩
  rw [if_neg g0]
  by_cases g7 : 7 < p
  · rw [if_pos g7]
    by_cases gw : 0 < size.toInt ∧ depth.toInt = 0
    · rw [if_pos gw, if_neg (show ¬ ((1 : Int32) = 0) by decide), if_neg g0, if_neg (Int32.not_le.mpr g7)]; exact ⟨_, _, rfl, rfl, rfl, Or.inl ⟨Or.inl rfl, rfl, rfl⟩⟩
    · rw [if_neg gw, if_pos rfl]; exact ⟨_, _, rfl, rfl, rfl, Or.inl ⟨Or.inl rfl, rfl, rfl⟩⟩
  rw [if_neg g7, cwhole, Option.bind_some]
  by_cases gw : 0 < size.toInt ∧ depth.toInt = 0
  · have h10 : ¬ ((1 : Int32) = 0) := by decide
    rw [if_pos gw, if_neg h10, if_neg h10, if_neg g0, if_pos (Int32.not_lt.mp g7), if_pos i02, if_pos (show ix 1 2 by decide), c0, c1]
    rw [zlt, z0] at g0
    rw [zlt, z7] at g7
    have ep : p = nI p.toInt.toNat := zNeg (by omega)
    have hk : p.toInt.toNat < 8 := by omega
    generalize p.toInt.toNat = k at ep hk
    subst ep
    obtain ⟨nh', n1, n2⟩ := cclear (heads := nh) (sz := nz)
    obtain ⟨th', t1, t2⟩ := cclear (heads := th) (sz := tz0)
    have hO : OR oc 0 0 dr 0 := ⟨by decide, Or.inl ⟨by decide, rfl, rfl, fun k hk => by rw [z0] at hk; omega⟩⟩
    obtain ⟨oc1, os1, ot1, dr1, ds1, p1, p2, p3, p4, p5⟩ := hO.put (x := 58) (y := 58) (by decide) rfl
    obtain ⟨oc2, os2, ot2, dr2, ds2, q1, q2, q3, q4, q5⟩ := p3.put (x := 41) (y := 41) (by rw [z0] at p5; omega) rfl
    obtain ⟨oc3, os3, ot3, dr3, ds3, r1, r2, r3, r4, r5⟩ := q3.put (x := 10) (y := 10) (by rw [z0] at p5; omega) rfl
    obtain ⟨oc4, os4, ot4, dr4, ds4, s1, s2, s3, s4, s5⟩ := r3.put (x := nI k) (y := nI k) (by rw [z0] at p5; omega) rfl
    rw [z0] at p5
    have hN : TW 0 size (sameT starts lengths b_cells) (bkt starts lengths b_cells b_size size) ni nc nh' 0 tb (upd (upd tz 0 0) 1 0) := TW.empty (by rw [upd_ne (by omega), upd_same]) n2
    have hT : TW 1 size (sameT starts lengths b_cells) (bkt starts lengths b_cells b_size size) ti tc th' 0 tb (upd (upd tz 0 0) 1 0) := TW.empty (by rw [upd_same]) t2
    have hE : EO kinds depths (0 : Int32).toInt.toNat opened ends := by
      rw [z0]
      intro e he ⟨j, j1, _⟩
      exact absurd j1 (by omega)
    obtain ⟨x, x', y1, y2, y3⟩ := loopA (wr := wr) (ws := ws) hR hk size.toInt.toNat FU 0 opened ni nc nh' 0 ti tc th' 0 oc4 os4 ot4 dr4 ds4 tb (upd (upd tz 0 0) 1 0) ends (by unfold FU; omega) (by decide) (by rw [z0]; omega) hN hT hE s3 (by rw [z0]; omega)
    have hc : fX5_encode opened fl ni nc nh nz ti tc th tz0 kinds starts lengths depths numbers b_cells b_size size oc os ot (nI k) = some x := by
      unfold fX5_encode bX5_encode_0 fX2_clear bX2_clear_0
      rw [n1, Option.bind_some, t1, Option.bind_some, Option.bind_some, p1, Option.bind_some, q1, Option.bind_some, r1, Option.bind_some, s1, Option.bind_some]
      exact y1
    rw [hc, p2, Option.bind_some, Option.bind_some, q2, Option.bind_some, r2, Option.bind_some, s2, Option.bind_some, y2]
    rcases y3 with ⟨u1, u2, u3, u4⟩ | ⟨u1, u2, u3⟩
    · rw [if_pos u1]
      exact ⟨_, _, rfl, rfl, u2.symm, Or.inl ⟨Or.inr rfl, u3, u4⟩⟩
    · rw [if_neg (by rw [u1]; decide)]
      unfold fX2_size bX2_size_0
      exact ⟨_, _, rfl, rfl, u2.symm, Or.inr ⟨rfl, u3⟩⟩
  · rw [if_neg gw, if_pos rfl, if_pos rfl]; exact ⟨_, _, rfl, rfl, rfl, Or.inl ⟨Or.inl rfl, rfl, rfl⟩⟩
end Wr
