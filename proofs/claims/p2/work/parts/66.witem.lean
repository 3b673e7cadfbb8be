/-! an item written on both sides -/
section WItem
variable {kinds starts lengths depths b_cells openKinds : Nat → Int32} {numbers : Nat → Int64} {b_size b_tooLong size depth named : Int32} {mk ms ml mw mp mi mb mo mm md : Nat → Int32} {mn : Nat → Int64} {ni nc nh ti tc th tb tz oc dr opened ends wr : Nat → Int32} {nz tz0 os ot ds ws f : Int32}
theorem sim_witem (hR : DR 0 kinds starts lengths depths numbers b_cells b_size b_tooLong openKinds size depth named mk mn ms ml mw mp mi mb mo mm md) {i : Int32} {k : Nat} (hk : k < 8) (h0 : 0 ≤ i.toInt) (h1 : i.toInt < size.toInt) (hN : TW 0 size (sameT starts lengths b_cells) (bkt starts lengths b_cells b_size size) ni nc nh nz tb tz) (hT : TW 1 size (sameT starts lengths b_cells) (bkt starts lengths b_cells b_size size) ti tc th tz0 tb tz) (hE : EO kinds depths i.toInt.toNat opened ends) (h : OR oc os ot dr ds) (hd : ds.toInt < 2147000000) : ∃ opened' ni' nc' nh' nz' ti' tc' th' tz0' oc' os' ot' dr' ds' tb' tz' ends', fX5_encodeItem opened (nI k) ni nc nh nz ti tc th tz0 kinds starts lengths depths numbers b_cells b_size size oc os ot i = some (opened', ni', nc', nh', nz', ti', tc', th', tz0', oc', os', ot') ∧ (∀ (nn : Nat) (wr : Nat → Int32) (ws : Int32), bX7_write_69 (nn + 1) wr dr mk mn ms ml mw mp mi md tb tz ends ws ds (nI k) i = bX7_write_69 nn wr dr' mk mn ms ml mw mp mi md tb' tz' ends' ws ds' (nI k) (i + 1)) ∧ OR oc' os' ot' dr' ds' ∧ TW 0 size (sameT starts lengths b_cells) (bkt starts lengths b_cells b_size size) ni' nc' nh' nz' tb' tz' ∧ TW 1 size (sameT starts lengths b_cells) (bkt starts lengths b_cells b_size size) ti' tc' th' tz0' tb' tz' ∧ EO kinds depths (i.toInt.toNat + 1) opened' ends' ∧ ds.toInt ≤ ds'.toInt ∧ ds'.toInt ≤ ds.toInt + 10100 := by
  obtain ⟨i1, i2, f1, f2, f3, f4, f5, f6, f7, f8, f9⟩ := item_facts hR h0 h1
  have a1 := hR.1.1
  have a6 := hR.1.2.2.2.2.2.1
  obtain ⟨b1, b2, b3, b4, b5, b6, b7, b8', b9, b10, b11, b12⟩ := hR.2.1 i.toInt.toNat (by omega)
  have b9' : 0 ≤ (depths i.toNatClampNeg).toInt := b9
  have b10' : (depths i.toNatClampNeg).toInt ≤ 30 := b10
  have hmi : ¬ mi 0 ≤ i := by rw [a1, zle]; omega
  have hkd : fX0_kindOf kinds size i = some (kinds i.toNatClampNeg) := by rw [ckind a6 h0 h1]; rfl
  have hnum : fX0_numberOf numbers size i = some (numbers i.toNatClampNeg) := by rw [cnumber a6 h0 h1]; rfl
  have hw31 : ix (mw i.toNatClampNeg) 31 := by rw [f5]; exact ⟨b9', by omega⟩
  have mv : ∀ (u : Nat) (tb' tz' : Nat → Int32), (tz' u = tz u ∧ ∀ p : Nat, p < 1024 → tb' (1024 * u + p) = tb (1024 * u + p)) → True := fun _ _ _ _ => trivial
  rcases k12 (x := kinds i.toNatClampNeg) b11 b12 with e | e | e | e | e | e | e | e | e | e | e | e
  · obtain ⟨oc1, os1, ot1, dr1, ds1, p1, p2, p3, p4, p5⟩ := h.put (x := 33 + 0) (y := 33 + 0) (by omega) rfl
    refine ⟨opened, ni, nc, nh, nz, ti, tc, th, tz0, oc1, os1, ot1, dr1, ds1, tb, tz, ends, ?_, fun nn wr ws => ?_, p3, hN, hT, hE.skip (by show ¬ (kinds i.toNatClampNeg = 5 ∨ kinds i.toNatClampNeg = 6); rw [e]; decide), p4, by omega⟩
    · unfold fX5_encodeItem bX5_encodeItem_0
      rw [hkd, Option.bind_some, e, Option.bind_some, p1]; rfl
    · refine rs_other i2 hmi (by rw [f1, e]; decide) (by rw [f1, e]; decide) (by rw [f1, e]; decide) nn ?_
      unfold fX7_putItem bX7_putItem_0
      simp only [if_pos i2]
      rw [f1, e, p2]; rfl
  · obtain ⟨oc1, os1, ot1, dr1, ds1, p1, p2, p3, p4, p5⟩ := h.put (x := 33 + 1) (y := 33 + 1) (by omega) rfl
    refine ⟨opened, ni, nc, nh, nz, ti, tc, th, tz0, oc1, os1, ot1, dr1, ds1, tb, tz, ends, ?_, fun nn wr ws => ?_, p3, hN, hT, hE.skip (by show ¬ (kinds i.toNatClampNeg = 5 ∨ kinds i.toNatClampNeg = 6); rw [e]; decide), p4, by omega⟩
    · unfold fX5_encodeItem bX5_encodeItem_0
      rw [hkd, Option.bind_some, e, Option.bind_some, p1]; rfl
    · refine rs_other i2 hmi (by rw [f1, e]; decide) (by rw [f1, e]; decide) (by rw [f1, e]; decide) nn ?_
      unfold fX7_putItem bX7_putItem_0
      simp only [if_pos i2]
      rw [f1, e, p2]; rfl
  · obtain ⟨oc1, os1, ot1, dr1, ds1, p1, p2, p3, p4, p5⟩ := h.put (x := 33 + 2) (y := 33 + 2) (by omega) rfl
    refine ⟨opened, ni, nc, nh, nz, ti, tc, th, tz0, oc1, os1, ot1, dr1, ds1, tb, tz, ends, ?_, fun nn wr ws => ?_, p3, hN, hT, hE.skip (by show ¬ (kinds i.toNatClampNeg = 5 ∨ kinds i.toNatClampNeg = 6); rw [e]; decide), p4, by omega⟩
    · unfold fX5_encodeItem bX5_encodeItem_0
      rw [hkd, Option.bind_some, e, Option.bind_some, p1]; rfl
    · refine rs_other i2 hmi (by rw [f1, e]; decide) (by rw [f1, e]; decide) (by rw [f1, e]; decide) nn ?_
      unfold fX7_putItem bX7_putItem_0
      simp only [if_pos i2]
      rw [f1, e, p2]; rfl
  · obtain ⟨ti', tc', th', tz0', oc1, os1, ot1, dr1, ds1, tb', tz', p1, p2, p3, p4, p5, p6, p7⟩ := simText hR hT hk h0 h1 h hd
    have ho := p5 0 (by omega) (by omega)
    refine ⟨opened, ni, nc, nh, nz, ti', tc', th', tz0', oc1, os1, ot1, dr1, ds1, tb', tz', ends, ?_, fun nn wr ws => ?_, p3, hN.other (u := 0) ho.2 ho.1, p4, hE.skip (by show ¬ (kinds i.toNatClampNeg = 5 ∨ kinds i.toNatClampNeg = 6); rw [e]; decide), p6, by omega⟩
    · unfold fX5_encodeItem bX5_encodeItem_0
      rw [hkd, Option.bind_some, e, p1]; rfl
    · refine rs_other i2 hmi (by rw [f1, e]; decide) (by rw [f1, e]; decide) (by rw [f1, e]; decide) nn ?_
      unfold fX7_putItem bX7_putItem_0
      simp only [if_pos i2]
      rw [f1, e, p2]; rfl
  · obtain ⟨oc1, os1, ot1, dr1, ds1, p1, p2, p3, p4, p5⟩ := sim_bytes (tb := tb) (tz := tz) hR hk h0 h1 h hd
    refine ⟨opened, ni, nc, nh, nz, ti, tc, th, tz0, oc1, os1, ot1, dr1, ds1, tb, tz, ends, ?_, fun nn wr ws => ?_, p3, hN, hT, hE.skip (by show ¬ (kinds i.toNatClampNeg = 5 ∨ kinds i.toNatClampNeg = 6); rw [e]; decide), p4, by omega⟩
    · unfold fX5_encodeItem bX5_encodeItem_0
      rw [hkd, Option.bind_some, e, p1]; rfl
    · refine rs_other i2 hmi (by rw [f1, e]; decide) (by rw [f1, e]; decide) (by rw [f1, e]; decide) nn ?_
      unfold fX7_putItem bX7_putItem_0
      simp only [if_pos i2]
      rw [f1, e, p2]; rfl
  · obtain ⟨oc1, os1, ot1, dr1, ds1, p1, p2, p3, p4, p5⟩ := sim_opening (s := 248) (opened := opened) hR h0 h1 h hd
    have hEn := hE.opens (by show kinds i.toNatClampNeg = 5 ∨ kinds i.toNatClampNeg = 6; rw [e]; decide) b9
    refine ⟨_, ni, nc, nh, nz, ti, tc, th, tz0, oc1, os1, ot1, dr1, ds1, tb, tz, _, ?_, fun nn wr ws => ?_, p3, hN, hT, hEn, p4, by omega⟩
    · unfold fX5_encodeItem bX5_encodeItem_0
      rw [hkd, e, Option.bind_some, p1]; rfl
    · have hs := rs_open (mk := mk) (mw := mw) (mi := mi) (wr := wr) (ws := ws) (f := nI k) (ends := ends) (tb := tb) (tz := tz) (dr := dr) (ds := ds) (ms := ms) (ml := ml) (mp := mp) (md := md) (mn := mn) (dr' := dr1) (ds' := ds1) (tb' := tb) (tz' := tz) i2 hmi (by rw [f1, e]; decide) hw31 nn (by
        unfold fX7_putItem bX7_putItem_0
        simp only [if_pos i2]
        rw [f1, e, p2]; rfl)
      rw [f1, f5] at hs
      exact hs
  · obtain ⟨oc1, os1, ot1, dr1, ds1, p1, p2, p3, p4, p5⟩ := sim_opening (s := 250) (opened := opened) hR h0 h1 h hd
    have hEn := hE.opens (by show kinds i.toNatClampNeg = 5 ∨ kinds i.toNatClampNeg = 6; rw [e]; decide) b9
    refine ⟨_, ni, nc, nh, nz, ti, tc, th, tz0, oc1, os1, ot1, dr1, ds1, tb, tz, _, ?_, fun nn wr ws => ?_, p3, hN, hT, hEn, p4, by omega⟩
    · unfold fX5_encodeItem bX5_encodeItem_0
      rw [hkd, e, Option.bind_some, p1]; rfl
    · have hs := rs_open (mk := mk) (mw := mw) (mi := mi) (wr := wr) (ws := ws) (f := nI k) (ends := ends) (tb := tb) (tz := tz) (dr := dr) (ds := ds) (ms := ms) (ml := ml) (mp := mp) (md := md) (mn := mn) (dr' := dr1) (ds' := ds1) (tb' := tb) (tz' := tz) i2 hmi (by rw [f1, e]; decide) hw31 nn (by
        unfold fX7_putItem bX7_putItem_0
        simp only [if_pos i2]
        rw [f1, e, p2]; rfl)
      rw [f1, f5] at hs
      exact hs
  · obtain ⟨oc1, os1, ot1, dr1, ds1, p1, p2, p3, p4, p5⟩ := sim_int (numbers i.toNatClampNeg) h hd
    refine ⟨opened, ni, nc, nh, nz, ti, tc, th, tz0, oc1, os1, ot1, dr1, ds1, tb, tz, ends, ?_, fun nn wr ws => ?_, p3, hN, hT, hE.skip (by show ¬ (kinds i.toNatClampNeg = 5 ∨ kinds i.toNatClampNeg = 6); rw [e]; decide), p4, by omega⟩
    · unfold fX5_encodeItem bX5_encodeItem_0
      rw [hkd, Option.bind_some, e, hnum, Option.bind_some, p1]; rfl
    · refine rs_other i2 hmi (by rw [f1, e]; decide) (by rw [f1, e]; decide) (by rw [f1, e]; decide) nn ?_
      unfold fX7_putItem bX7_putItem_0
      simp only [if_pos i2]
      rw [f1, e, f2, p2]; rfl
  · obtain ⟨oc1, os1, ot1, dr1, ds1, p1, p2, p3, p4, p5⟩ := sim_rea (numbers i.toNatClampNeg) 40 5 (by omega) h hd
    rw [show nI 5 = (5 : Int32) from by decide] at p1 p2
    refine ⟨opened, ni, nc, nh, nz, ti, tc, th, tz0, oc1, os1, ot1, dr1, ds1, tb, tz, ends, ?_, fun nn wr ws => ?_, p3, hN, hT, hE.skip (by show ¬ (kinds i.toNatClampNeg = 5 ∨ kinds i.toNatClampNeg = 6); rw [e]; decide), p4, by omega⟩
    · unfold fX5_encodeItem bX5_encodeItem_0
      rw [hkd, Option.bind_some, e, hnum, Option.bind_some, Option.bind_some, Option.bind_some, p1]; rfl
    · refine rs_other i2 hmi (by rw [f1, e]; decide) (by rw [f1, e]; decide) (by rw [f1, e]; decide) nn ?_
      obtain ⟨v, v1, v2⟩ := Option.bind_eq_some_iff.mp p2
      unfold fX7_putItem bX7_putItem_0
      simp only [if_pos i2]
      rw [f1, e, f2, v1]
      show ((fX7_putReal v.1 v.2 (numbers i.toNatClampNeg) 5).bind fun v3 => some (v3.1, tb, tz, v3.2)) = _
      rw [v2]; rfl
  · obtain ⟨oc1, os1, ot1, dr1, ds1, p1, p2, p3, p4, p5⟩ := sim_rea (numbers i.toNatClampNeg) 41 10 (by omega) h hd
    rw [show nI 10 = (10 : Int32) from by decide] at p1 p2
    refine ⟨opened, ni, nc, nh, nz, ti, tc, th, tz0, oc1, os1, ot1, dr1, ds1, tb, tz, ends, ?_, fun nn wr ws => ?_, p3, hN, hT, hE.skip (by show ¬ (kinds i.toNatClampNeg = 5 ∨ kinds i.toNatClampNeg = 6); rw [e]; decide), p4, by omega⟩
    · unfold fX5_encodeItem bX5_encodeItem_0
      rw [hkd, Option.bind_some, e, hnum, Option.bind_some, Option.bind_some, Option.bind_some, p1]; rfl
    · refine rs_other i2 hmi (by rw [f1, e]; decide) (by rw [f1, e]; decide) (by rw [f1, e]; decide) nn ?_
      obtain ⟨v, v1, v2⟩ := Option.bind_eq_some_iff.mp p2
      unfold fX7_putItem bX7_putItem_0
      simp only [if_pos i2]
      rw [f1, e, f2, v1]
      show ((fX7_putReal v.1 v.2 (numbers i.toNatClampNeg) 10).bind fun v3 => some (v3.1, tb, tz, v3.2)) = _
      rw [v2]; rfl
  · obtain ⟨ni', nc', nh', nz', oc1, os1, ot1, dr1, ds1, tb', tz', p1, p2, p3, p4, p5, p6, p7⟩ := simName hR hN hk h0 h1 h hd
    have ho := p5 1 (by omega) (by omega)
    refine ⟨opened, ni', nc', nh', nz', ti, tc, th, tz0, oc1, os1, ot1, dr1, ds1, tb', tz', ends, ?_, fun nn wr ws => ?_, p3, p4, hT.other (u := 1) ho.2 ho.1, hE.skip (by show ¬ (kinds i.toNatClampNeg = 5 ∨ kinds i.toNatClampNeg = 6); rw [e]; decide), p6, by omega⟩
    · unfold fX5_encodeItem bX5_encodeItem_0
      rw [hkd, Option.bind_some, e, p1]; rfl
    · refine rs_other i2 hmi (by rw [f1, e]; decide) (by rw [f1, e]; decide) (by rw [f1, e]; decide) nn ?_
      unfold fX7_putItem bX7_putItem_0
      simp only [if_pos i2]
      rw [f1, e, p2]; rfl
  · obtain ⟨oc1, os1, ot1, dr1, ds1, p1, p2, p3, p4, p5, p6⟩ := sim_endw (opened := opened) (ends := ends) hR h0 h1 e hE h hd
    refine ⟨opened, ni, nc, nh, nz, ti, tc, th, tz0, oc1, os1, ot1, dr1, ds1, tb, tz, ends, ?_, fun nn wr ws => ?_, p4, hN, hT, hE.skip (by show ¬ (kinds i.toNatClampNeg = 5 ∨ kinds i.toNatClampNeg = 6); rw [e]; decide), p5, by omega⟩
    · unfold fX5_encodeItem bX5_encodeItem_0
      rw [hkd, Option.bind_some, e, p1]; rfl
    · refine rs_end i2 hmi (by rw [f1, e]) hw31 nn ?_
      unfold fX7_putItem bX7_putItem_0 bX7_putItem_240
      simp only [if_pos i2]
      rw [f1, e, f5]
      by_cases g : ends (depths i.toNatClampNeg).toNatClampNeg = 0
      · rw [if_pos g] at p3 ⊢
        rw [if_pos (show (0 : Int32) = 0 from rfl), p3]; rfl
      · rw [if_neg g] at p3 ⊢
        rw [if_neg (show ¬ (1 : Int32) = 0 by decide), p3]; rfl
end WItem
