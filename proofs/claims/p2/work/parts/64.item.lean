/-! an item as it is written -/
def EO (kinds depths : Nat → Int32) (i : Nat) (opened ends : Nat → Int32) : Prop := ∀ e : Nat, e < 30 → (∃ j : Nat, j < i ∧ (kinds j = 5 ∨ kinds j = 6) ∧ (depths j).toInt = e) → (opened e = 6 ↔ ¬ ends e = 0)
section Item
variable {kinds starts lengths depths b_cells openKinds : Nat → Int32} {numbers : Nat → Int64} {b_size b_tooLong size depth named : Int32} {mk ms ml mw mp mi mb mo mm md : Nat → Int32} {mn : Nat → Int64} {ni nc nh ti tc th tb tz oc dr opened ends : Nat → Int32} {nz tz0 os ot ds : Int32}
theorem k12 {x : Int32} (h0 : 0 ≤ x.toInt) (h1 : x.toInt ≤ 11) : x = 0 ∨ x = 1 ∨ x = 2 ∨ x = 3 ∨ x = 4 ∨ x = 5 ∨ x = 6 ∨ x = 7 ∨ x = 8 ∨ x = 9 ∨ x = 10 ∨ x = 11 := by
  have key : ∀ n : Nat, n < 12 → (nI n = 0 ∨ nI n = 1 ∨ nI n = 2 ∨ nI n = 3 ∨ nI n = 4 ∨ nI n = 5 ∨ nI n = 6 ∨ nI n = 7 ∨ nI n = 8 ∨ nI n = 9 ∨ nI n = 10 ∨ nI n = 11) := by decide
  have e : x = nI x.toInt.toNat := zNeg (by omega)
  have := key x.toInt.toNat (by omega)
  rw [← e] at this
  exact this
theorem sim_bytes (hR : DR 0 kinds starts lengths depths numbers b_cells b_size b_tooLong openKinds size depth named mk mn ms ml mw mp mi mb mo mm md) {i : Int32} {k : Nat} (hk : k < 8) (h0 : 0 ≤ i.toInt) (h1 : i.toInt < size.toInt) (h : OR oc os ot dr ds) (hd : ds.toInt < 2147000000) : ∃ oc' os' ot' dr' ds', fX5_encodeBytes (nI k) starts lengths b_cells b_size size oc os ot i = some (oc', os', ot') ∧ (if (nI k &&& 4) = 4 then bX7_putItem_106 dr mk mn ms ml mp tb tz ds i (nI k) 253 else bX7_putItem_106 dr mk mn ms ml mp tb tz ds i (nI k) 232) = some (dr', tb, tz, ds') ∧ OR oc' os' ot' dr' ds' ∧ ds.toInt ≤ ds'.toInt ∧ ds'.toInt ≤ ds.toInt + 10050 := by
  obtain ⟨i1, i2, f1, f2, f3, f4, f5, f6, f7, f8, f9⟩ := item_facts hR h0 h1
  have a6 := hR.1.2.2.2.2.2.1
  have h10 : ¬ ((1 : Int32) = 0) := by decide
  have hlen : fX0_lengthOf lengths size i = some (lengths i.toNatClampNeg) := by rw [clength a6 h0 h1]; rfl
  unfold fX5_encodeBytes bX5_encodeBytes_0 bX5_encodeBytes_14 bX5_encodeBytes_32 bX7_putItem_106
  by_cases g : (nI k &&& 4) = 4
  · rw [if_neg (fun e => (flag2 k hk).mp e g), if_neg h10, if_pos g]
    obtain ⟨oc1, os1, ot1, dr1, ds1, p1, p2, p3, p4, p5⟩ := h.put (x := 253) (y := 253) (by omega) rfl
    obtain ⟨oc2, os2, ot2, dr2, ds2, q1, q2, q3, q4, q5⟩ := sim_cnt (Int32.toInt64 (lengths i.toNatClampNeg)) p3 (by omega)
    obtain ⟨oc3, os3, ot3, dr3, ds3, u1, u2, u3, u4, u5⟩ := sim_copy hR h0 h1 q3 (by omega)
    refine ⟨oc3, os3, ot3, dr3, ds3, ?_, ?_, u3, by omega, by omega⟩
    · rw [p1, Option.bind_some, hlen, Option.bind_some, q1, Option.bind_some, if_neg h10, u1]; rfl
    · rw [p2, Option.bind_some, if_pos i2, f4, q2, Option.bind_some, if_pos g, u2]; rfl
  · rw [if_pos ((flag2 k hk).mpr g), if_pos rfl, if_neg g]
    obtain ⟨oc1, os1, ot1, dr1, ds1, p1, p2, p3, p4, p5⟩ := h.put (x := 232) (y := 232) (by omega) rfl
    obtain ⟨oc2, os2, ot2, dr2, ds2, q1, q2, q3, q4, q5⟩ := sim_cnt (Int32.toInt64 (lengths i.toNatClampNeg)) p3 (by omega)
    obtain ⟨oc3, os3, ot3, dr3, ds3, u1, u2, u3, u4, u5⟩ := sim_seven hR h0 h1 q3 (by omega)
    refine ⟨oc3, os3, ot3, dr3, ds3, ?_, ?_, u3, by omega, by omega⟩
    · rw [p1, Option.bind_some, hlen, Option.bind_some, q1, Option.bind_some, if_pos rfl, u1]; rfl
    · rw [p2, Option.bind_some, if_pos i2, f4, q2, Option.bind_some, if_neg g, u2]; rfl
theorem sim_opening (hR : DR 0 kinds starts lengths depths numbers b_cells b_size b_tooLong openKinds size depth named mk mn ms ml mw mp mi mb mo mm md) {i s : Int32} (h0 : 0 ≤ i.toInt) (h1 : i.toInt < size.toInt) (h : OR oc os ot dr ds) (hd : ds.toInt < 2147000000) : ∃ oc' os' ot' dr' ds', fX5_encodeOpening opened kinds depths size oc os ot i s = some ((if (depths i.toNatClampNeg).toInt < 30 then upd opened (depths i.toNatClampNeg).toInt.toNat (kinds i.toNatClampNeg) else opened), oc', os', ot') ∧ fX7_put dr ds s = some (dr', ds') ∧ OR oc' os' ot' dr' ds' ∧ ds.toInt ≤ ds'.toInt ∧ ds'.toInt ≤ ds.toInt + 1 := by
  obtain ⟨i1, i2, f1, f2, f3, f4, f5, f6, f7, f8, f9⟩ := item_facts hR h0 h1
  have a6 := hR.1.2.2.2.2.2.1
  obtain ⟨b1, b2, b3, b4, b5, b6, b7, b8', b9, b10, b11, b12⟩ := hR.2.1 i.toInt.toNat (by omega)
  have hdp : fX0_depthOf depths size i = some (depths i.toNatClampNeg) := by rw [cdepth a6 h0 h1]; rfl
  have hkd : fX0_kindOf kinds size i = some (kinds i.toNatClampNeg) := by rw [ckind a6 h0 h1]; rfl
  have b9' : 0 ≤ (depths i.toNatClampNeg).toInt := b9
  obtain ⟨oc1, os1, ot1, dr1, ds1, p1, p2, p3, p4, p5⟩ := h.put (x := s) (y := s) (by omega) rfl
  refine ⟨oc1, os1, ot1, dr1, ds1, ?_, p2, p3, p4, p5⟩
  unfold fX5_encodeOpening bX5_encodeOpening_0 bX5_encodeOpening_33
  rw [hdp, Option.bind_some, if_neg (by rw [zlt, z0]; omega), p1, Option.bind_some]
  by_cases g : (depths i.toNatClampNeg).toInt < 30
  · rw [if_neg (by rw [zle, z30]; omega), hkd, Option.bind_some, if_pos ⟨b9', g⟩, if_pos g]; rfl
  · rw [if_pos (by rw [zle, z30]; omega), if_neg g]
theorem sim_endw (hR : DR 0 kinds starts lengths depths numbers b_cells b_size b_tooLong openKinds size depth named mk mn ms ml mw mp mi mb mo mm md) {i : Int32} (h0 : 0 ≤ i.toInt) (h1 : i.toInt < size.toInt) (hk : kinds i.toNatClampNeg = 11) (hE : EO kinds depths i.toInt.toNat opened ends) (h : OR oc os ot dr ds) (hd : ds.toInt < 2147000000) : ∃ oc' os' ot' dr' ds', fX5_encodeEnd opened depths size oc os ot i = some (oc', os', ot') ∧ ix (depths i.toNatClampNeg) 31 ∧ fX7_put dr ds (if ends (depths i.toNatClampNeg).toNatClampNeg = 0 then 249 else 251) = some (dr', ds') ∧ OR oc' os' ot' dr' ds' ∧ ds.toInt ≤ ds'.toInt ∧ ds'.toInt ≤ ds.toInt + 1 := by
  obtain ⟨i1, i2, f1, f2, f3, f4, f5, f6, f7, f8, f9⟩ := item_facts hR h0 h1
  have a6 := hR.1.2.2.2.2.2.1
  obtain ⟨b1, b2, b3, b4, b5, b6, b7, b8', b9, b10, b11, b12⟩ := hR.2.1 i.toInt.toNat (by omega)
  have b9' : 0 ≤ (depths i.toNatClampNeg).toInt := b9
  obtain ⟨x1, j, x2, x3, x4⟩ := hR.2.2.2.2.2.2 i.toInt.toNat (by omega) hk
  have x1' : (depths i.toNatClampNeg).toInt ≤ 29 := x1
  have hdp : fX0_depthOf depths size i = some (depths i.toNatClampNeg) := by rw [cdepth a6 h0 h1]; rfl
  have hiff := hE (depths i.toNatClampNeg).toNatClampNeg (by rw [zcl]; omega) ⟨j, x2, x3, by rw [x4, zcl]; show (depths i.toNatClampNeg).toInt = _; omega⟩
  have h10 : ¬ ((1 : Int32) = 0) := by decide
  unfold fX5_encodeEnd bX5_encodeEnd_0 bX5_encodeEnd_34 bX5_encodeEnd_35 bX5_encodeEnd_53
  rw [hdp, Option.bind_some, if_neg (by rw [zlt, z0]; omega), if_neg (by rw [zle, z30]; omega), if_pos ⟨b9', by omega⟩]
  by_cases g : opened (depths i.toNatClampNeg).toNatClampNeg = 6
  · rw [if_pos g, if_neg h10, if_neg (hiff.mp g)]
    obtain ⟨oc1, os1, ot1, dr1, ds1, p1, p2, p3, p4, p5⟩ := h.put (x := 251) (y := 251) (by omega) rfl
    exact ⟨oc1, os1, ot1, dr1, ds1, by rw [p1]; rfl, ⟨b9', by omega⟩, p2, p3, p4, p5⟩
  · rw [if_neg g, if_pos rfl, if_pos (Classical.byContradiction fun e => g (hiff.mpr e))]
    obtain ⟨oc1, os1, ot1, dr1, ds1, p1, p2, p3, p4, p5⟩ := h.put (x := 249) (y := 249) (by omega) rfl
    exact ⟨oc1, os1, ot1, dr1, ds1, by rw [p1]; rfl, ⟨b9', by omega⟩, p2, p3, p4, p5⟩
end Item
