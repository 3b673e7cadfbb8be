/-! texts and names as they are written -/
section Enc
variable {kinds starts lengths depths b_cells openKinds : Nat → Int32} {numbers : Nat → Int64} {b_size b_tooLong size depth named : Int32} {mk ms ml mw mp mi mb mo mm md : Nat → Int32} {mn : Nat → Int64} {items chain heads tb tz oc dr : Nat → Int32} {sz os ot ds : Int32}
theorem enc_short (hR : DR 0 kinds starts lengths depths numbers b_cells b_size b_tooLong openKinds size depth named mk mn ms ml mw mp mi mb mo mm md) {i : Int32} (h0 : 0 ≤ i.toInt) (h1 : i.toInt < size.toInt) {s s' : Int32} (hs : b8 s = b8 s') (h : OR oc os ot dr ds) (hd : ds.toInt < 2147000000) : ∃ oc' os' ot' dr1 ds1 dr' ds', fX5_encodeShort starts lengths b_cells b_size size oc os ot i s = some (oc', os', ot') ∧ fX7_put dr ds s' = some (dr1, ds1) ∧ fX7_putBytes dr1 ms ml mp ds1 i = some (dr', ds') ∧ OR oc' os' ot' dr' ds' ∧ ds.toInt ≤ ds'.toInt ∧ ds'.toInt ≤ ds.toInt + 5001 := by
  obtain ⟨oc1, os1, ot1, dr1, ds1, p1, p2, p3, p4, p5⟩ := h.put (x := s) (y := s') (by omega) hs
  obtain ⟨oc2, os2, ot2, dr2, ds2, q1, q2, q3, q4, q5⟩ := sim_copy hR h0 h1 p3 (by omega)
  refine ⟨oc2, os2, ot2, dr1, ds1, dr2, ds2, ?_, p2, q2, q3, by omega, by omega⟩
  unfold fX5_encodeShort bX5_encodeShort_0
  rw [p1, Option.bind_some, q1]; rfl
theorem enc_long (hR : DR 0 kinds starts lengths depths numbers b_cells b_size b_tooLong openKinds size depth named mk mn ms ml mw mp mi mb mo mm md) {i : Int32} (h0 : 0 ≤ i.toInt) (h1 : i.toInt < size.toInt) (s : Int32) (h : OR oc os ot dr ds) (hd : ds.toInt < 2147000000) : ∃ oc' os' ot' dr1 ds1 dr2 ds2 dr' ds', fX5_encodeLong starts lengths b_cells b_size size oc os ot i s = some (oc', os', ot') ∧ fX7_put dr ds s = some (dr1, ds1) ∧ fX7_putBytes dr1 ms ml mp ds1 i = some (dr2, ds2) ∧ fX7_put dr2 ds2 252 = some (dr', ds') ∧ OR oc' os' ot' dr' ds' ∧ ds.toInt ≤ ds'.toInt ∧ ds'.toInt ≤ ds.toInt + 5002 := by
  obtain ⟨oc1, os1, ot1, dr1, ds1, p1, p2, p3, p4, p5⟩ := h.put (x := s) (y := s) (by omega) rfl
  obtain ⟨oc2, os2, ot2, dr2, ds2, q1, q2, q3, q4, q5⟩ := sim_copy hR h0 h1 p3 (by omega)
  obtain ⟨oc3, os3, ot3, dr3, ds3, u1, u2, u3, u4, u5⟩ := q3.put (x := 252) (y := 252) (by omega) rfl
  refine ⟨oc3, os3, ot3, dr1, ds1, dr2, ds2, dr3, ds3, ?_, p2, q2, u2, u3, by omega, by omega⟩
  unfold fX5_encodeLong bX5_encodeLong_0
  rw [p1, Option.bind_some, q1, Option.bind_some, u1]; rfl
theorem p256 {p : Int32} (h0 : 0 ≤ p.toInt) (h1 : p.toInt < 1024) : b8 p = b8 (p - p / 256 * 256) := by
  apply b8_eq
  have z256 : (256 : Int32).toInt = 256 := by decide
  have e1 : (p / 256).toInt = p.toInt / 256 := by
    rw [Int32.toInt_div, z256, Int.tdiv_eq_ediv_of_nonneg h0, bm32 (by omega) (by omega)]
  have e2 : (p / 256 * 256).toInt = p.toInt / 256 * 256 := by rw [zmul (by rw [e1, z256]; omega) (by rw [e1, z256]; omega), e1, z256]
  rw [zsub (by rw [e2]; omega) (by rw [e2]; omega), e2]
  omega
theorem enc_place {p near sn sf : Int32} (h0 : 0 ≤ p.toInt) (h1 : p.toInt < 1024) (h : OR oc os ot dr ds) (hd : ds.toInt < 2147000000) : ∃ oc' os' ot', fX5_encodePlace oc os ot p near sn sf = some (oc', os', ot') ∧ ((near ≤ p ∧ ∃ dr1 ds1 dr' ds', fX7_put dr ds (sf + p / 256) = some (dr1, ds1) ∧ fX7_put dr1 ds1 (p - p / 256 * 256) = some (dr', ds') ∧ OR oc' os' ot' dr' ds' ∧ ds.toInt ≤ ds'.toInt ∧ ds'.toInt ≤ ds.toInt + 2) ∨ (¬ near ≤ p ∧ ∃ dr' ds', fX7_put dr ds (sn + p) = some (dr', ds') ∧ OR oc' os' ot' dr' ds' ∧ ds.toInt ≤ ds'.toInt ∧ ds'.toInt ≤ ds.toInt + 2)) := by
  unfold fX5_encodePlace bX5_encodePlace_0
  by_cases g : near ≤ p
  · rw [if_pos g]
    obtain ⟨oc1, os1, ot1, dr1, ds1, p1, p2, p3, p4, p5⟩ := h.put (x := sf + p / 256) (y := sf + p / 256) (by omega) rfl
    obtain ⟨oc2, os2, ot2, dr2, ds2, q1, q2, q3, q4, q5⟩ := p3.put (x := p) (y := p - p / 256 * 256) (by omega) (p256 h0 h1)
    rw [p1, Option.bind_some, q1]
    exact ⟨_, _, _, rfl, Or.inl ⟨g, dr1, ds1, dr2, ds2, p2, q2, q3, by omega, by omega⟩⟩
  · rw [if_neg g]
    obtain ⟨oc1, os1, ot1, dr1, ds1, p1, p2, p3, p4, p5⟩ := h.put (x := sn + p) (y := sn + p) (by omega) rfl
    rw [p1]
    exact ⟨_, _, _, rfl, Or.inr ⟨g, dr1, ds1, p2, p3, by omega, by omega⟩⟩
theorem sgn {a b c d x : Int32} (ha : 0 ≤ a.toInt ∧ a.toInt ≤ 255) (hb : 0 ≤ b.toInt ∧ b.toInt ≤ 255) (hc : 0 ≤ c.toInt ∧ c.toInt ≤ 255) (hd : 0 ≤ d.toInt ∧ d.toInt ≤ 255) (hx : 0 ≤ x.toInt ∧ x.toInt ≤ 255) (h : a.toInt - b.toInt = c.toInt - d.toInt) : a + x - b = c + x - d := by
  have e1 : (a + x).toInt = a.toInt + x.toInt := zadd (by omega) (by omega)
  have e2 : (c + x).toInt = c.toInt + x.toInt := zadd (by omega) (by omega)
  rw [zeq, zsub (by omega) (by omega), zsub (by omega) (by omega), e1, e2]
  omega
end Enc
section Text
variable {kinds starts lengths depths b_cells openKinds : Nat → Int32} {numbers : Nat → Int64} {b_size b_tooLong size depth named : Int32} {mk ms ml mw mp mi mb mo mm md : Nat → Int32} {mn : Nat → Int64} {items chain heads tb tz oc dr : Nat → Int32} {sz os ot ds : Int32}
theorem emitText (hR : DR 0 kinds starts lengths depths numbers b_cells b_size b_tooLong openKinds size depth named mk mn ms ml mw mp mi mb mo mm md) {i fl f a : Int32} (h0 : 0 ≤ i.toInt) (h1 : i.toInt < size.toInt) (ha : fX7_isAscii mp (ms i.toNatClampNeg) (lengths i.toNatClampNeg) = some a) (ha2 : a = 0 ∨ a = 1) (h : OR oc os ot dr ds) (hd : ds.toInt < 2147000000) : ∃ oc' os' ot' dr' ds', bX5_encodeText_87 fl items chain heads sz starts lengths b_cells b_size size oc os ot i (lengths i.toNatClampNeg) a (-1) = some (items, chain, heads, sz, oc', os', ot') ∧ (∀ tb tz, bX7_putText_35 dr ms ml mp tb tz ds i f (lengths i.toNatClampNeg) (-1) = bX7_putText_213 dr' ms ml mp tb tz ds' i f) ∧ OR oc' os' ot' dr' ds' ∧ ds.toInt ≤ ds'.toInt ∧ ds'.toInt ≤ ds.toInt + 5002 := by
  obtain ⟨i1, i2, f1, f2, f3, f4, f5, f6, f7, f8, f9⟩ := item_facts hR h0 h1
  have z64 : (64 : Int32).toInt = 64 := by decide
  have z57 : (57 : Int32).toInt = 57 := by decide
  have z32 : (32 : Int32).toInt = 32 := by decide
  have z33 : (33 : Int32).toInt = 33 := by decide
  have h10 : ¬ ((1 : Int32) = 0) := by decide
  unfold bX5_encodeText_87 bX7_putText_35
  rw [if_pos rfl]
  by_cases g0 : lengths i.toNatClampNeg = 0
  · obtain ⟨oc1, os1, ot1, dr1, ds1, p1, p2, p3, p4, p5⟩ := h.put (x := 32) (y := 32) (by omega) rfl
    refine ⟨oc1, os1, ot1, dr1, ds1, ?_, fun tb tz => ?_, p3, by omega, by omega⟩
    · rw [if_pos g0, p1]; rfl
    · rw [if_pos (by decide), if_pos i2, ha, Option.bind_some, if_pos g0, p2]; rfl
  rw [if_neg g0]
  have g0' : (lengths i.toNatClampNeg).toInt ≠ 0 := fun e => g0 (by rw [zeq, e, z0])
  by_cases g : (lengths i.toNatClampNeg).toInt ≤ 64
  · rw [if_pos (by rw [zle, z64]; exact g)]
    unfold bX5_encodeText_173
    rcases ha2 with rfl | rfl
    · rw [if_pos rfl]
      obtain ⟨oc', os', ot', dr1, ds1, dr', ds', e1, e2, e3, e4, e5, e6⟩ := enc_short hR h0 h1 (s := 128 + lengths i.toNatClampNeg - 2) (s' := 128 + lengths i.toNatClampNeg - 2) rfl h hd
      refine ⟨oc', os', ot', dr', ds', by rw [e1]; rfl, fun tb tz => ?_, e4, e5, by omega⟩
      rw [if_pos (by decide), if_pos i2, ha, Option.bind_some, if_neg g0, if_pos (by rw [zle, z64]; exact g), if_pos rfl]
      unfold bX7_putText_205
      by_cases g2 : 33 < lengths i.toNatClampNeg
      · rw [if_pos g2, sgn (a := 160) (b := 34) (c := 128) (d := 2) (by decide) (by decide) (by decide) (by decide) (by omega) (by decide), e2, Option.bind_some, e3]; rfl
      · rw [if_neg g2, e2, Option.bind_some, e3]; rfl
    · rw [if_neg h10]
      obtain ⟨oc', os', ot', dr1, ds1, dr', ds', e1, e2, e3, e4, e5, e6⟩ := enc_short hR h0 h1 (s := 64 + lengths i.toNatClampNeg - 1) (s' := 64 + lengths i.toNatClampNeg - 1) rfl h hd
      refine ⟨oc', os', ot', dr', ds', by rw [e1]; rfl, fun tb tz => ?_, e4, e5, by omega⟩
      rw [if_pos (by decide), if_pos i2, ha, Option.bind_some, if_neg g0, if_pos (by rw [zle, z64]; exact g), if_neg h10]
      unfold bX7_putText_205
      by_cases g2 : 32 < lengths i.toNatClampNeg
      · rw [if_pos g2, sgn (a := 96) (b := 33) (c := 64) (d := 1) (by decide) (by decide) (by decide) (by decide) (by omega) (by decide), e2, Option.bind_some, e3]; rfl
      · rw [if_neg g2, e2, Option.bind_some, e3]; rfl
  · rw [if_neg (by rw [zle, z64]; exact g)]
    unfold bX5_encodeText_145
    rcases ha2 with rfl | rfl
    · rw [if_pos rfl]
      obtain ⟨oc', os', ot', dr1, ds1, dr2, ds2, dr', ds', e1, e2, e3, e3', e4, e5, e6⟩ := enc_long hR h0 h1 228 h hd
      refine ⟨oc', os', ot', dr', ds', by rw [e1]; rfl, fun tb tz => ?_, e4, e5, by omega⟩
      rw [if_pos (by decide), if_pos i2, ha, Option.bind_some, if_neg g0, if_neg (by rw [zle, z64]; exact g), if_pos rfl]
      unfold bX7_putText_132
      rw [e2, Option.bind_some, e3, Option.bind_some, e3']; rfl
    · rw [if_neg h10]
      obtain ⟨oc', os', ot', dr1, ds1, dr2, ds2, dr', ds', e1, e2, e3, e3', e4, e5, e6⟩ := enc_long hR h0 h1 224 h hd
      refine ⟨oc', os', ot', dr', ds', by rw [e1]; rfl, fun tb tz => ?_, e4, e5, by omega⟩
      rw [if_pos (by decide), if_pos i2, ha, Option.bind_some, if_neg g0, if_neg (by rw [zle, z64]; exact g), if_neg h10]
      unfold bX7_putText_132
      rw [e2, Option.bind_some, e3, Option.bind_some, e3']; rfl
end Text
section Name
variable {kinds starts lengths depths b_cells openKinds : Nat → Int32} {numbers : Nat → Int64} {b_size b_tooLong size depth named : Int32} {mk ms ml mw mp mi mb mo mm md : Nat → Int32} {mn : Nat → Int64} {items chain heads tb tz oc dr : Nat → Int32} {sz os ot ds : Int32}
theorem emitName (hR : DR 0 kinds starts lengths depths numbers b_cells b_size b_tooLong openKinds size depth named mk mn ms ml mw mp mi mb mo mm md) {i fl f a : Int32} (h0 : 0 ≤ i.toInt) (h1 : i.toInt < size.toInt) (ha : fX7_isAscii mp (ms i.toNatClampNeg) (lengths i.toNatClampNeg) = some a) (ha2 : a = 0 ∨ a = 1) (h : OR oc os ot dr ds) (hd : ds.toInt < 2147000000) : ∃ oc' os' ot' dr' ds', bX5_encodeName_87 fl items chain heads sz starts lengths b_cells b_size size oc os ot i (lengths i.toNatClampNeg) a (-1) = some (items, chain, heads, sz, oc', os', ot') ∧ (∀ tb tz, bX7_putName_35 dr ms ml mp tb tz ds i f (lengths i.toNatClampNeg) (-1) = bX7_putName_183 dr' ms ml mp tb tz ds' i f) ∧ OR oc' os' ot' dr' ds' ∧ ds.toInt ≤ ds'.toInt ∧ ds'.toInt ≤ ds.toInt + 5002 := by
  obtain ⟨i1, i2, f1, f2, f3, f4, f5, f6, f7, f8, f9⟩ := item_facts hR h0 h1
  have z64 : (64 : Int32).toInt = 64 := by decide
  have z57 : (57 : Int32).toInt = 57 := by decide
  have z32 : (32 : Int32).toInt = 32 := by decide
  have z33 : (33 : Int32).toInt = 33 := by decide
  have h10 : ¬ ((1 : Int32) = 0) := by decide
  unfold bX5_encodeName_87 bX7_putName_35
  rw [if_pos rfl]
  by_cases g0 : lengths i.toNatClampNeg = 0
  · obtain ⟨oc1, os1, ot1, dr1, ds1, p1, p2, p3, p4, p5⟩ := h.put (x := 32) (y := 32) (by omega) rfl
    refine ⟨oc1, os1, ot1, dr1, ds1, ?_, fun tb tz => ?_, p3, by omega, by omega⟩
    · rw [if_pos g0, p1]; rfl
    · rw [if_pos (by decide), if_pos i2, ha, Option.bind_some, if_pos g0, p2]; rfl
  rw [if_neg g0]
  have g0' : (lengths i.toNatClampNeg).toInt ≠ 0 := fun e => g0 (by rw [zeq, e, z0])
  unfold bX5_encodeName_136 bX5_encodeName_172
  rcases ha2 with rfl | rfl
  · rw [if_pos rfl]
    by_cases g : (lengths i.toNatClampNeg).toInt ≤ 57
    · rw [if_pos (by rw [zle, z57]; exact g), if_pos rfl]
      obtain ⟨oc', os', ot', dr1, ds1, dr', ds', e1, e2, e3, e4, e5, e6⟩ := enc_short hR h0 h1 (s := 192 + lengths i.toNatClampNeg - 2) (s' := 192 + lengths i.toNatClampNeg - 2) rfl h hd
      refine ⟨oc', os', ot', dr', ds', by rw [e1]; rfl, fun tb tz => ?_, e4, e5, by omega⟩
      rw [if_pos (by decide), if_pos i2, ha, Option.bind_some, if_neg g0, if_pos rfl, if_neg (by rw [zlt, z57]; omega)]
      unfold bX7_putName_131 bX7_putName_154
      rw [if_pos rfl, e2, Option.bind_some, e3]; rfl
    · rw [if_neg (by rw [zle, z57]; exact g)]
      obtain ⟨oc', os', ot', dr1, ds1, dr2, ds2, dr', ds', e1, e2, e3, e3', e4, e5, e6⟩ := enc_long hR h0 h1 52 h hd
      refine ⟨oc', os', ot', dr', ds', by rw [e1]; rfl, fun tb tz => ?_, e4, e5, by omega⟩
      rw [if_pos (by decide), if_pos i2, ha, Option.bind_some, if_neg g0, if_pos rfl, if_pos (by rw [zlt, z57]; omega)]
      unfold bX7_putName_165
      rw [e2, Option.bind_some, e3, Option.bind_some, e3']; rfl
  · rw [if_neg h10]
    by_cases g : (lengths i.toNatClampNeg).toInt ≤ 64
    · rw [if_pos (by rw [zle, z64]; exact g), if_neg h10]
      obtain ⟨oc', os', ot', dr1, ds1, dr', ds', e1, e2, e3, e4, e5, e6⟩ := enc_short hR h0 h1 (s := 128 + lengths i.toNatClampNeg - 1) (s' := 128 + lengths i.toNatClampNeg - 1) rfl h hd
      refine ⟨oc', os', ot', dr', ds', by rw [e1]; rfl, fun tb tz => ?_, e4, e5, by omega⟩
      rw [if_pos (by decide), if_pos i2, ha, Option.bind_some, if_neg g0, if_neg h10, if_neg (by rw [zlt, z64]; omega)]
      unfold bX7_putName_131 bX7_putName_154
      rw [if_neg h10, e2, Option.bind_some, e3]; rfl
    · rw [if_neg (by rw [zle, z64]; exact g)]
      obtain ⟨oc', os', ot', dr1, ds1, dr2, ds2, dr', ds', e1, e2, e3, e3', e4, e5, e6⟩ := enc_long hR h0 h1 52 h hd
      refine ⟨oc', os', ot', dr', ds', by rw [e1]; rfl, fun tb tz => ?_, e4, e5, by omega⟩
      rw [if_pos (by decide), if_pos i2, ha, Option.bind_some, if_neg g0, if_neg h10, if_pos (by rw [zlt, z64]; omega)]
      unfold bX7_putName_165
      rw [e2, Option.bind_some, e3, Option.bind_some, e3']; rfl
end Name
section Text2
variable {kinds starts lengths depths b_cells openKinds : Nat → Int32} {numbers : Nat → Int64} {b_size b_tooLong size depth named : Int32} {mk ms ml mw mp mi mb mo mm md : Nat → Int32} {mn : Nat → Int64} {items chain heads tb tz oc dr : Nat → Int32} {sz os ot ds : Int32}
theorem ctakes (x : Int32) : ∃ r, fX3_takes x = some r ∧ (r = 0 ↔ ¬ (1 ≤ x.toInt ∧ x.toInt ≤ 64)) := by
  have z64 : (64 : Int32).toInt = 64 := by decide
  unfold fX3_takes bX3_takes_0
  by_cases g : x.toInt < 1
  · rw [if_pos (by rw [zlt, z1]; exact g)]; exact ⟨0, rfl, if0 (by omega)⟩
  · rw [if_neg (by rw [zlt, z1]; exact g)]
    by_cases g2 : 64 < x.toInt
    · rw [if_pos (by rw [zlt, z64]; exact g2)]; exact ⟨0, rfl, if0 (by omega)⟩
    · rw [if_neg (by rw [zlt, z64]; exact g2)]; exact ⟨1, rfl, if1 (by omega)⟩

theorem simText (hR : DR 0 kinds starts lengths depths numbers b_cells b_size b_tooLong openKinds size depth named mk mn ms ml mw mp mi mb mo mm md) (hT : TW 1 size (sameT starts lengths b_cells) (bkt starts lengths b_cells b_size size) items chain heads sz tb tz) {i : Int32} {k : Nat} (hk : k < 8) (h0 : 0 ≤ i.toInt) (h1 : i.toInt < size.toInt) (h : OR oc os ot dr ds) (hd : ds.toInt < 2147000000) : ∃ items' chain' heads' sz' oc' os' ot' dr' ds' tb' tz', fX5_encodeText (nI k) items chain heads sz starts lengths b_cells b_size size oc os ot i = some (items', chain', heads', sz', oc', os', ot') ∧ fX7_putText dr ms ml mp tb tz ds i (nI k) = some (dr', tb', tz', ds') ∧ OR oc' os' ot' dr' ds' ∧ TW 1 size (sameT starts lengths b_cells) (bkt starts lengths b_cells b_size size) items' chain' heads' sz' tb' tz' ∧ (∀ u, u ≠ 1 → u ≤ 1 → (tz' u = tz u ∧ ∀ p : Nat, p < 1024 → tb' (1024 * u + p) = tb (1024 * u + p))) ∧ ds.toInt ≤ ds'.toInt ∧ ds'.toInt ≤ ds.toInt + 5002 := by
  obtain ⟨i1, i2, f1, f2, f3, f4, f5, f6, f7, f8, f9⟩ := item_facts hR h0 h1
  obtain ⟨t1, t2, t3, -⟩ := id hT
  have a6 := hR.1.2.2.2.2.2.1
  have z64 : (64 : Int32).toInt = 64 := by decide
  have h10 : ¬ ((1 : Int32) = 0) := by decide
  have hlen : fX0_lengthOf lengths size i = some (lengths i.toNatClampNeg) := by rw [clength a6 h0 h1]; rfl
  obtain ⟨a, a1, a2, a3⟩ := item_ascii hR h0 h1
  obtain ⟨r, r1, r2⟩ := ctakes (lengths i.toNatClampNeg)
  obtain ⟨fl1, fl2⟩ := flag1 k hk
  unfold fX5_encodeText bX5_encodeText_0 fX7_putText bX7_putText_0
  rw [hlen, Option.bind_some, a1, Option.bind_some, r1, if_pos i2, f4]
  have plain : (¬ (nI k &&& 2 = 2) ∨ (lengths i.toNatClampNeg).toInt < 1 ∨ 64 < (lengths i.toNatClampNeg).toInt) → ∃ items' chain' heads' sz' oc' os' ot' dr' ds' tb' tz', bX5_encodeText_38 (nI k) items chain heads sz starts lengths b_cells b_size size oc os ot i (lengths i.toNatClampNeg) a = some (items', chain', heads', sz', oc', os', ot') ∧ bX7_putText_34 dr ms ml mp tb tz ds i (nI k) (lengths i.toNatClampNeg) = some (dr', tb', tz', ds') ∧ OR oc' os' ot' dr' ds' ∧ TW 1 size (sameT starts lengths b_cells) (bkt starts lengths b_cells b_size size) items' chain' heads' sz' tb' tz' ∧ (∀ u, u ≠ 1 → u ≤ 1 → (tz' u = tz u ∧ ∀ p : Nat, p < 1024 → tb' (1024 * u + p) = tb (1024 * u + p))) ∧ ds.toInt ≤ ds'.toInt ∧ ds'.toInt ≤ ds.toInt + 5002 := by
    intro hno
    obtain ⟨oc', os', ot', dr', ds', e1, e2, e3, e4, e5⟩ := emitText (items := items) (chain := chain) (heads := heads) (sz := sz) (fl := nI k) (f := nI k) hR h0 h1 a2 a3 h hd
    refine ⟨items, chain, heads, sz, oc', os', ot', dr', ds', tb, tz, ?_, ?_, e3, hT, fun u _ _ => ⟨rfl, fun _ _ => rfl⟩, e4, e5⟩
    · unfold bX5_encodeText_38 bX5_encodeText_39 bX5_encodeText_62
      rw [if_pos rfl, if_pos rfl]; exact e1
    · unfold bX7_putText_34
      rw [e2]
      unfold bX7_putText_213
      have hk2 := rkeep_no (tb := tb) (tz := tz) (ml := ml) (t := 1) (by omega) (f := nI k) (i := i) i2 (by rw [f4, show nI 1 = (1 : Int32) from by decide, fl2]; exact hno)
      rw [show nI 1 = (1 : Int32) from by decide] at hk2
      rw [hk2]; rfl
  by_cases g : nI k &&& 2 = 2
  · rw [if_neg (fun e => fl1.mp e g), if_pos g, Option.bind_some]
    by_cases gr : r = 0
    · rw [if_pos gr]
      have hr := r2.mp gr
      by_cases gl : (lengths i.toNatClampNeg).toInt < 1
      · rw [if_pos (by rw [zlt, z1]; exact gl)]; exact plain (Or.inr (Or.inl gl))
      · rw [if_neg (by rw [zlt, z1]; exact gl), if_pos (by rw [zlt, z64]; omega)]; exact plain (Or.inr (Or.inr (by omega)))
    · rw [if_neg gr]
      have hr := Classical.byContradiction fun e => gr (r2.mpr e)
      rw [if_neg (by rw [zlt, z1]; omega), if_neg (by rw [zlt, z64]; omega)]
      obtain ⟨q, q1, q2, q3⟩ := find_both hR hT (by omega) h0 h1
      rw [show nI 1 = (1 : Int32) from by decide] at q2
      unfold bX5_encodeText_39 bX5_encodeText_62
      rw [if_neg h10, q1, q2, Option.bind_some, Option.bind_some, if_neg h10]
      rcases q3 with ⟨rfl, q4⟩ | ⟨q4, q5⟩
      · rw [if_pos rfl]
        obtain ⟨tb', tz', k1, k2, k3, k4⟩ := rkeep (tb := tb) (tz := tz) (ml := ml) (t := 1) (by omega) (f := nI k) (i := i) i2 (by rw [t1]; exact t2) (by rw [t1]; exact t3) (by rw [show nI 1 = (1 : Int32) from by decide, fl2]; exact g) (by rw [f4]; exact hr.1) (by rw [f4]; exact hr.2)
        rw [show nI 1 = (1 : Int32) from by decide] at k1
        rw [t1] at k2 k3
        obtain ⟨items', chain', heads', sz', c1, c2⟩ := cputtab hR hT h0 h1 q4 k2 k3
        obtain ⟨oc', os', ot', dr', ds', e1, e2, e3, e4, e5⟩ := emitText (items := items') (chain := chain') (heads := heads') (sz := sz') (fl := nI k) (f := nI k) hR h0 h1 a2 a3 h hd
        refine ⟨items', chain', heads', sz', oc', os', ot', dr', ds', tb', tz', ?_, ?_, e3, c2, k4, e4, e5⟩
        · rw [c1, Option.bind_some]; exact e1
        · rw [e2]
          unfold bX7_putText_213
          rw [k1]; rfl
      · have qm : ¬ q = -1 := fun e => by rw [e, zm1] at q4; omega
        rw [if_neg qm]
        unfold bX5_encodeText_87 bX7_putText_35
        rw [if_neg qm, if_neg (show ¬ q < 0 by rw [zlt, z0]; omega)]
        obtain ⟨oc', os', ot', e1, e2⟩ := enc_place (p := q) (near := 31) (sn := 1) (sf := 236) q4 q5 h hd
        rw [e1, Option.bind_some]
        rcases e2 with ⟨n1, dr1, ds1, dr', ds', p1, p2, p3, p4, p5⟩ | ⟨n1, dr', ds', p1, p3, p4, p5⟩
        · rw [if_pos n1, p1, Option.bind_some, p2]
          exact ⟨items, chain, heads, sz, oc', os', ot', dr', ds', tb, tz, rfl, rfl, p3, hT, fun u _ _ => ⟨rfl, fun _ _ => rfl⟩, p4, by omega⟩
        · rw [if_neg n1, p1]
          exact ⟨items, chain, heads, sz, oc', os', ot', dr', ds', tb, tz, rfl, rfl, p3, hT, fun u _ _ => ⟨rfl, fun _ _ => rfl⟩, p4, by omega⟩
  · rw [if_pos (fl1.mpr g), if_neg g]
    exact plain (Or.inl g)
end Text2
section Name2
variable {kinds starts lengths depths b_cells openKinds : Nat → Int32} {numbers : Nat → Int64} {b_size b_tooLong size depth named : Int32} {mk ms ml mw mp mi mb mo mm md : Nat → Int32} {mn : Nat → Int64} {items chain heads tb tz oc dr : Nat → Int32} {sz os ot ds : Int32}
theorem simName (hR : DR 0 kinds starts lengths depths numbers b_cells b_size b_tooLong openKinds size depth named mk mn ms ml mw mp mi mb mo mm md) (hT : TW 0 size (sameT starts lengths b_cells) (bkt starts lengths b_cells b_size size) items chain heads sz tb tz) {i : Int32} {k : Nat} (hk : k < 8) (h0 : 0 ≤ i.toInt) (h1 : i.toInt < size.toInt) (h : OR oc os ot dr ds) (hd : ds.toInt < 2147000000) : ∃ items' chain' heads' sz' oc' os' ot' dr' ds' tb' tz', fX5_encodeName (nI k) items chain heads sz starts lengths b_cells b_size size oc os ot i = some (items', chain', heads', sz', oc', os', ot') ∧ fX7_putName dr ms ml mp tb tz ds i (nI k) = some (dr', tb', tz', ds') ∧ OR oc' os' ot' dr' ds' ∧ TW 0 size (sameT starts lengths b_cells) (bkt starts lengths b_cells b_size size) items' chain' heads' sz' tb' tz' ∧ (∀ u, u ≠ 0 → u ≤ 1 → (tz' u = tz u ∧ ∀ p : Nat, p < 1024 → tb' (1024 * u + p) = tb (1024 * u + p))) ∧ ds.toInt ≤ ds'.toInt ∧ ds'.toInt ≤ ds.toInt + 5002 := by
  obtain ⟨i1, i2, f1, f2, f3, f4, f5, f6, f7, f8, f9⟩ := item_facts hR h0 h1
  obtain ⟨t1, t2, t3, -⟩ := id hT
  have a6 := hR.1.2.2.2.2.2.1
  have z64 : (64 : Int32).toInt = 64 := by decide
  have h10 : ¬ ((1 : Int32) = 0) := by decide
  have hlen : fX0_lengthOf lengths size i = some (lengths i.toNatClampNeg) := by rw [clength a6 h0 h1]; rfl
  obtain ⟨a, a1, a2, a3⟩ := item_ascii hR h0 h1
  obtain ⟨r, r1, r2⟩ := ctakes (lengths i.toNatClampNeg)
  obtain ⟨fl1, fl2⟩ := flag0 k hk
  unfold fX5_encodeName bX5_encodeName_0 fX7_putName bX7_putName_0
  rw [hlen, Option.bind_some, a1, Option.bind_some, r1, if_pos i2, f4]
  have plain : (¬ (nI k &&& 1 = 1) ∨ (lengths i.toNatClampNeg).toInt < 1 ∨ 64 < (lengths i.toNatClampNeg).toInt) → ∃ items' chain' heads' sz' oc' os' ot' dr' ds' tb' tz', bX5_encodeName_38 (nI k) items chain heads sz starts lengths b_cells b_size size oc os ot i (lengths i.toNatClampNeg) a = some (items', chain', heads', sz', oc', os', ot') ∧ bX7_putName_34 dr ms ml mp tb tz ds i (nI k) (lengths i.toNatClampNeg) = some (dr', tb', tz', ds') ∧ OR oc' os' ot' dr' ds' ∧ TW 0 size (sameT starts lengths b_cells) (bkt starts lengths b_cells b_size size) items' chain' heads' sz' tb' tz' ∧ (∀ u, u ≠ 0 → u ≤ 1 → (tz' u = tz u ∧ ∀ p : Nat, p < 1024 → tb' (1024 * u + p) = tb (1024 * u + p))) ∧ ds.toInt ≤ ds'.toInt ∧ ds'.toInt ≤ ds.toInt + 5002 := by
    intro hno
    obtain ⟨oc', os', ot', dr', ds', e1, e2, e3, e4, e5⟩ := emitName (items := items) (chain := chain) (heads := heads) (sz := sz) (fl := nI k) (f := nI k) hR h0 h1 a2 a3 h hd
    refine ⟨items, chain, heads, sz, oc', os', ot', dr', ds', tb, tz, ?_, ?_, e3, hT, fun u _ _ => ⟨rfl, fun _ _ => rfl⟩, e4, e5⟩
    · unfold bX5_encodeName_38 bX5_encodeName_39 bX5_encodeName_62
      rw [if_pos rfl, if_pos rfl]; exact e1
    · unfold bX7_putName_34
      rw [e2]
      unfold bX7_putName_183
      have hk2 := rkeep_no (tb := tb) (tz := tz) (ml := ml) (t := 0) (by omega) (f := nI k) (i := i) i2 (by rw [f4, nI_0, fl2]; exact hno)
      rw [nI_0] at hk2
      rw [hk2]; rfl
  by_cases g : nI k &&& 1 = 1
  · rw [if_neg (fun e => fl1.mp e g), if_pos g, Option.bind_some]
    by_cases gr : r = 0
    · rw [if_pos gr]
      have hr := r2.mp gr
      by_cases gl : (lengths i.toNatClampNeg).toInt < 1
      · rw [if_pos (by rw [zlt, z1]; exact gl)]; exact plain (Or.inr (Or.inl gl))
      · rw [if_neg (by rw [zlt, z1]; exact gl), if_pos (by rw [zlt, z64]; omega)]; exact plain (Or.inr (Or.inr (by omega)))
    · rw [if_neg gr]
      have hr := Classical.byContradiction fun e => gr (r2.mpr e)
      rw [if_neg (by rw [zlt, z1]; omega), if_neg (by rw [zlt, z64]; omega)]
      obtain ⟨q, q1, q2, q3⟩ := find_both hR hT (by omega) h0 h1
      rw [nI_0] at q2
      unfold bX5_encodeName_39 bX5_encodeName_62
      rw [if_neg h10, q1, q2, Option.bind_some, Option.bind_some, if_neg h10]
      rcases q3 with ⟨rfl, q4⟩ | ⟨q4, q5⟩
      · rw [if_pos rfl]
        obtain ⟨tb', tz', k1, k2, k3, k4⟩ := rkeep (tb := tb) (tz := tz) (ml := ml) (t := 0) (by omega) (f := nI k) (i := i) i2 (by rw [t1]; exact t2) (by rw [t1]; exact t3) (by rw [nI_0, fl2]; exact g) (by rw [f4]; exact hr.1) (by rw [f4]; exact hr.2)
        rw [nI_0] at k1
        rw [t1] at k2 k3
        obtain ⟨items', chain', heads', sz', c1, c2⟩ := cputtab hR hT h0 h1 q4 k2 k3
        obtain ⟨oc', os', ot', dr', ds', e1, e2, e3, e4, e5⟩ := emitName (items := items') (chain := chain') (heads := heads') (sz := sz') (fl := nI k) (f := nI k) hR h0 h1 a2 a3 h hd
        refine ⟨items', chain', heads', sz', oc', os', ot', dr', ds', tb', tz', ?_, ?_, e3, c2, k4, e4, e5⟩
        · rw [c1, Option.bind_some]; exact e1
        · rw [e2]
          unfold bX7_putName_183
          rw [k1]; rfl
      · have qm : ¬ q = -1 := fun e => by rw [e, zm1] at q4; omega
        rw [if_neg qm]
        unfold bX5_encodeName_87 bX7_putName_35
        rw [if_neg qm, if_neg (show ¬ q < 0 by rw [zlt, z0]; omega)]
        obtain ⟨oc', os', ot', e1, e2⟩ := enc_place (p := q) (near := 64) (sn := 64) (sf := 48) q4 q5 h hd
        rw [e1, Option.bind_some]
        rcases e2 with ⟨n1, dr1, ds1, dr', ds', p1, p2, p3, p4, p5⟩ | ⟨n1, dr', ds', p1, p3, p4, p5⟩
        · rw [if_pos n1, p1, Option.bind_some, p2]
          exact ⟨items, chain, heads, sz, oc', os', ot', dr', ds', tb, tz, rfl, rfl, p3, hT, fun u _ _ => ⟨rfl, fun _ _ => rfl⟩, p4, by omega⟩
        · rw [if_neg n1, p1]
          exact ⟨items, chain, heads, sz, oc', os', ot', dr', ds', tb, tz, rfl, rfl, p3, hT, fun u _ _ => ⟨rfl, fun _ _ => rfl⟩, p4, by omega⟩
  · rw [if_pos (fl1.mpr g), if_neg g]
    exact plain (Or.inl g)
end Name2
