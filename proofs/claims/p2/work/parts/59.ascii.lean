/-! ASCII or not; equal texts; the mix -/
section Asc
theorem rasc0 {pool : Nat → Int32} {x1 x2 : Int32} : ∀ (n fuel : Nat) (q : Int32), n < fuel → 0 ≤ q.toInt → q.toInt + n = (x1 + x2).toInt → bX7_isAscii_5 fuel pool x1 x2 0 q = some 0 := by
  intro n
  induction n with
  | zero =>
    intro fuel q hf h0 hq
    obtain ⟨f, rfl⟩ : ∃ f, fuel = f + 1 := ⟨fuel - 1, by omega⟩
    rw [bX7_isAscii_5, if_pos (by rw [zle]; omega), if_pos (Or.inl rfl)]
  | succ n ih =>
    intro fuel q hf h0 hq
    obtain ⟨f, rfl⟩ : ∃ f, fuel = f + 1 := ⟨fuel - 1, by omega⟩
    have hh := zhi (x1 + x2)
    have e1 : (q + 1).toInt = q.toInt + 1 := by rw [zadd (by rw [z1]; omega) (by rw [z1]; omega), z1]
    rw [bX7_isAscii_5, if_neg (by rw [zle]; omega), if_pos rfl]
    exact ih f (q + 1) (by omega) (by omega) (by omega)
theorem asc_eq {cap : Nat} {c pool : Nat → Int32} {s : Int32} (h2 : s.toInt ≤ cap) (y1 y2 : Int32) (he : (y1 + y2).toInt ≤ s.toInt) (x1 x2 : Int32) (h3 : (x1 + x2).toInt ≤ 16000) : ∀ (n fuel : Nat) (x q : Int32), n < fuel → 0 ≤ x.toInt → 0 ≤ q.toInt → x.toInt + n = (y1 + y2).toInt → q.toInt + n = (x1 + x2).toInt → (∀ j : Nat, j < n → c (x.toInt.toNat + j) = pool (q.toInt.toNat + j) ∧ b8 (c (x.toInt.toNat + j)) = c (x.toInt.toNat + j)) → ∃ b : Int32, bX4_isAscii_2 fuel cap c s y1 y2 x = some b ∧ bX7_isAscii_5 fuel pool x1 x2 1 q = some b ∧ (b = 0 ∨ b = 1) := by
  intro n
  induction n with
  | zero =>
    intro fuel x q hf hx hq hxe hqe hb
    obtain ⟨f, rfl⟩ : ∃ f, fuel = f + 1 := ⟨fuel - 1, by omega⟩
    refine ⟨1, ?_, ?_, Or.inr rfl⟩
    · rw [bX4_isAscii_2, if_pos (by rw [zle]; omega)]
    · rw [bX7_isAscii_5, if_pos (by rw [zle]; omega), if_pos (Or.inr rfl)]
  | succ n ih =>
    intro fuel x q hf hx hq hxe hqe hb
    obtain ⟨f, rfl⟩ : ∃ f, fuel = f + 1 := ⟨fuel - 1, by omega⟩
    have hh := zhi s
    have e1 : (q + 1).toInt = q.toInt + 1 := by rw [zadd (by rw [z1]; omega) (by rw [z1]; omega), z1]
    have e2 : (x + 1).toInt = x.toInt + 1 := by rw [zadd (by rw [z1]; omega) (by rw [z1]; omega), z1]
    obtain ⟨b1, b2⟩ := hb 0 (by omega)
    rw [Nat.add_zero, Nat.add_zero] at b1
    rw [Nat.add_zero] at b2
    have hat : fX2_at cap c s x = some (c x.toInt.toNat &&& 255) := by rw [cat h2, catv_in hx (by omega), zcl]
    have hv : (c x.toInt.toNat &&& 255).toInt = (c x.toInt.toNat).toInt % 256 := zand255 _
    have hr : (c x.toInt.toNat).toInt = if (c x.toInt.toNat).toInt % 256 < 128 then (c x.toInt.toNat).toInt % 256 else (c x.toInt.toNat).toInt % 256 - 256 := by
      have := b8_toInt (c x.toInt.toNat)
      rw [b2] at this; exact this
    have z128 : (128 : Int32).toInt = 128 := by decide
    have h10 : ¬ ((1 : Int32) = 0) := by decide
    have c1 : ¬ (y1 + y2 ≤ x) := by rw [zle]; omega
    have c2 : ¬ (c x.toInt.toNat &&& 255 < 0) := by rw [zlt, hv, z0]; omega
    have c3 : ¬ (x1 + x2 ≤ q) := by rw [zle]; omega
    have c4 : ix q 16000 := ⟨hq, by omega⟩
    rw [bX4_isAscii_2, bX7_isAscii_5, if_neg c1, hat, Option.bind_some, if_neg c2, if_neg c3, if_neg h10, if_pos c4, zcl, ← b1]
    by_cases g : (c x.toInt.toNat).toInt % 256 < 128
    · rw [if_pos (by rw [zlt, hv, z128]; exact g), if_neg (by rw [zlt, z0]; rw [if_pos g] at hr; omega)]
      refine ih f (x + 1) (q + 1) (by omega) (by omega) (by omega) (by omega) (by omega) (fun j hj => ?_)
      have := hb (j + 1) (by omega)
      rw [e1, e2, show (x.toInt + 1).toNat + j = x.toInt.toNat + (j + 1) by omega, show (q.toInt + 1).toNat + j = q.toInt.toNat + (j + 1) by omega]
      exact this
    · rw [if_neg (by rw [zlt, hv, z128]; exact g), if_pos (by rw [zlt, z0]; rw [if_neg g] at hr; omega)]
      refine ⟨0, rfl, ?_, Or.inl rfl⟩
      exact rasc0 n f (q + 1) (by omega) (by omega) (by omega)
end Asc
section Same
variable {kinds starts lengths depths b_cells openKinds : Nat → Int32} {numbers : Nat → Int64} {b_size b_tooLong size depth named : Int32} {mk ms ml mw mp mi mb mo mm md : Nat → Int32} {mn : Nat → Int64}
theorem item_ascii (hR : DR 0 kinds starts lengths depths numbers b_cells b_size b_tooLong openKinds size depth named mk mn ms ml mw mp mi mb mo mm md) {i : Int32} (h0 : 0 ≤ i.toInt) (h1 : i.toInt < size.toInt) : ∃ b, fX0_isAscii starts lengths b_cells b_size size i = some b ∧ fX7_isAscii mp (ms i.toNatClampNeg) (lengths i.toNatClampNeg) = some b ∧ (b = 0 ∨ b = 1) := by
  obtain ⟨i1, i2, f1, f2, f3, f4, f5, f6, f7, f8, f9⟩ := item_facts hR h0 h1
  have a6 := hR.1.2.2.2.2.2.1
  have e1 : (starts i.toNatClampNeg + lengths i.toNatClampNeg).toInt = (starts i.toNatClampNeg).toInt + (lengths i.toNatClampNeg).toInt := zadd (by omega) (by omega)
  have e2 : (ms i.toNatClampNeg + lengths i.toNatClampNeg).toInt = (starts i.toNatClampNeg).toInt + (lengths i.toNatClampNeg).toInt := by rw [zadd (by omega) (by omega), f3]
  obtain ⟨b, b1, b2, b3⟩ := asc_eq (cap := 5000) (c := b_cells) (pool := mp) (s := b_size) f9 (starts i.toNatClampNeg) (lengths i.toNatClampNeg) (by omega) (ms i.toNatClampNeg) (lengths i.toNatClampNeg) (by omega) (lengths i.toNatClampNeg).toInt.toNat FU (starts i.toNatClampNeg) (ms i.toNatClampNeg) (by unfold FU; omega) f6 (by omega) (by omega) (by omega) (fun j hj => by
    obtain ⟨g1, g2⟩ := hR.2.2.1 ((starts i.toNatClampNeg).toInt.toNat + j) (by omega)
    rw [Nat.mul_zero, Nat.zero_add] at g1
    rw [show (ms i.toNatClampNeg).toInt.toNat = (starts i.toNatClampNeg).toInt.toNat by omega]
    exact ⟨g1.symm, g2⟩)
  refine ⟨b, ?_, b2, b3⟩
  unfold fX0_isAscii bX0_isAscii_0 fX4_isAscii bX4_isAscii_0
  rw [chas1 a6 h0 h1, Option.bind_some, if_neg (by decide), if_pos i1, if_pos i1, b1, Option.bind_some]
  rcases b3 with rfl | rfl <;> rfl
/-- two items tell the same text -/
def sameT (starts lengths b_cells : Nat → Int32) (i j : Nat) : Prop := lengths i = lengths j ∧ ∀ k : Nat, (k : Int) < (lengths i).toInt → b_cells ((starts i).toInt.toNat + k) = b_cells ((starts j).toInt.toNat + k)
theorem sameT.symm {i j : Nat} (h : sameT starts lengths b_cells i j) : sameT starts lengths b_cells j i := ⟨h.1.symm, fun k hk => (h.2 k (by rw [h.1]; exact hk)).symm⟩
theorem sameT.trans {i j l : Nat} (h : sameT starts lengths b_cells i j) (g : sameT starts lengths b_cells j l) : sameT starts lengths b_cells i l := ⟨h.1.trans g.1, fun k hk => (h.2 k hk).trans (g.2 k (by rw [← h.1]; exact hk))⟩
theorem byte_eq {x y : Int32} (hx : b8 x = x) (hy : b8 y = y) : x &&& 255 = y &&& 255 ↔ x = y := by
  constructor
  · intro h
    have h1 := congrArg b8 h
    rw [b8_and, b8_and, hx, hy] at h1
    exact h1
  · intro h; rw [h]
theorem csame_loop (hR : DR 0 kinds starts lengths depths numbers b_cells b_size b_tooLong openKinds size depth named mk mn ms ml mw mp mi mb mo mm md) {i j : Int32} (h0 : 0 ≤ i.toInt) (h1 : i.toInt < size.toInt) (g0 : 0 ≤ j.toInt) (g1 : j.toInt < size.toInt) (hl : lengths i.toNatClampNeg = lengths j.toNatClampNeg) : ∀ (n fuel : Nat) (x : Int32), n < fuel → 0 ≤ x.toInt → x.toInt + n = (lengths i.toNatClampNeg).toInt → ∃ r r', bX0_haveSameText_35 fuel starts lengths b_cells b_size size i j x = some r ∧ bX7_isSame_24 fuel ms ml mp i j 1 x = some r' ∧ (r = 0 ↔ ¬ ∀ k : Nat, x.toInt ≤ k → (k : Int) < (lengths i.toNatClampNeg).toInt → b_cells ((starts i.toNatClampNeg).toInt.toNat + k) = b_cells ((starts j.toNatClampNeg).toInt.toNat + k)) ∧ (r' = 0 ↔ r = 0) := by
  obtain ⟨i1, i2, f1, f2, f3, f4, f5, f6, f7, f8, f9⟩ := item_facts hR h0 h1
  obtain ⟨j1, j2, k1, k2, k3, k4, k5, k6, k7, k8, k9⟩ := item_facts hR g0 g1
  have h10 : ¬ ((1 : Int32) = 0) := by decide
  intro n
  induction n with
  | zero =>
    intro fuel x hf hx hn
    obtain ⟨f, rfl⟩ : ∃ f, fuel = f + 1 := ⟨fuel - 1, by omega⟩
    refine ⟨1, 1, ?_, ?_, ⟨fun h => absurd h h10, fun h => absurd (fun k hk hk2 => by omega) h⟩, Iff.rfl⟩
    · rw [bX0_haveSameText_35, if_pos i1, if_pos (by rw [zle]; omega)]
    · rw [bX7_isSame_24, if_pos i2, f4, if_pos (by rw [zle]; omega), if_pos (Or.inr rfl)]
  | succ n ih =>
    intro fuel x hf hx hn
    obtain ⟨f, rfl⟩ : ∃ f, fuel = f + 1 := ⟨fuel - 1, by omega⟩
    have e1 : (x + 1).toInt = x.toInt + 1 := by rw [zadd (by rw [z1]; omega) (by rw [z1]; omega), z1]
    obtain ⟨p1, p2, p3, p4⟩ := item_byte hR (x := x) h0 h1 hx (by omega)
    obtain ⟨q1, q2, q3, q4⟩ := item_byte hR (x := x) g0 g1 hx (by rw [← hl]; omega)
    have c1 : ¬ (lengths i.toNatClampNeg ≤ x) := by rw [zle]; omega
    rw [bX0_haveSameText_35, if_pos i1, if_neg c1, if_pos i1, p1, Option.bind_some, if_pos j1, q1, Option.bind_some, bX7_isSame_24, if_pos i2, f4, if_neg c1, if_neg h10, if_pos i2, if_pos p2, if_pos j2, if_pos q2, p3, q3]
    by_cases g : b_cells ((starts i.toNatClampNeg).toInt.toNat + x.toInt.toNat) = b_cells ((starts j.toNatClampNeg).toInt.toNat + x.toInt.toNat)
    · rw [if_pos ((byte_eq p4 q4).mpr g), if_pos g]
      obtain ⟨r, r', r1, r2, r3, r4⟩ := ih f (x + 1) (by omega) (by omega) (by omega)
      refine ⟨r, r', r1, r2, r3.trans (not_congr ⟨fun h k hk hk2 => ?_, fun h k hk hk2 => h k (by omega) hk2⟩), r4⟩
      by_cases gk : (k : Int) = x.toInt
      · rw [show k = x.toInt.toNat by omega]; exact g
      · exact h k (by omega) hk2
    · rw [if_neg (fun h => g ((byte_eq p4 q4).mp h)), if_neg g]
      refine ⟨0, 0, rfl, ?_, ⟨fun _ h => g (h x.toInt.toNat (by omega) (by omega)), fun _ => rfl⟩, Iff.rfl⟩
      unfold bX7_isSame_75
      obtain ⟨f', rfl⟩ : ∃ f', f = f' + 1 := ⟨f - 1, by omega⟩
      simp only
      rw [bX7_isSame_24, if_pos i2]
      by_cases gg : ml i.toNatClampNeg ≤ x + 1
      · rw [if_pos gg, if_pos (Or.inl rfl)]
      · rw [if_neg gg, if_pos rfl, if_pos (Or.inl rfl)]
theorem same_both (hR : DR 0 kinds starts lengths depths numbers b_cells b_size b_tooLong openKinds size depth named mk mn ms ml mw mp mi mb mo mm md) {i j : Int32} (h0 : 0 ≤ i.toInt) (h1 : i.toInt < size.toInt) (g0 : 0 ≤ j.toInt) (g1 : j.toInt < size.toInt) : ∃ r r', fX0_haveSameText starts lengths b_cells b_size size i j = some r ∧ fX7_isSame ms ml mp i j = some r' ∧ (r = 0 ↔ ¬ sameT starts lengths b_cells i.toInt.toNat j.toInt.toNat) ∧ (r' = 0 ↔ r = 0) := by
  obtain ⟨i1, i2, f1, f2, f3, f4, f5, f6, f7, f8, f9⟩ := item_facts hR h0 h1
  obtain ⟨j1, j2, k1, k2, k3, k4, k5, k6, k7, k8, k9⟩ := item_facts hR g0 g1
  have a6 := hR.1.2.2.2.2.2.1
  have h10 : ¬ ((1 : Int32) = 0) := by decide
  unfold fX0_haveSameText bX0_haveSameText_0 fX7_isSame bX7_isSame_0 bX7_isSame_20
  rw [chas1 a6 h0 h1, Option.bind_some, if_neg h10, chas1 a6 g0 g1, Option.bind_some, if_neg h10, if_pos i1, if_pos j1, if_pos i2, if_pos j2, f4, k4]
  by_cases g : lengths i.toNatClampNeg = lengths j.toNatClampNeg
  · rw [if_pos g, if_pos g]
    obtain ⟨r, r', r1, r2, r3, r4⟩ := csame_loop hR h0 h1 g0 g1 g (lengths i.toNatClampNeg).toInt.toNat FU 0 (by unfold FU; omega) (by decide) (by rw [z0]; omega)
    refine ⟨r, r', r1, r2, r3.trans (not_congr ⟨fun h => ⟨g, fun k hk => h k (by rw [z0]; omega) hk⟩, fun h k _ hk => h.2 k hk⟩), r4⟩
  · rw [if_neg g, if_neg g]
    refine ⟨0, 0, rfl, ?_, ⟨fun _ h => g h.1, fun _ => rfl⟩, Iff.rfl⟩
    rw [show FU = 999999 + 1 from rfl, bX7_isSame_24, if_pos i2]
    by_cases gg : ml i.toNatClampNeg ≤ 0
    · rw [if_pos gg, if_pos (Or.inl rfl)]
    · rw [if_neg gg, if_pos rfl, if_pos (Or.inl rfl)]
theorem mix_loop (hR : DR 0 kinds starts lengths depths numbers b_cells b_size b_tooLong openKinds size depth named mk mn ms ml mw mp mi mb mo mm md) {i j : Int32} (h0 : 0 ≤ i.toInt) (h1 : i.toInt < size.toInt) (g0 : 0 ≤ j.toInt) (g1 : j.toInt < size.toInt) (hs : sameT starts lengths b_cells i.toInt.toNat j.toInt.toNat) : ∀ (n fuel : Nat) (x a : Int32), n < fuel → 0 ≤ x.toInt → x.toInt + n = (lengths i.toNatClampNeg).toInt → ∃ r, bX0_mixOf_12 fuel starts lengths b_cells b_size size i a x = some r ∧ bX0_mixOf_12 fuel starts lengths b_cells b_size size j a x = some r := by
  obtain ⟨i1, i2, f1, f2, f3, f4, f5, f6, f7, f8, f9⟩ := item_facts hR h0 h1
  obtain ⟨j1, j2, k1, k2, k3, k4, k5, k6, k7, k8, k9⟩ := item_facts hR g0 g1
  have hl : lengths i.toNatClampNeg = lengths j.toNatClampNeg := hs.1
  intro n
  induction n with
  | zero =>
    intro fuel x a hf hx hn
    obtain ⟨f, rfl⟩ : ∃ f, fuel = f + 1 := ⟨fuel - 1, by omega⟩
    refine ⟨a, ?_, ?_⟩
    · rw [bX0_mixOf_12, if_pos i1, if_pos (by rw [zle]; omega)]
    · rw [bX0_mixOf_12, if_pos j1, ← hl, if_pos (by rw [zle]; omega)]
  | succ n ih =>
    intro fuel x a hf hx hn
    obtain ⟨f, rfl⟩ : ∃ f, fuel = f + 1 := ⟨fuel - 1, by omega⟩
    have e1 : (x + 1).toInt = x.toInt + 1 := by rw [zadd (by rw [z1]; omega) (by rw [z1]; omega), z1]
    obtain ⟨p1, p2, p3, p4⟩ := item_byte hR (x := x) h0 h1 hx (by omega)
    obtain ⟨q1, q2, q3, q4⟩ := item_byte hR (x := x) g0 g1 hx (by rw [← hl]; omega)
    have hb : b_cells ((starts i.toNatClampNeg).toInt.toNat + x.toInt.toNat) = b_cells ((starts j.toNatClampNeg).toInt.toNat + x.toInt.toNat) := hs.2 x.toInt.toNat (by show (x.toInt.toNat : Int) < (lengths i.toNatClampNeg).toInt; omega)
    obtain ⟨r, r1, r2⟩ := ih f (x + 1) (((a * 31) + (b_cells ((starts i.toNatClampNeg).toInt.toNat + x.toInt.toNat) &&& 255)) + 1) (by omega) (by omega) (by omega)
    refine ⟨r, ?_, ?_⟩
    · rw [bX0_mixOf_12, if_pos i1, if_neg (by rw [zle]; omega), if_pos i1, p1, Option.bind_some]; exact r1
    · rw [bX0_mixOf_12, if_pos j1, ← hl, if_neg (by rw [zle]; omega), if_pos j1, q1, Option.bind_some, ← hb]; exact r2
/-- the bucket of an item -/
def bkt (starts lengths b_cells : Nat → Int32) (b_size size : Int32) (i : Int32) : Nat := ((((fX0_mixOf starts lengths b_cells b_size size i).getD 0) ^^^ ((Int32.toUInt32 ((fX0_mixOf starts lengths b_cells b_size size i).getD 0) >>> (Int32.toUInt32 8 &&& Int32.toUInt32 31)).toInt32)) &&& 255).toNatClampNeg
theorem mix_some (hR : DR 0 kinds starts lengths depths numbers b_cells b_size b_tooLong openKinds size depth named mk mn ms ml mw mp mi mb mo mm md) {i : Int32} (h0 : 0 ≤ i.toInt) (h1 : i.toInt < size.toInt) : ∃ r b, fX0_mixOf starts lengths b_cells b_size size i = some r ∧ fX3_bucketOf r = some b ∧ ix b 256 ∧ b.toNatClampNeg = bkt starts lengths b_cells b_size size i := by
  have a6 := hR.1.2.2.2.2.2.1
  obtain ⟨i1, i2, f1, f2, f3, f4, f5, f6, f7, f8, f9⟩ := item_facts hR h0 h1
  obtain ⟨r, r1, -⟩ := mix_loop hR h0 h1 h0 h1 ⟨rfl, fun _ _ => rfl⟩ (lengths i.toNatClampNeg).toInt.toNat FU 0 0 (by unfold FU; omega) (by decide) (by rw [z0]; omega)
  have hm : fX0_mixOf starts lengths b_cells b_size size i = some r := by
    unfold fX0_mixOf bX0_mixOf_0
    rw [chas1 a6 h0 h1, Option.bind_some, if_neg (by decide)]
    exact r1
  refine ⟨r, _, hm, rfl, ?_, ?_⟩
  · show 0 ≤ _ ∧ _ < _
    rw [zand255]; omega
  · unfold bkt; rw [hm]; rfl
theorem bkt_same (hR : DR 0 kinds starts lengths depths numbers b_cells b_size b_tooLong openKinds size depth named mk mn ms ml mw mp mi mb mo mm md) {i j : Int32} (h0 : 0 ≤ i.toInt) (h1 : i.toInt < size.toInt) (g0 : 0 ≤ j.toInt) (g1 : j.toInt < size.toInt) (hs : sameT starts lengths b_cells i.toInt.toNat j.toInt.toNat) : bkt starts lengths b_cells b_size size i = bkt starts lengths b_cells b_size size j := by
  have a6 := hR.1.2.2.2.2.2.1
  obtain ⟨i1, i2, f1, f2, f3, f4, f5, f6, f7, f8, f9⟩ := item_facts hR h0 h1
  obtain ⟨r, r1, r2⟩ := mix_loop hR h0 h1 g0 g1 hs (lengths i.toNatClampNeg).toInt.toNat FU 0 0 (by unfold FU; omega) (by decide) (by rw [z0]; omega)
  have hi : fX0_mixOf starts lengths b_cells b_size size i = some r := by
    unfold fX0_mixOf bX0_mixOf_0
    rw [chas1 a6 h0 h1, Option.bind_some, if_neg (by decide)]
    exact r1
  have hj : fX0_mixOf starts lengths b_cells b_size size j = some r := by
    unfold fX0_mixOf bX0_mixOf_0
    rw [chas1 a6 g0 g1, Option.bind_some, if_neg (by decide)]
    exact r2
  unfold bkt; rw [hi, hj]
end Same
