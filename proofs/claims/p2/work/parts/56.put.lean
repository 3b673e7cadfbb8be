/-! what is written: the class's row beside the reference's draft -/
def OR (oc : Nat → Int32) (os ot : Int32) (dr : Nat → Int32) (ds : Int32) : Prop :=
  0 ≤ ds.toInt ∧ ((ds.toInt ≤ 6000 ∧ os = ds ∧ ot = 0 ∧ ∀ k : Nat, (k : Int) < ds.toInt → dr k = oc k ∧ b8 (oc k) = oc k) ∨ (6000 < ds.toInt ∧ os.toInt = 6000 ∧ ot = 1))
theorem z6000 : (6000 : Int32).toInt = 6000 := by decide
/-- class and reference go the same way, by at most n bytes -/
def SW (n : Nat) (ds : Int32) (a : Option ((Nat → Int32) × Int32 × Int32)) (b : Option ((Nat → Int32) × Int32)) : Prop :=
  ∃ oc' os' ot' dr' ds', a = some (oc', os', ot') ∧ b = some (dr', ds') ∧ OR oc' os' ot' dr' ds' ∧ ds.toInt ≤ ds'.toInt ∧ ds'.toInt ≤ ds.toInt + n
section Put
variable {oc dr : Nat → Int32} {os ot ds x y : Int32}
theorem OR.put (h : OR oc os ot dr ds) (hd : ds.toInt < 2147483000) (hxy : b8 x = b8 y) : SW 1 ds (fX2_push 6000 oc os ot x) (fX7_put dr ds y) := by
  obtain ⟨h0, h⟩ := h
  have e : (ds + 1).toInt = ds.toInt + 1 := by rw [zadd (by rw [z1]; omega) (by rw [z1]; omega), z1]
  unfold fX7_put bX7_put_0
  rcases h with ⟨h1, h2, h3, h4⟩ | ⟨h1, h2, h3⟩
  · subst h2 h3
    by_cases g : os.toInt < 6000
    · have e3 : b8 (b8 x) = b8 x := b8_b8 x
      refine ⟨upd oc os.toNatClampNeg (b8 (b8 x)), os + 1, 0, upd dr os.toNatClampNeg (b8 (b8 y)), os + 1, cpush (by omega) h0 (by omega), ?_, ⟨by omega, Or.inl ⟨by omega, rfl, rfl, fun k hk => ?_⟩⟩, by omega, by omega⟩
      · rw [if_neg (by rw [zle, z6000]; omega), if_pos ⟨h0, by omega⟩]; rfl
      · by_cases gk : k = os.toNatClampNeg
        · subst gk
          rw [upd_same, upd_same, hxy, b8_b8, b8_b8]
          exact ⟨rfl, rfl⟩
        · rw [upd_ne gk, upd_ne gk]
          rw [zcl] at gk
          exact h4 k (by omega)
    · refine ⟨oc, os, 1, dr, os + 1, ?_, ?_, ⟨by omega, Or.inr ⟨by omega, by omega, rfl⟩⟩, by omega, by omega⟩
      · unfold fX2_push bX2_push_0
        rw [if_pos (by rw [zle, znI (by omega)]; omega)]
      · rw [if_pos (by rw [zle, z6000]; omega)]
  · subst h3
    refine ⟨oc, os, 1, dr, ds + 1, ?_, ?_, ⟨by omega, Or.inr ⟨by omega, h2, rfl⟩⟩, by omega, by omega⟩
    · unfold fX2_push bX2_push_0
      rw [if_pos (by rw [zle, znI (by omega)]; omega)]
    · rw [if_pos (by rw [zle, z6000]; omega)]
end Put
section Copy
variable {kinds starts lengths depths b_cells openKinds : Nat → Int32} {numbers : Nat → Int64} {b_size b_tooLong size depth named : Int32} {mk ms ml mw mp mi mb mo mm md : Nat → Int32} {mn : Nat → Int64}
/-- what is known of an item -/
theorem item_facts (hR : DR 0 kinds starts lengths depths numbers b_cells b_size b_tooLong openKinds size depth named mk mn ms ml mw mp mi mb mo mm md) {i : Int32} (h0 : 0 ≤ i.toInt) (h1 : i.toInt < size.toInt) : ix i 1500 ∧ ix i 3000 ∧ mk i.toNatClampNeg = kinds i.toNatClampNeg ∧ mn i.toNatClampNeg = numbers i.toNatClampNeg ∧ (ms i.toNatClampNeg).toInt = (starts i.toNatClampNeg).toInt ∧ ml i.toNatClampNeg = lengths i.toNatClampNeg ∧ mw i.toNatClampNeg = depths i.toNatClampNeg ∧ 0 ≤ (starts i.toNatClampNeg).toInt ∧ 0 ≤ (lengths i.toNatClampNeg).toInt ∧ (starts i.toNatClampNeg).toInt + (lengths i.toNatClampNeg).toInt ≤ b_size.toInt ∧ b_size.toInt ≤ 5000 := by
  obtain ⟨a1, a2, a3, a4, a5, a6, a7, a8, a9, a10, a11, a12⟩ := id hR.1
  obtain ⟨b1, b2, b3, b4, b5, b6, b7, b8', -⟩ := hR.2.1 i.toInt.toNat (by omega)
  rw [Nat.mul_zero, Nat.zero_add] at b1 b2 b3 b4 b5
  rw [zcl]
  exact ⟨⟨h0, by omega⟩, ⟨h0, by omega⟩, b1, b2, by omega, b4, b5, b6, b7, b8', a8⟩
/-- byte k of an item: in both pools -/
theorem item_byte (hR : DR 0 kinds starts lengths depths numbers b_cells b_size b_tooLong openKinds size depth named mk mn ms ml mw mp mi mb mo mm md) {i x : Int32} (h0 : 0 ≤ i.toInt) (h1 : i.toInt < size.toInt) (hx : 0 ≤ x.toInt) (hx2 : x.toInt < (lengths i.toNatClampNeg).toInt) : fX2_at 5000 b_cells b_size (starts i.toNatClampNeg + x) = some (b_cells ((starts i.toNatClampNeg).toInt.toNat + x.toInt.toNat) &&& 255) ∧ ix (ms i.toNatClampNeg + x) 16000 ∧ mp (ms i.toNatClampNeg + x).toNatClampNeg = b_cells ((starts i.toNatClampNeg).toInt.toNat + x.toInt.toNat) ∧ b8 (b_cells ((starts i.toNatClampNeg).toInt.toNat + x.toInt.toNat)) = b_cells ((starts i.toNatClampNeg).toInt.toNat + x.toInt.toNat) := by
  obtain ⟨i1, i2, f1, f2, f3, f4, f5, f6, f7, f8, f9⟩ := item_facts hR h0 h1
  have e1 : (starts i.toNatClampNeg + x).toInt = (starts i.toNatClampNeg).toInt + x.toInt := zadd (by omega) (by omega)
  have e2 : (ms i.toNatClampNeg + x).toInt = (starts i.toNatClampNeg).toInt + x.toInt := by rw [zadd (by omega) (by omega), f3]
  obtain ⟨g1, g2⟩ := hR.2.2.1 ((starts i.toNatClampNeg).toInt.toNat + x.toInt.toNat) (by omega)
  rw [Nat.mul_zero, Nat.zero_add] at g1
  refine ⟨?_, ?_, ?_, g2⟩
  · rw [cat f9, catv_in (by omega) (by omega), zcl, e1, show ((starts i.toNatClampNeg).toInt + x.toInt).toNat = (starts i.toNatClampNeg).toInt.toNat + x.toInt.toNat by omega]
  · show 0 ≤ _ ∧ _ < _
    rw [e2]; omega
  · rw [zcl, e2, show ((starts i.toNatClampNeg).toInt + x.toInt).toNat = (starts i.toNatClampNeg).toInt.toNat + x.toInt.toNat by omega, g1]
theorem copy_loop (hR : DR 0 kinds starts lengths depths numbers b_cells b_size b_tooLong openKinds size depth named mk mn ms ml mw mp mi mb mo mm md) {i : Int32} (h0 : 0 ≤ i.toInt) (h1 : i.toInt < size.toInt) : ∀ (n fuel : Nat) (x : Int32) (oc : Nat → Int32) (os ot : Int32) (dr : Nat → Int32) (ds : Int32), n < fuel → 0 ≤ x.toInt → x.toInt + n = (lengths i.toNatClampNeg).toInt → OR oc os ot dr ds → ds.toInt + n < 2147483000 → SW n ds (bX0_copyText_10 fuel starts lengths b_cells b_size size 6000 oc os ot i x) (bX7_putBytes_2 fuel dr ms ml mp ds i x) := by
  obtain ⟨i1, i2, f1, f2, f3, f4, f5, f6, f7, f8, f9⟩ := item_facts hR h0 h1
  intro n
  induction n with
  | zero =>
    intro fuel x oc os ot dr ds hf hx hxn h hd
    obtain ⟨f, rfl⟩ : ∃ f, fuel = f + 1 := ⟨fuel - 1, by omega⟩
    refine ⟨oc, os, ot, dr, ds, ?_, ?_, h, by omega, by omega⟩
    · rw [bX0_copyText_10, if_pos i1, if_pos (by rw [zle]; omega)]
    · rw [bX7_putBytes_2, if_pos i2, f4, if_pos (by rw [zle]; omega)]
  | succ n ih =>
    intro fuel x oc os ot dr ds hf hx hxn h hd
    obtain ⟨f, rfl⟩ : ∃ f, fuel = f + 1 := ⟨fuel - 1, by omega⟩
    have e1 : (x + 1).toInt = x.toInt + 1 := by rw [zadd (by rw [z1]; omega) (by rw [z1]; omega), z1]
    obtain ⟨g1, g2, g3, g4⟩ := item_byte hR (x := x) h0 h1 hx (by omega)
    obtain ⟨oc', os', ot', dr', ds', p1, p2, p3, p4, p5⟩ := h.put (x := b_cells ((starts i.toNatClampNeg).toInt.toNat + x.toInt.toNat) &&& 255) (y := b_cells ((starts i.toNatClampNeg).toInt.toNat + x.toInt.toNat)) (by omega) (b8_and _)
    obtain ⟨oc2, os2, ot2, dr2, ds2, q1, q2, q3, q4, q5⟩ := ih f (x + 1) oc' os' ot' dr' ds' (by omega) (by omega) (by omega) p3 (by omega)
    refine ⟨oc2, os2, ot2, dr2, ds2, ?_, ?_, q3, by omega, by omega⟩
    · rw [bX0_copyText_10, if_pos i1, if_neg (by rw [zle]; omega), if_pos i1, g1, Option.bind_some, p1, Option.bind_some]
      exact q1
    · rw [bX7_putBytes_2, if_pos i2, f4, if_neg (by rw [zle]; omega), if_pos i2, if_pos g2, g3, p2, Option.bind_some]
      exact q2
theorem sim_copy (hR : DR 0 kinds starts lengths depths numbers b_cells b_size b_tooLong openKinds size depth named mk mn ms ml mw mp mi mb mo mm md) {i : Int32} (h0 : 0 ≤ i.toInt) (h1 : i.toInt < size.toInt) {oc : Nat → Int32} {os ot : Int32} {dr : Nat → Int32} {ds : Int32} (h : OR oc os ot dr ds) (hd : ds.toInt < 2147100000) : SW 5000 ds (fX0_copyText starts lengths b_cells b_size size 6000 oc os ot i) (fX7_putBytes dr ms ml mp ds i) := by
  obtain ⟨i1, i2, f1, f2, f3, f4, f5, f6, f7, f8, f9⟩ := item_facts hR h0 h1
  have a6 := hR.1.2.2.2.2.2.1
  obtain ⟨oc2, os2, ot2, dr2, ds2, q1, q2, q3, q4, q5⟩ := copy_loop hR h0 h1 (lengths i.toNatClampNeg).toInt.toNat FU 0 oc os ot dr ds (by unfold FU; omega) (by decide) (by rw [z0]; omega) h (by omega)
  refine ⟨oc2, os2, ot2, dr2, ds2, ?_, q2, q3, q4, by omega⟩
  unfold fX0_copyText bX0_copyText_0
  rw [chas1 a6 h0 h1, Option.bind_some, if_neg (by decide)]
  exact q1
end Copy
