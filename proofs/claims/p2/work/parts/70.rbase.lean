/-! reading: what is kept of the reference's first half; a document that stands alone -/
def FR (mk : Nat → Int32) (mn : Nat → Int64) (ms ml mw mp mi mb mo mm md mk' : Nat → Int32) (mn' : Nat → Int64) (ms' ml' mw' mp' mi' mb' mo' mm' md' : Nat → Int32) : Prop :=
  (∀ i : Nat, i < 1500 → mk' i = mk i ∧ mn' i = mn i ∧ ms' i = ms i ∧ ml' i = ml i ∧ mw' i = mw i) ∧ (∀ k : Nat, k < 5000 → mp' k = mp k) ∧ mi' 0 = mi 0 ∧ mb' 0 = mb 0 ∧ md' 0 = md 0 ∧ (∀ j : Nat, j < 30 → mo' j = mo j ∧ mm' j = mm j)
section RB
variable {kinds starts lengths depths b_cells openKinds : Nat → Int32} {numbers : Nat → Int64} {b_size b_tooLong size depth named : Int32} {mk ms ml mw mp mi mb mo mm md : Nat → Int32} {mn : Nat → Int64} {d : Nat} {mk' ms' ml' mw' mp' mi' mb' mo' mm' md' : Nat → Int32} {mn' : Nat → Int64}
theorem FR.refl : FR mk mn ms ml mw mp mi mb mo mm md mk mn ms ml mw mp mi mb mo mm md := ⟨fun _ _ => ⟨rfl, rfl, rfl, rfl, rfl⟩, fun _ _ => rfl, rfl, rfl, rfl, fun _ _ => ⟨rfl, rfl⟩⟩
theorem FR.trans {mk2 ms2 ml2 mw2 mp2 mi2 mb2 mo2 mm2 md2 : Nat → Int32} {mn2 : Nat → Int64} (h : FR mk mn ms ml mw mp mi mb mo mm md mk' mn' ms' ml' mw' mp' mi' mb' mo' mm' md') (g : FR mk' mn' ms' ml' mw' mp' mi' mb' mo' mm' md' mk2 mn2 ms2 ml2 mw2 mp2 mi2 mb2 mo2 mm2 md2) : FR mk mn ms ml mw mp mi mb mo mm md mk2 mn2 ms2 ml2 mw2 mp2 mi2 mb2 mo2 mm2 md2 := by
  obtain ⟨a1, a2, a3, a4, a5, a6⟩ := h
  obtain ⟨b1, b2, b3, b4, b5, b6⟩ := g
  refine ⟨fun i hi => ?_, fun k hk => (b2 k hk).trans (a2 k hk), b3.trans a3, b4.trans a4, b5.trans a5, fun j hj => ?_⟩
  · obtain ⟨c1, c2, c3, c4, c5⟩ := a1 i hi
    obtain ⟨d1, d2, d3, d4, d5⟩ := b1 i hi
    exact ⟨d1.trans c1, d2.trans c2, d3.trans c3, d4.trans c4, d5.trans c5⟩
  · exact ⟨(b6 j hj).1.trans (a6 j hj).1, (b6 j hj).2.trans (a6 j hj).2⟩
theorem DR.frame (hR : DR 0 kinds starts lengths depths numbers b_cells b_size b_tooLong openKinds size depth named mk mn ms ml mw mp mi mb mo mm md) (h : FR mk mn ms ml mw mp mi mb mo mm md mk' mn' ms' ml' mw' mp' mi' mb' mo' mm' md') : DR 0 kinds starts lengths depths numbers b_cells b_size b_tooLong openKinds size depth named mk' mn' ms' ml' mw' mp' mi' mb' mo' mm' md' := by
  obtain ⟨hZ, hI, hB, hO, hX⟩ := hR
  obtain ⟨a1, a2, a3, a4, a5, a6⟩ := h
  obtain ⟨z1', z2', z3', z4', z5', z6', z7', z8', z9', z10', z11', z12'⟩ := hZ
  refine ⟨⟨a3.trans z1', a4.trans z2', a5.trans z3', z4', z5', z6', z7', z8', z9', z10', z11', z12'⟩, fun i hi => ?_, fun k hk => ?_, ⟨fun j hj => ?_, hO.2⟩, hX⟩
  · obtain ⟨c1, c2, c3, c4, c5⟩ := a1 i (by omega)
    have := hI i hi
    rw [Nat.mul_zero, Nat.zero_add] at this ⊢
    rw [c1, c2, c3, c4, c5]; exact this
  · have := hB k hk
    rw [Nat.mul_zero, Nat.zero_add] at this ⊢
    rw [a2 k (by omega)]; exact this
  · obtain ⟨c1, c2⟩ := a6 j (by omega)
    have := hO.1 j hj
    rw [Nat.mul_zero, Nat.zero_add] at this ⊢
    rw [c1, c2]; exact this
/-- the class's document beside itself -/
theorem DR.alone (hR : DR d kinds starts lengths depths numbers b_cells b_size b_tooLong openKinds size depth named mk mn ms ml mw mp mi mb mo mm md) : DR 0 kinds starts lengths depths numbers b_cells b_size b_tooLong openKinds size depth named kinds numbers starts lengths depths b_cells (fun _ => size) (fun _ => b_size) (fun j => if openKinds j = 6 then 1 else 0) (fun j => if (j : Int) + 1 = depth.toInt then named else 0) (fun _ => depth) := by
  obtain ⟨hZ, hI, hB, hO, hX⟩ := hR
  obtain ⟨z1', z2', z3', z4', z5', z6', z7', z8', z9', z10', z11', z12'⟩ := hZ
  refine ⟨⟨rfl, rfl, rfl, z4', z5', z6', z7', z8', z9', z10', z11', z12'⟩, fun i hi => ?_, fun k hk => ?_, ⟨fun j hj => ?_, hO.2⟩, hX⟩
  · obtain ⟨b1, b2, b3, b4, b5, b6⟩ := hI i hi
    rw [Nat.mul_zero, Nat.zero_add]
    exact ⟨rfl, rfl, by omega, rfl, rfl, b6⟩
  · rw [Nat.mul_zero, Nat.zero_add]; exact ⟨rfl, (hB k hk).2⟩
  · rw [Nat.mul_zero, Nat.zero_add]
    obtain ⟨b1, b2, b3⟩ := hO.1 j hj
    refine ⟨?_, fun g => if_neg (by omega), fun g => ⟨if_pos g, (b3 g).2⟩⟩
    rcases b1 with ⟨c1, -⟩ | ⟨c1, -⟩
    · exact Or.inl ⟨c1, by show (if openKinds j = 6 then (1 : Int32) else 0) = 0; rw [c1]; decide⟩
    · exact Or.inr ⟨c1, by show (if openKinds j = 6 then (1 : Int32) else 0) = 1; rw [if_pos c1]⟩
end RB
/-- a table when a document is read -/
def RT (t : Nat) (ds : Int32) (items : Nat → Int32) (sz : Int32) (tb tz : Nat → Int32) : Prop :=
  tz t = sz ∧ 0 ≤ sz.toInt ∧ sz.toInt ≤ 1024 ∧ ∀ p : Nat, (p : Int) < sz.toInt → (tb (1024 * t + p)).toInt = 1500 + (items p).toInt ∧ 0 ≤ (items p).toInt ∧ (items p).toInt < ds.toInt
section RTS
variable {kinds starts lengths depths b_cells openKinds : Nat → Int32} {numbers : Nat → Int64} {b_size b_tooLong size depth named : Int32} {mk ms ml mw mp mi mb mo mm md : Nat → Int32} {mn : Nat → Int64} {d : Nat} {t : Nat} {items chain heads tb tz : Nat → Int32} {sz : Int32}
theorem RT.empty {ds : Int32} (h1 : tz t = 0) : RT t ds items 0 tb tz := ⟨h1, by decide, by decide, fun p hp => by rw [z0] at hp; omega⟩
theorem RT.more {ds ds' : Int32} (h : RT t ds items sz tb tz) (hd : ds.toInt ≤ ds'.toInt) : RT t ds' items sz tb tz := ⟨h.1, h.2.1, h.2.2.1, fun p hp => ⟨(h.2.2.2 p hp).1, (h.2.2.2 p hp).2.1, by have := (h.2.2.2 p hp).2.2; omega⟩⟩
theorem RT.other {ds : Int32} (h : RT t ds items sz tb tz) {tb' tz' : Nat → Int32} (h1 : ∀ p : Nat, p < 1024 → tb' (1024 * t + p) = tb (1024 * t + p)) (h2 : tz' t = tz t) : RT t ds items sz tb' tz' := by
  obtain ⟨t1, t2, t3, t4⟩ := h
  refine ⟨by rw [h2]; exact t1, t2, t3, fun p hp => ?_⟩
  rw [h1 p (by omega)]; exact t4 p hp
/-- class: put of the last item -/
theorem cputread (hR : DR d kinds starts lengths depths numbers b_cells b_size b_tooLong openKinds size depth named mk mn ms ml mw mp mi mb mo mm md) (hT : RT t size items sz tb tz) {i j : Int32} (h0 : 0 ≤ i.toInt) (h1 : i.toInt < size.toInt) (hj : j.toInt = 1500 + i.toInt) {tb' tz' : Nat → Int32} (htb : ∀ p : Nat, p < 1024 → tb' (1024 * t + p) = if p = (if sz.toInt = 1024 then 0 else sz.toInt.toNat) then j else tb (1024 * t + p)) (htz : tz' t = (if sz.toInt = 1024 then 0 else sz) + 1) : ∃ items' chain' heads' sz', fX3_put items chain heads sz starts lengths b_cells b_size size i = some (items', chain', heads', sz') ∧ RT t size items' sz' tb' tz' := by
  obtain ⟨t1, t2, t3, t4⟩ := id hT
  obtain ⟨r, b, m1, m2, m3, m4⟩ := mix_some hR.alone h0 h1
  have z1024 : (1024 : Int32).toInt = 1024 := by decide
  have h14 : ∀ (heads : Nat → Int32) (sz : Int32) (tb0 : Nat → Int32), 0 ≤ sz.toInt → sz.toInt < 1024 → (∀ p : Nat, (p : Int) < sz.toInt → (tb0 (1024 * t + p)).toInt = 1500 + (items p).toInt ∧ 0 ≤ (items p).toInt ∧ (items p).toInt < size.toInt) → (∀ p : Nat, (p : Int) ≤ sz.toInt → tb' (1024 * t + p) = if p = sz.toInt.toNat then j else tb0 (1024 * t + p)) → tz' t = sz + 1 → ∃ items' chain' heads' sz', bX3_put_14 items chain heads sz starts lengths b_cells b_size size i = some (items', chain', heads', sz') ∧ RT t size items' sz' tb' tz' := by
    intro heads sz tb0 t2 hs t4 htb htz
    have is : ix sz 1024 := ⟨t2, by omega⟩
    have es : sz = nI sz.toInt.toNat := zNeg (by omega)
    have hct := ctold sz.toInt.toNat (by omega)
    rw [← es] at hct
    have e : (sz + 1).toInt = sz.toInt + 1 := by rw [zadd (by rw [z1]; omega) (by rw [z1]; omega), z1]
    have fin : RT t size (upd items sz.toInt.toNat i) (sz + 1) tb' tz' := by
      refine ⟨htz, by omega, by omega, fun p hp => ?_⟩
      rw [htb p (by omega)]
      by_cases g : p = sz.toInt.toNat
      · rw [if_pos g, g, upd_same]; exact ⟨hj, h0, h1⟩
      · rw [if_neg g, upd_ne g]; exact t4 p (by omega)
    unfold bX3_put_14
    rw [if_pos is, hct, Option.bind_some]
    by_cases g : sz.toInt.toNat % 256 < 254
    · rw [if_pos g, if_neg (by decide), m1, Option.bind_some, m2, Option.bind_some, if_pos m3, if_pos is, if_pos m3]
      exact ⟨_, _, _, _, rfl, fin⟩
    · rw [if_neg g, if_pos rfl]
      exact ⟨_, _, _, _, rfl, fin⟩
  unfold fX3_put bX3_put_0
  by_cases g : sz.toInt = 1024
  · rw [if_pos g] at htz
    rw [if_neg (by rw [zlt, z1024]; omega)]
    obtain ⟨h', e1, e2⟩ := cclear (heads := heads) (sz := sz)
    rw [e1, Option.bind_some]
    refine h14 h' 0 tb (by decide) (by decide) (fun p hp => by rw [z0] at hp; omega) (fun p hp => ?_) htz
    rw [z0] at hp ⊢
    rw [htb p (by omega), if_pos g]; rfl
  · rw [if_neg g] at htz
    rw [if_pos (by rw [zlt, z1024]; omega)]
    refine h14 heads sz tb t2 (by omega) t4 (fun p hp => ?_) htz
    rw [htb p (by omega), if_neg g]
end RTS
