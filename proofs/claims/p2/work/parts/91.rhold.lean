/-! what was read is held -/
section Ho
variable {kinds starts lengths depths b_cells openKinds : Nat → Int32} {numbers : Nat → Int64} {b_size b_tooLong size depth named : Int32} {mk ms ml mw mp mi mb mo mm md : Nat → Int32} {mn : Nat → Int64}
theorem hold135 {bs : Int32} (hb : mb 0 = bs) (hb2 : bs.toInt ≤ 5000) : ∀ (n fuel : Nat) (x : Int32) (mq : Nat → Int32), n < fuel → 0 ≤ x.toInt → x.toInt + n = bs.toInt → (∀ k : Nat, 5000 ≤ k → mq k = mp k) → (∀ k : Nat, (k : Int) < x.toInt → mq k = b8 (mp (5000 + k))) → ∃ mq', bX7_holdRead_135 fuel mk mn ms ml mw mq mi mb md x = some (mk, mn, ms, ml, mw, mq', mi, mb, md) ∧ ∀ k : Nat, (k : Int) < bs.toInt → mq' k = b8 (mp (5000 + k)) := by
  have c0 : Int32.toNatClampNeg 0 = 0 := by decide
  intro n
  induction n with
  | zero =>
    intro fuel x mq hf hx hn h1 h2
    obtain ⟨f, rfl⟩ : ∃ f, fuel = f + 1 := ⟨fuel - 1, by omega⟩
    rw [bX7_holdRead_135, if_pos i02, c0, hb, if_pos (by rw [zle]; omega)]
    exact ⟨mq, rfl, fun k hk => h2 k (by omega)⟩
  | succ n ih =>
    intro fuel x mq hf hx hn h1 h2
    obtain ⟨f, rfl⟩ : ∃ f, fuel = f + 1 := ⟨fuel - 1, by omega⟩
    have e1 : (x + 1).toInt = x.toInt + 1 := by rw [zadd (by rw [z1]; omega) (by rw [z1]; omega), z1]
    have e5 : (5000 + x).toInt = 5000 + x.toInt := by rw [zadd (by rw [z5000]; omega) (by rw [z5000]; omega), z5000]
    rw [bX7_holdRead_135, if_pos i02, c0, hb, if_neg (by rw [zle]; omega), if_pos ⟨by omega, by omega⟩, if_pos ⟨by omega, by omega⟩]
    refine ih f (x + 1) _ (by omega) (by omega) (by omega) (fun k hk => ?_) (fun k hk => ?_)
    · rw [upd_ne (by rw [zcl]; omega)]; exact h1 k hk
    · by_cases g : k = x.toNatClampNeg
      · rw [g, upd_same, zcl, zcl, e5, h1 _ (by omega), show (5000 + x.toInt).toNat = 5000 + x.toInt.toNat by omega]; rfl
      · rw [upd_ne g]; rw [zcl] at g; exact h2 k (by omega)
theorem hold33 {sz bs : Int32} (hz : mi 0 = sz) (hz0 : 0 ≤ sz.toInt) (hz2 : sz.toInt ≤ 1500) (hb : mb 0 = bs) (hb0 : 0 ≤ bs.toInt) (hb2 : bs.toInt ≤ 5000) : ∀ (n fuel : Nat) (x : Int32) (qk qs ql qw : Nat → Int32) (qn : Nat → Int64), n < fuel → 0 ≤ x.toInt → x.toInt + n = sz.toInt → (∀ k : Nat, 1500 ≤ k → qk k = mk k ∧ qn k = mn k ∧ qs k = ms k ∧ ql k = ml k ∧ qw k = mw k) → (∀ k : Nat, (k : Int) < x.toInt → qk k = mk (1500 + k) ∧ qn k = mn (1500 + k) ∧ qs k = ms (1500 + k) - 5000 ∧ ql k = ml (1500 + k) ∧ qw k = mw (1500 + k)) → ∃ rk rn rs rl rw' rp, bX7_holdRead_33 fuel qk qn qs ql qw mp mi mb md x = some (rk, rn, rs, rl, rw', rp, mi, mb, md) ∧ (∀ k : Nat, (k : Int) < sz.toInt → rk k = mk (1500 + k) ∧ rn k = mn (1500 + k) ∧ rs k = ms (1500 + k) - 5000 ∧ rl k = ml (1500 + k) ∧ rw' k = mw (1500 + k)) ∧ ∀ k : Nat, (k : Int) < bs.toInt → rp k = b8 (mp (5000 + k)) := by
  have c0 : Int32.toNatClampNeg 0 = 0 := by decide
  intro n
  induction n with
  | zero =>
    intro fuel x qk qs ql qw qn hf hx hn h1 h2
    obtain ⟨f, rfl⟩ : ∃ f, fuel = f + 1 := ⟨fuel - 1, by omega⟩
    obtain ⟨mq', e, h⟩ := hold135 (mk := qk) (mn := qn) (ms := qs) (ml := ql) (mw := qw) (mp := mp) (mi := mi) (md := md) hb hb2 bs.toInt.toNat FU 0 mp (by unfold FU; omega) (by decide) (by rw [z0]; omega) (fun _ _ => rfl) (fun k hk => by rw [z0] at hk; omega)
    rw [bX7_holdRead_33, if_pos i02, c0, hz, if_pos (by rw [zle]; omega), e]
    exact ⟨_, _, _, _, _, _, rfl, fun k hk => h2 k (by omega), h⟩
  | succ n ih =>
    intro fuel x qk qs ql qw qn hf hx hn h1 h2
    obtain ⟨f, rfl⟩ : ∃ f, fuel = f + 1 := ⟨fuel - 1, by omega⟩
    have e1 : (x + 1).toInt = x.toInt + 1 := by rw [zadd (by rw [z1]; omega) (by rw [z1]; omega), z1]
    have e5 : (1500 + x).toInt = 1500 + x.toInt := by rw [zadd (by rw [z1500]; omega) (by rw [z1500]; omega), z1500]
    have i1 : ix (1500 + x) 3000 := ⟨by omega, by omega⟩
    have i2 : ix x 3000 := ⟨by omega, by omega⟩
    rw [bX7_holdRead_33, if_pos i02, c0, hz, if_neg (by rw [zle]; omega), if_pos i1, if_pos i2, if_pos i1, if_pos i2, if_pos i1, if_pos i2, if_pos i1, if_pos i2, if_pos i1, if_pos i2]
    refine ih f (x + 1) _ _ _ _ _ (by omega) (by omega) (by omega) (fun k hk => ?_) (fun k hk => ?_)
    · have g : k ≠ x.toNatClampNeg := by rw [zcl]; omega
      rw [upd_ne g, updL_ne g, upd_ne g, upd_ne g, upd_ne g]; exact h1 k hk
    · by_cases g : k = x.toNatClampNeg
      · obtain ⟨a1, a2, a3, a4, a5⟩ := h1 (1500 + x.toInt.toNat) (by omega)
        subst g
        rw [upd_same, updL_same, upd_same, upd_same, upd_same, zcl, zcl, e5, show (1500 + x.toInt).toNat = 1500 + x.toInt.toNat by omega, a1, a2, a3, a4, a5]
        exact ⟨rfl, rfl, rfl, rfl, rfl⟩
      · rw [upd_ne g, updL_ne g, upd_ne g, upd_ne g, upd_ne g]; rw [zcl] at g; exact h2 k (by omega)
theorem hold (hR : DR 1 kinds starts lengths depths numbers b_cells b_size b_tooLong openKinds size depth named mk mn ms ml mw mp mi mb mo mm md) (hd : depth.toInt = 0) : ∃ v : (Nat → Int32) × (Nat → Int64) × (Nat → Int32) × (Nat → Int32) × (Nat → Int32) × (Nat → Int32) × (Nat → Int32) × (Nat → Int32) × (Nat → Int32), fX7_holdRead mk mn ms ml mw mp mi mb md = some v ∧ DR 0 kinds starts lengths depths numbers b_cells b_size b_tooLong openKinds size depth named v.1 v.2.1 v.2.2.1 v.2.2.2.1 v.2.2.2.2.1 v.2.2.2.2.2.1 v.2.2.2.2.2.2.1 v.2.2.2.2.2.2.2.1 mo mm v.2.2.2.2.2.2.2.2 := by
  obtain ⟨hZ, hI, hB, hO, hX⟩ := hR
  obtain ⟨a1, a2, a3, a4, a5, a6, a7, a8, a9, a10, a11, a12⟩ := hZ
  have c0 : Int32.toNatClampNeg 0 = 0 := by decide
  have c1 : Int32.toNatClampNeg 1 = 1 := by decide
  have ix1 : ix 1 2 := by decide
  have d0 : depth = 0 := zeq.mpr (by rw [z0]; exact hd)
  obtain ⟨rk, rn, rs, rl, rw', rp, e, h1, h2⟩ := hold33 (mk := mk) (mn := mn) (ms := ms) (ml := ml) (mw := mw) (mp := mp) (mi := upd mi 0 size) (mb := upd mb 0 b_size) (md := upd md 0 0) (upd_same _ _ _) a5 a6 (upd_same _ _ _) a7 a8 size.toInt.toNat FU 0 mk ms ml mw mn (by unfold FU; omega) (by decide) (by rw [z0]; omega) (fun _ _ => ⟨rfl, rfl, rfl, rfl, rfl⟩) (fun k hk => by rw [z0] at hk; omega)
  unfold fX7_holdRead bX7_holdRead_0
  rw [if_pos ix1, if_pos i02, if_pos ix1, if_pos i02, if_pos i02, c0, c1, a1, a2, e]
  refine ⟨_, rfl, ⟨upd_same mi 0 size, upd_same mb 0 b_size, ?_, a4, a5, a6, a7, a8, a9, a10, a11, a12⟩, fun i hi => ?_, fun k hk => ?_, ⟨fun j hj => by omega, hO.2⟩, hX⟩
  · show upd md 0 0 0 = depth
    rw [upd_same, d0]
  · obtain ⟨b1, b2, b3, b4, b5, b6, b7, b8', b9⟩ := hI i hi
    obtain ⟨g1, g2, g3, g4, g5⟩ := h1 i hi
    rw [Nat.mul_one] at b1 b2 b3 b4 b5
    show rk (1500 * 0 + i) = kinds i ∧ rn (1500 * 0 + i) = numbers i ∧ (rs (1500 * 0 + i)).toInt = 5000 * (0 : Nat) + (starts i).toInt ∧ rl (1500 * 0 + i) = lengths i ∧ rw' (1500 * 0 + i) = depths i ∧ _
    rw [Nat.mul_zero, Nat.zero_add, g1, g2, g3, g4, g5, b1, b2, b4, b5]
    refine ⟨rfl, rfl, ?_, rfl, rfl, b6, b7, b8', b9⟩
    rw [zsub (by rw [z5000]; omega) (by rw [z5000]; omega), z5000]; omega
  · obtain ⟨b1, b2⟩ := hB k hk
    rw [Nat.mul_one] at b1
    show rp (5000 * 0 + k) = b_cells k ∧ _
    rw [Nat.mul_zero, Nat.zero_add, h2 k hk, b1, b2]; exact ⟨rfl, rfl⟩
end Ho
