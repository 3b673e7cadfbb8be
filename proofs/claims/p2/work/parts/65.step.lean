/-! the items one after the other -/
section Step
variable {kinds starts lengths depths b_cells openKinds : Nat → Int32} {numbers : Nat → Int64} {b_size b_tooLong size depth named : Int32} {mk ms ml mw mp mi mb mo mm md : Nat → Int32} {mn : Nat → Int64} {ni nc nh ti tc th tb tz oc dr opened ends wr : Nat → Int32} {nz tz0 os ot ds ws f : Int32}
theorem rs_gen {i : Int32} (i2 : ix i 3000) (h : ¬ mi 0 ≤ i) (h5 : ¬ mk i.toNatClampNeg = 5) (h6 : ¬ mk i.toNatClampNeg = 6) (nn : Nat) : bX7_write_69 (nn + 1) wr dr mk mn ms ml mw mp mi md tb tz ends ws ds f i = bX7_write_124 (fun z0 z1 z2 z3 z4 z5 z6 z7 z8 z9 z10 z11 z12 z13 z14 z15 z16 => bX7_write_69 nn z0 z1 z2 z3 z4 z5 z6 z7 z8 z9 z10 z11 z12 z13 z14 z15 z16) wr dr mk mn ms ml mw mp mi md tb tz ends ws ds f i := by
  have c0 : Int32.toNatClampNeg 0 = 0 := by decide
  rw [bX7_write_69, if_pos i02, c0, if_neg h, if_pos i2, if_neg h5, if_pos i2, if_neg h6]
theorem rs_other {i : Int32} (i2 : ix i 3000) (h : ¬ mi 0 ≤ i) (h5 : ¬ mk i.toNatClampNeg = 5) (h6 : ¬ mk i.toNatClampNeg = 6) (h11 : ¬ mk i.toNatClampNeg = 11) (nn : Nat) {dr' tb' tz' : Nat → Int32} {ds' : Int32} (hp : fX7_putItem dr mk mn ms ml mp tb tz ds i f 0 = some (dr', tb', tz', ds')) : bX7_write_69 (nn + 1) wr dr mk mn ms ml mw mp mi md tb tz ends ws ds f i = bX7_write_69 nn wr dr' mk mn ms ml mw mp mi md tb' tz' ends ws ds' f (i + 1) := by
  rw [rs_gen i2 h h5 h6]
  unfold bX7_write_124 bX7_write_153 bX7_write_154
  rw [if_pos i2, if_neg h11, hp]; rfl
theorem rs_end {i : Int32} (i2 : ix i 3000) (h : ¬ mi 0 ≤ i) (h11 : mk i.toNatClampNeg = 11) (hw : ix (mw i.toNatClampNeg) 31) (nn : Nat) {dr' tb' tz' : Nat → Int32} {ds' : Int32} (hp : fX7_putItem dr mk mn ms ml mp tb tz ds i f (if ends (mw i.toNatClampNeg).toNatClampNeg = 0 then 0 else 1) = some (dr', tb', tz', ds')) : bX7_write_69 (nn + 1) wr dr mk mn ms ml mw mp mi md tb tz ends ws ds f i = bX7_write_69 nn wr dr' mk mn ms ml mw mp mi md tb' tz' ends ws ds' f (i + 1) := by
  rw [rs_gen i2 h (by rw [h11]; decide) (by rw [h11]; decide)]
  unfold bX7_write_124 bX7_write_153 bX7_write_154
  rw [if_pos i2, if_pos h11, if_pos i2, if_pos hw]
  by_cases g : ends (mw i.toNatClampNeg).toNatClampNeg = 0
  · rw [if_pos g] at hp
    rw [if_pos g, hp]; rfl
  · rw [if_neg g] at hp
    rw [if_neg g, hp]; rfl
theorem rs_open {i : Int32} (i2 : ix i 3000) (h : ¬ mi 0 ≤ i) (h5 : mk i.toNatClampNeg = 5 ∨ mk i.toNatClampNeg = 6) (hw : ix (mw i.toNatClampNeg) 31) (nn : Nat) {dr' tb' tz' : Nat → Int32} {ds' : Int32} (hp : fX7_putItem dr mk mn ms ml mp tb tz ds i f 0 = some (dr', tb', tz', ds')) : bX7_write_69 (nn + 1) wr dr mk mn ms ml mw mp mi md tb tz ends ws ds f i = bX7_write_69 nn wr dr' mk mn ms ml mw mp mi md tb' tz' (upd ends (mw i.toNatClampNeg).toNatClampNeg (if mk i.toNatClampNeg = 6 then 1 else 0)) ws ds' f (i + 1) := by
  have c0 : Int32.toNatClampNeg 0 = 0 := by decide
  have n1 : vp_nar .boolean 1 = 1 := by decide
  have n0 : vp_nar .boolean 0 = 0 := by decide
  have h11 : ¬ mk i.toNatClampNeg = 11 := by rcases h5 with h | h <;> (rw [h]; decide)
  rw [bX7_write_69, if_pos i02, c0, if_neg h, if_pos i2]
  rcases h5 with g | g
  · rw [if_pos g]
    unfold bX7_write_100 bX7_write_123 bX7_write_124 bX7_write_153 bX7_write_154
    rw [if_pos i2, if_pos i2, if_neg (by rw [g]; decide), if_pos hw, if_pos i2, if_neg h11, hp, if_neg (show ¬ mk i.toNatClampNeg = 6 by rw [g]; decide), n0]; rfl
  · rw [if_neg (by rw [g]; decide), if_pos i2, if_pos g]
    unfold bX7_write_100 bX7_write_123 bX7_write_124 bX7_write_153 bX7_write_154
    rw [if_pos i2, if_pos i2, if_pos g, if_pos hw, if_pos i2, if_neg h11, hp, if_pos g, n1]; rfl
theorem EO.skip {i : Nat} (h : EO kinds depths i opened ends) (hk : ¬ (kinds i = 5 ∨ kinds i = 6)) : EO kinds depths (i + 1) opened ends := by
  intro e he ⟨j, j1, j2, j3⟩
  refine h e he ⟨j, ?_, j2, j3⟩
  rcases Nat.lt_or_ge j i with g | g
  · exact g
  · have e2 : j = i := by omega
    rw [e2] at j2
    exact absurd j2 hk
theorem EO.opens {i : Nat} (h : EO kinds depths i opened ends) (hk : kinds i = 5 ∨ kinds i = 6) (hd : 0 ≤ (depths i).toInt) : EO kinds depths (i + 1) (if (depths i).toInt < 30 then upd opened (depths i).toInt.toNat (kinds i) else opened) (upd ends (depths i).toInt.toNat (if kinds i = 6 then 1 else 0)) := by
  intro e he ⟨j, j1, j2, j3⟩
  by_cases g : (depths i).toInt = e
  · rw [if_pos (by omega), show (depths i).toInt.toNat = e by omega, upd_same, upd_same]
    rcases hk with k | k
    · rw [k]; decide
    · rw [k]; decide
  · rw [upd_ne (by omega)]
    have hj : j < i := by
      rcases Nat.lt_or_ge j i with g2 | g2
      · exact g2
      · have e2 : j = i := by omega
        rw [e2] at j3
        exact absurd j3 g
    have := h e he ⟨j, hj, j2, j3⟩
    by_cases g3 : (depths i).toInt < 30
    · rw [if_pos g3, upd_ne (by omega)]; exact this
    · rw [if_neg g3]; exact this
end Step
