/-! raw bytes seven bits at a time -/
section Seven
variable {kinds starts lengths depths b_cells openKinds : Nat → Int32} {numbers : Nat → Int64} {b_size b_tooLong size depth named : Int32} {mk ms ml mw mp mi mb mo mm md : Nat → Int32} {mn : Nat → Int64}
theorem sh8 {u b : Nat} (hu : u < 64) (hb : b < 256) : (nI u <<< ((8 : Int32) &&& 31)) ||| nI b = nI (256 * u + b) := by
  have key : ∀ u : Fin 64, (nI u.val <<< ((8 : Int32) &&& 31)) = nI (256 * u.val) := by decide
  have h1 := key ⟨u, hu⟩
  simp only at h1
  rw [h1]
  apply Int32.toBitVec_inj.mp
  rw [Int32.toBitVec_or]
  show BitVec.ofNat 32 (256 * u) ||| BitVec.ofNat 32 b = BitVec.ofNat 32 (256 * u + b)
  apply BitVec.eq_of_toNat_eq
  rw [BitVec.toNat_or, BitVec.toNat_ofNat, BitVec.toNat_ofNat, BitVec.toNat_ofNat, Nat.mod_eq_of_lt (by omega), Nat.mod_eq_of_lt (by omega), Nat.mod_eq_of_lt (by omega)]
  rw [show 256 * u = 2 ^ 8 * u by omega]
  exact (Nat.two_pow_add_eq_or_of_lt hb u).symm
/-- shifts of what is small, both ways -/
theorem ush {k j : Nat} (hk : k < 65536) (hj : j < 32) : ((nI k).toUInt32 >>> ((nI j).toUInt32 &&& Int32.toUInt32 31)).toInt32 = nI (k / 2 ^ j) := by
  have h := pk_ushrN (n := k) (by omega) (nI j) j (by
    have key : ∀ j : Fin 32, (((nI j.val).toUInt32 &&& Int32.toUInt32 31).toBitVec % 32).toNat = j.val := by decide
    exact key ⟨j, hj⟩)
  exact h
theorem ssh {k j : Nat} (hk : k < 65536) (hj : j < 32) : (nI k) >>> (nI j &&& 31) = nI (k / 2 ^ j) := by
  have key : ∀ j : Fin 32, ((nI j.val &&& 31).toBitVec.smod 32).toNat = j.val := by decide
  have h1 := key ⟨j, hj⟩
  simp only at h1
  rw [zeq]
  show ((nI k) >>> (nI j &&& 31)).toBitVec.toInt = _
  rw [Int32.toBitVec_shiftRight]
  show ((nI k).toBitVec.sshiftRight ((nI j &&& 31).toBitVec.smod 32).toNat).toInt = _
  rw [h1, BitVec.toInt_sshiftRight, Int.shiftRight_eq_div_pow]
  show (nI k).toInt / _ = _
  have hd : k / 2 ^ j ≤ k := Nat.div_le_self _ _
  rw [znI (by omega), znI (by omega)]
  exact (Int.natCast_ediv k (2 ^ j)).symm
theorem mskj {u j : Nat} (hu : u < 65536) (hj : j < 16) : nI u &&& (((1 : Int32) <<< (nI j &&& 31)) - 1) = nI (u % 2 ^ j) := by
  have key : ∀ j : Fin 16, (((1 : Int32) <<< (nI j.val &&& 31)) - 1).toBitVec.toNat = 2 ^ j.val - 1 := by decide
  exact pk_andN (by omega) j (key ⟨j, hj⟩)
theorem and127 {u : Nat} (hu : u < 65536) : nI u &&& 127 = nI (u % 128) := pk_andN (n := u) (by omega) 7 (by decide)
theorem sub7 {j : Nat} (h : 7 ≤ j) : nI j + (-7) = nI (j - 7) := by
  rw [show (-7 : Int32) = -(nI 7) by decide, ← Int32.sub_eq_add_neg]
  rw [show j = (j - 7) + 7 by omega, ← nI_add, Int32.add_sub_cancel, show j - 7 + 7 - 7 = j - 7 by omega]
theorem seven_loop (hR : DR 0 kinds starts lengths depths numbers b_cells b_size b_tooLong openKinds size depth named mk mn ms ml mw mp mi mb mo mm md) {i : Int32} (h0 : 0 ≤ i.toInt) (h1 : i.toInt < size.toInt) : ∀ (n fuel : Nat) (x : Int32) (u hb : Nat) (oc : Nat → Int32) (os ot : Int32) (dr : Nat → Int32) (ds : Int32), n < fuel → 0 ≤ x.toInt → x.toInt + n = (lengths i.toNatClampNeg).toInt → hb ≤ 6 → u < 2 ^ hb → OR oc os ot dr ds → ds.toInt + 2 * n + 1 < 2147483000 → SW (2 * n + 1) ds (bX5_pushBitsOf_7 fuel starts lengths b_cells b_size size oc os ot i (nI u) (nI hb) x) (bX7_putSeven_7 fuel dr ms ml mp ds i (nI hb) (nI u) x) := by
  obtain ⟨i1, i2, f1, f2, f3, f4, f5, f6, f7, f8, f9⟩ := item_facts hR h0 h1
  have a6 := hR.1.2.2.2.2.2.1
  have hlen : fX0_lengthOf lengths size i = some (lengths i.toNatClampNeg) := by rw [clength a6 h0 h1]; rfl
  intro n
  induction n with
  | zero =>
    intro fuel x u hb oc os ot dr ds hf hx hxn hhb hu h hd
    obtain ⟨f, rfl⟩ : ∃ f, fuel = f + 1 := ⟨fuel - 1, by omega⟩
    have hle : lengths i.toNatClampNeg ≤ x := by rw [zle]; omega
    rw [bX5_pushBitsOf_7, bX7_putSeven_7, hlen, Option.bind_some, if_pos hle, if_pos i2, f4, if_pos hle]
    by_cases g : hb = 0
    · subst g
      rw [if_pos (by decide), if_pos (by decide)]
      exact ⟨oc, os, ot, dr, ds, rfl, rfl, h, by omega, by omega⟩
    · rw [if_neg (nI_nle (by omega) (by omega)), if_neg (nI_nle (by omega) (by omega))]
      obtain ⟨oc', os', ot', dr', ds', p1, p2, p3, p4, p5⟩ := h.put (x := nI u) (y := nI u) (by omega) rfl
      refine ⟨oc', os', ot', dr', ds', ?_, ?_, p3, p4, by omega⟩
      · rw [p1]; rfl
      · rw [p2]; rfl
  | succ n ih =>
    intro fuel x u hb oc os ot dr ds hf hx hxn hhb hu h hd
    obtain ⟨f, rfl⟩ : ∃ f, fuel = f + 1 := ⟨fuel - 1, by omega⟩
    have e1 : (x + 1).toInt = x.toInt + 1 := by rw [zadd (by rw [z1]; omega) (by rw [z1]; omega), z1]
    obtain ⟨g1, g2, g3, g4⟩ := item_byte hR (x := x) h0 h1 hx (by omega)
    have hu64 : u < 64 := Nat.lt_of_lt_of_le hu (Nat.le_trans (Nat.pow_le_pow_right (by omega) hhb) (by decide))
    obtain ⟨b, hb256, eb⟩ := pk_andE (b_cells ((starts i.toNatClampNeg).toInt.toNat + x.toInt.toNat)) (m := 255) 8 (by decide)
    have hb256' : b < 256 := hb256
    have htb : fX0_textByte starts lengths b_cells b_size size i x = some (nI b) := by
      unfold fX0_textByte bX0_textByte_0
      rw [chas1 a6 h0 h1, Option.bind_some, if_neg (by decide), if_neg (by rw [zlt, z0]; omega), if_pos i1, if_neg (by rw [zle]; omega), if_pos i1, g1, Option.bind_some, eb]
    have hw : 256 * u + b < 16384 := by omega
    have hpow : 256 * u + b < 2 ^ (hb + 8) := by
      rw [Nat.pow_add]; omega
    have e7 : bX5_pushBitsOf_7 (f + 1) starts lengths b_cells b_size size oc os ot i (nI u) (nI hb) x = bX5_pushBitsOf_39 (fun z0 z1 z2 z3 z4 z5 z6 z7 z8 z9 z10 z11 => bX5_pushBitsOf_7 f z0 z1 z2 z3 z4 z5 z6 z7 z8 z9 z10 z11) FU starts lengths b_cells b_size size oc os ot i (nI (256 * u + b)) (nI (hb + 8)) x := by
      rw [bX5_pushBitsOf_7, hlen, Option.bind_some, if_neg (by rw [zle]; omega), htb, Option.bind_some, sh8 hu64 hb256', show nI hb + 8 = nI (hb + 8) from nI_add hb 8]
    have r7 : bX7_putSeven_7 (f + 1) dr ms ml mp ds i (nI hb) (nI u) x = bX7_putSeven_49 (fun z0 z1 z2 z3 z4 z5 z6 z7 z8 => bX7_putSeven_7 f z0 z1 z2 z3 z4 z5 z6 z7 z8) FU dr ms ml mp ds i (nI (hb + 8)) (nI (256 * u + b)) x := by
      have em : 256 * (nI u &&& 127) + nI b = nI (256 * u + b) := by
        rw [and127 (by omega), Nat.mod_eq_of_lt (by omega)]
        rw [zeq, zadd (by rw [zmul (by rw [znI (by omega), show (256 : Int32).toInt = 256 by decide]; omega) (by rw [znI (by omega), show (256 : Int32).toInt = 256 by decide]; omega), znI (by omega), znI (by omega), show (256 : Int32).toInt = 256 by decide]; omega) (by rw [zmul (by rw [znI (by omega), show (256 : Int32).toInt = 256 by decide]; omega) (by rw [znI (by omega), show (256 : Int32).toInt = 256 by decide]; omega), znI (by omega), znI (by omega), show (256 : Int32).toInt = 256 by decide]; omega), zmul (by rw [znI (by omega), show (256 : Int32).toInt = 256 by decide]; omega) (by rw [znI (by omega), show (256 : Int32).toInt = 256 by decide]; omega), znI (by omega), znI (by omega), znI (by omega), show (256 : Int32).toInt = 256 by decide]
        omega
      rw [bX7_putSeven_7, if_pos i2, f4, if_neg (by rw [zle]; omega), if_pos i2, if_pos g2, g3, eb, em, show nI hb + 8 = nI (hb + 8) from nI_add hb 8]
    rw [e7, r7, show FU = 999997 + 1 + 1 + 1 from rfl]
    have n7 : ∀ j : Nat, 7 ≤ j → j < 100 → ¬ nI j < 7 := fun j hj hj2 => nI_nlt (b := 7) hj (by omega)
    have l7 : ∀ j : Nat, j < 7 → nI j < 7 := fun j hj => nI_lt (b := 7) hj (by omega)
    rw [bX5_pushBitsOf_39, bX7_putSeven_49, if_neg (n7 _ (by omega) (by omega)), if_neg (n7 _ (by omega) (by omega)), sub7 (by omega), show hb + 8 - 7 = hb + 1 by omega, ush (by omega) (by omega), ssh (by omega) (by omega)]
    obtain ⟨oc', os', ot', dr', ds', p1, p2, p3, p4, p5⟩ := h.put (x := nI ((256 * u + b) / 2 ^ (hb + 1)) &&& 127) (y := nI ((256 * u + b) / 2 ^ (hb + 1)) &&& 127) (by omega) rfl
    rw [p1, p2, Option.bind_some, Option.bind_some]
    by_cases g : hb = 6
    · subst g
      rw [bX5_pushBitsOf_39, bX7_putSeven_49, if_neg (n7 _ (by omega) (by omega)), if_neg (n7 _ (by omega) (by omega)), sub7 (by omega), show 6 + 1 - 7 = 0 by omega, ush (by omega) (by omega), ssh (by omega) (by omega)]
      obtain ⟨oc2, os2, ot2, dr2, ds2, q1, q2, q3, q4, q5⟩ := p3.put (x := nI ((256 * u + b) / 2 ^ 0) &&& 127) (y := nI ((256 * u + b) / 2 ^ 0) &&& 127) (by omega) rfl
      rw [q1, q2, Option.bind_some, Option.bind_some]
      rw [bX5_pushBitsOf_39, bX7_putSeven_49, if_pos (l7 _ (by omega)), if_pos (l7 _ (by omega)), mskj (by omega) (by omega)]
      obtain ⟨oc3, os3, ot3, dr3, ds3, s1, s2, s3, s4, s5⟩ := ih f (x + 1) ((256 * u + b) % 2 ^ 0) 0 oc2 os2 ot2 dr2 ds2 (by omega) (by omega) (by omega) (by omega) (Nat.mod_lt _ (by decide)) q3 (by omega)
      exact ⟨oc3, os3, ot3, dr3, ds3, s1, s2, s3, by omega, by omega⟩
    · rw [bX5_pushBitsOf_39, bX7_putSeven_49, if_pos (l7 _ (by omega)), if_pos (l7 _ (by omega)), mskj (by omega) (by omega)]
      obtain ⟨oc3, os3, ot3, dr3, ds3, s1, s2, s3, s4, s5⟩ := ih f (x + 1) ((256 * u + b) % 2 ^ (hb + 1)) (hb + 1) oc' os' ot' dr' ds' (by omega) (by omega) (by omega) (by omega) (Nat.mod_lt _ (Nat.two_pow_pos _)) p3 (by omega)
      exact ⟨oc3, os3, ot3, dr3, ds3, s1, s2, s3, by omega, by omega⟩
theorem sim_seven (hR : DR 0 kinds starts lengths depths numbers b_cells b_size b_tooLong openKinds size depth named mk mn ms ml mw mp mi mb mo mm md) {i : Int32} (h0 : 0 ≤ i.toInt) (h1 : i.toInt < size.toInt) {oc : Nat → Int32} {os ot : Int32} {dr : Nat → Int32} {ds : Int32} (h : OR oc os ot dr ds) (hd : ds.toInt < 2147100000) : SW 10001 ds (fX5_pushBitsOf starts lengths b_cells b_size size oc os ot i) (fX7_putSeven dr ms ml mp ds i) := by
  obtain ⟨i1, i2, f1, f2, f3, f4, f5, f6, f7, f8, f9⟩ := item_facts hR h0 h1
  obtain ⟨oc2, os2, ot2, dr2, ds2, q1, q2, q3, q4, q5⟩ := seven_loop hR h0 h1 (lengths i.toNatClampNeg).toInt.toNat FU 0 0 0 oc os ot dr ds (by unfold FU; omega) (by decide) (by rw [z0]; omega) (by omega) (by decide) h (by omega)
  rw [nI_0] at q1 q2
  exact ⟨oc2, os2, ot2, dr2, ds2, q1, q2, q3, q4, by omega⟩
end Seven
