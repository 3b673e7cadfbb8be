/-! bytes told seven bits at a time: the loops -/
section RBt
variable {kinds starts lengths depths b_cells openKinds : Nat → Int32} {numbers : Nat → Int64} {b_size b_tooLong size depth named : Int32} {mk ms ml mw mp mi mb mo mm md : Nat → Int32} {mn : Nat → Int64} {ni nc nh ti tc th tb tz lc lm : Nat → Int32} {nz tz0 ls fa pl first kd st le to ov fl at_ : Int32} {nu : Int64} {gt : Int32} {mp1 : Nat → Int32}
theorem ishlor {u h b : Nat} (hu : u < 128) (hh : h ≤ 7) (hb : b < 2 ^ h) : (nI u <<< (nI h &&& 31)) ||| nI b = nI (u * 2 ^ h + b) := by
  have key : ∀ j : Fin 32, ((nI j.val &&& 31).toBitVec.smod 32).toNat = j.val := by decide
  have h1 := key ⟨h, by omega⟩
  simp only at h1
  have p1 : 2 ^ h ≤ 2 ^ 7 := Nat.pow_le_pow_right (by omega) hh
  have p2 : u * 2 ^ h ≤ 127 * 128 := Nat.mul_le_mul (by omega) (by omega)
  apply Int32.toBitVec_inj.mp
  rw [Int32.toBitVec_or, Int32.toBitVec_shiftLeft]
  apply BitVec.eq_of_toNat_eq
  rw [BitVec.toNat_or]
  have e1 : ((nI u).toBitVec <<< ((nI h &&& 31).toBitVec.smod 32)).toNat = 2 ^ h * u := by
    show ((nI u).toBitVec <<< ((nI h &&& 31).toBitVec.smod 32).toNat).toNat = _
    rw [h1, BitVec.toNat_shiftLeft, Nat.shiftLeft_eq]
    show (BitVec.ofNat 32 u).toNat * 2 ^ h % 2 ^ 32 = _
    rw [BitVec.toNat_ofNat, Nat.mod_eq_of_lt (show u < 2 ^ 32 by omega), Nat.mod_eq_of_lt (by omega), Nat.mul_comm]
  have e2 : (nI b).toBitVec.toNat = b := by
    show (BitVec.ofNat 32 b).toNat = b
    rw [BitVec.toNat_ofNat, Nat.mod_eq_of_lt (by omega)]
  have e3 : (nI (u * 2 ^ h + b)).toBitVec.toNat = u * 2 ^ h + b := by
    show (BitVec.ofNat 32 (u * 2 ^ h + b)).toNat = _
    rw [BitVec.toNat_ofNat, Nat.mod_eq_of_lt (by omega)]
  rw [e1, e2, e3, ← Nat.two_pow_add_eq_or_of_lt hb, Nat.mul_comm]
theorem sub8 {j : Nat} (h : 8 ≤ j) : nI j + (-8) = nI (j - 8) := by
  rw [show (-8 : Int32) = -(nI 8) by decide, ← Int32.sub_eq_add_neg]
  rw [show j = (j - 8) + 8 by omega, ← nI_add, Int32.add_sub_cancel, show j - 8 + 8 - 8 = j - 8 by omega]
theorem and255 {u : Nat} (hu : u < 65536) : nI u &&& 255 = nI (u % 256) := pk_andN (n := u) (by omega) 8 (by decide)
theorem lt8 {j : Nat} (hj : j < 100) : (nI j < 8) ↔ j < 8 := by
  rw [zlt, znI (by omega), show (8 : Int32).toInt = 8 by decide]; omega
/-- a byte more in the reference's run: what becomes of the state -/
def nxU (u h b hb : Nat) : Nat := if hb + h < 8 then u * 2 ^ h + b else (u * 2 ^ h + b) % 2 ^ (hb + h - 8)
def nxH (h hb : Nat) : Nat := if hb + h < 8 then hb + h else hb + h - 8
theorem ulim {u h b hb : Nat} (hu : u < 2 ^ hb) (hhb : hb ≤ 7) (hh : h ≤ 7) (hb' : b < 2 ^ h) : u < 128 ∧ u * 2 ^ h + b < 2 ^ (hb + h) ∧ u * 2 ^ h + b < 16384 := by
  have p1 : 2 ^ hb ≤ 2 ^ 7 := Nat.pow_le_pow_right (by omega) hhb
  have p2 : u * 2 ^ h + b < 2 ^ (hb + h) := by
    rw [Nat.pow_add]
    calc u * 2 ^ h + b < u * 2 ^ h + 2 ^ h := by omega
      _ = (u + 1) * 2 ^ h := by rw [Nat.add_mul, Nat.one_mul]
      _ ≤ 2 ^ hb * 2 ^ h := Nat.mul_le_mul_right _ hu
  have p3 : 2 ^ (hb + h) ≤ 2 ^ 14 := Nat.pow_le_pow_right (by omega) (by omega)
  exact ⟨by omega, p2, by omega⟩
theorem nx_ok {u h b hb : Nat} (hu : u < 2 ^ hb) (hhb : hb ≤ 7) (hh : h ≤ 7) (hb' : b < 2 ^ h) : nxU u h b hb < 2 ^ nxH h hb ∧ nxH h hb ≤ 7 := by
  unfold nxU nxH
  obtain ⟨l1, l2, l3⟩ := ulim hu hhb hh hb'
  by_cases g : hb + h < 8
  · rw [if_pos g, if_pos g]; exact ⟨l2, by omega⟩
  · rw [if_neg g, if_neg g]; exact ⟨Nat.mod_lt _ (Nat.two_pow_pos _), by omega⟩
/-- the reference: 99 -/
theorem ts99 {K : (Nat → Int32) → (Nat → Int32) → Int32 → Int32 → Int32 → Int32 → Int32 → Int32 → Int64 → Int32 → Int32 → Option ((Nat → Int32) × (Int32) × (Int32) × (Int32) × (Int32))} {f2 : Int32} {x3 : Int64} {u h b hb : Nat} (hu : u < 2 ^ hb) (hhb : hb ≤ 7) (hh : h ≤ 7) (hb' : b < 2 ^ h) (h0 : 0 ≤ gt.toInt) (h1 : gt.toInt < 6000) : bX7_takeSeven_99 K lm mp1 ls at_ f2 pl first gt x3 (nI hb) (nI u) (nI b) (nI h) = K lm (if hb + h < 8 then mp1 else upd mp1 (10000 + gt.toInt.toNat) (b8 (b8 (nI ((u * 2 ^ h + b) / 2 ^ (hb + h - 8) % 256))))) ls at_ f2 pl first (if hb + h < 8 then gt else gt + 1) (x3 - (Int32.toInt64 (nI h))) (nI (nxH h hb)) (nI (nxU u h b hb)) := by
  obtain ⟨l1, l2, l3⟩ := ulim hu hhb hh hb'
  unfold bX7_takeSeven_99 bX7_takeSeven_156 nxU nxH
  rw [nI_add, ishlor l1 hh hb']
  by_cases g : hb + h < 8
  · rw [if_pos ((lt8 (by omega)).mpr g), if_pos g, if_pos g, if_pos g, if_pos g]
  · have hd : (u * 2 ^ h + b) / 2 ^ (hb + h - 8) ≤ u * 2 ^ h + b := Nat.div_le_self _ _
    rw [if_neg (fun e => g ((lt8 (by omega)).mp e)), if_neg g, if_neg g, if_neg g, if_neg g, sub8 (by omega), ssh (by omega) (by omega), and255 (by omega), rtake h0 h1, Option.bind_some, mskj (by omega) (by omega)]
theorem ts_fault {f : Nat} {f2 : Int32} {x3 : Int64} {x5 x6 : Int32} (hf : f2 ≠ 0) : bX7_takeSeven_12 (f + 1) lm mp1 ls at_ f2 pl first gt x3 x5 x6 = some (mp1, at_, f2, pl, gt) := by
  rw [bX7_takeSeven_12]
  by_cases g : lg_cmp x3 0 ≤ 0
  · rw [if_pos g]
  · rw [if_neg g, if_neg hf]
theorem ts_bad {f : Nat} {x3 : Int64} {u hb : Nat} (hx : 0 < x3.toInt) (h2 : ls.toInt ≤ 6000) (ha0 : 0 ≤ at_.toInt) (hbad : at_ = ls ∨ (at_.toInt < ls.toInt ∧ ¬ (lm at_.toInt.toNat &&& 255).toInt < 128)) : ∃ at' f2 pl', bX7_takeSeven_12 (f + 1 + 1) lm mp1 ls at_ 0 pl first gt x3 (nI hb) (nI u) = some (mp1, at', f2, pl', gt) ∧ 0 < f2.toInt := by
  have z128 : (128 : Int32).toInt = 128 := by decide
  have e0 : (0 : Int64).toInt = 0 := by decide
  have hle : ¬ lg_cmp x3 0 ≤ 0 := by rw [lg_cmp_le, Int64.le_iff_toInt_le, e0]; omega
  rw [bX7_takeSeven_12, if_neg hle, if_pos rfl]
  rcases hbad with he | ⟨ha, hbn⟩
  · rw [rnext_end he, Option.bind_some]
    dsimp only
    have g46 : ∀ s0, bX7_takeSeven_46 (fun z0 z1 z2 z3 z4 z5 z6 z7 z8 z9 z10 => bX7_takeSeven_12 (f + 1) z0 z1 z2 z3 z4 z5 z6 z7 z8 z9 z10) lm mp1 ls at_ 2 at_ first gt x3 (nI hb) (nI u) (-1) s0 = some (mp1, at_, 2, at_, gt) := by
      intro s0
      unfold bX7_takeSeven_46 bX7_takeSeven_74 bX7_takeSeven_156
      rw [if_neg (by decide), if_neg (by decide)]
      exact ts_fault (by decide)
    rw [g46, g46]
    refine ⟨at_, 2, at_, ?_, by decide⟩
    split <;> rfl
  · rw [rnext_ok ha0 ha h2, Option.bind_some]
    dsimp only
    have hlt : ¬ (lm at_.toInt.toNat &&& 255 < 128) := by rw [zlt, z128]; exact hbn
    have hfail : fX7_fail 0 pl 3 (at_ + 1 - 1) = some (3, at_ + 1 - 1) := rfl
    have g46 : ∀ s0, bX7_takeSeven_46 (fun z0 z1 z2 z3 z4 z5 z6 z7 z8 z9 z10 => bX7_takeSeven_12 (f + 1) z0 z1 z2 z3 z4 z5 z6 z7 z8 z9 z10) lm mp1 ls (at_ + 1) 0 pl first gt x3 (nI hb) (nI u) (lm at_.toInt.toNat &&& 255) s0 = some (mp1, at_ + 1, 3, at_ + 1 - 1, gt) := by
      intro s0
      unfold bX7_takeSeven_46 bX7_takeSeven_74 bX7_takeSeven_156
      rw [if_pos rfl, if_neg hlt, hfail, Option.bind_some]
      dsimp only
      rw [if_neg (by decide)]
      exact ts_fault (by decide)
    rw [g46, g46]
    refine ⟨at_ + 1, 3, at_ + 1 - 1, ?_, by decide⟩
    split <;> rfl
/-- a byte that may stand there: how many bits of it count -/
def hre (n : Nat) : Nat := if 7 ≤ n then 7 else n
theorem ts_step {f : Nat} {x3 : Int64} {u hb b n : Nat} (hn : 0 < n) (hx : x3.toInt = n) (h2 : ls.toInt ≤ 6000) (ha0 : 0 ≤ at_.toInt) (ha : at_.toInt < ls.toInt) (eb : lm at_.toInt.toNat &&& 255 = nI b) (hb128 : b < 128) (hu : u < 2 ^ hb) (hhb : hb ≤ 7) (h0 : 0 ≤ gt.toInt) (h1 : gt.toInt < 6000) : (b < 2 ^ hre n → bX7_takeSeven_12 (f + 1 + 1) lm mp1 ls at_ 0 pl first gt x3 (nI hb) (nI u) = bX7_takeSeven_12 (f + 1) lm (if hb + hre n < 8 then mp1 else upd mp1 (10000 + gt.toInt.toNat) (b8 (b8 (nI ((u * 2 ^ hre n + b) / 2 ^ (hb + hre n - 8) % 256))))) ls (at_ + 1) 0 pl first (if hb + hre n < 8 then gt else gt + 1) (x3 - (Int32.toInt64 (nI (hre n)))) (nI (nxH (hre n) hb)) (nI (nxU u (hre n) b hb))) ∧ (¬ b < 2 ^ hre n → ∃ mp' at' f2 pl' gt', bX7_takeSeven_12 (f + 1 + 1) lm mp1 ls at_ 0 pl first gt x3 (nI hb) (nI u) = some (mp', at', f2, pl', gt') ∧ 0 < f2.toInt ∧ ∀ k : Nat, k < 10000 → mp' k = mp1 k) := by
  have e0 : (0 : Int64).toInt = 0 := by decide
  have e7 : (7 : Int64).toInt = 7 := by decide
  have z128 : (128 : Int32).toInt = 128 := by decide
  have hle : ¬ lg_cmp x3 0 ≤ 0 := by rw [lg_cmp_le, Int64.le_iff_toInt_le, e0]; omega
  have hh7 : hre n ≤ 7 := by unfold hre; split <;> omega
  have hsel : bX7_takeSeven_12 (f + 1 + 1) lm mp1 ls at_ 0 pl first gt x3 (nI hb) (nI u) = bX7_takeSeven_46 (fun z0 z1 z2 z3 z4 z5 z6 z7 z8 z9 z10 => bX7_takeSeven_12 (f + 1) z0 z1 z2 z3 z4 z5 z6 z7 z8 z9 z10) lm mp1 ls (at_ + 1) 0 pl first gt x3 (nI hb) (nI u) (nI b) (nI (hre n)) := by
    rw [bX7_takeSeven_12, if_neg hle, if_pos rfl, rnext_ok ha0 ha h2, Option.bind_some, eb]
    dsimp only
    unfold hre
    by_cases g : 7 ≤ n
    · rw [if_pos (by rw [lg_cmp_ge, Int64.le_iff_toInt_le, e7]; omega), if_pos g]; rfl
    · rw [if_neg (by rw [lg_cmp_ge, Int64.le_iff_toInt_le, e7]; omega), if_neg g]
      congr 1
      rw [zeq, Int64.toInt_toInt32, hx, znI (by omega), bm32 (by omega) (by omega)]
  have hlt : nI b < 128 := by rw [zlt, z128, znI (by omega)]; omega
  have h74 : bX7_takeSeven_46 (fun z0 z1 z2 z3 z4 z5 z6 z7 z8 z9 z10 => bX7_takeSeven_12 (f + 1) z0 z1 z2 z3 z4 z5 z6 z7 z8 z9 z10) lm mp1 ls (at_ + 1) 0 pl first gt x3 (nI hb) (nI u) (nI b) (nI (hre n)) = if b / 2 ^ hre n = 0 then bX7_takeSeven_99 (fun z0 z1 z2 z3 z4 z5 z6 z7 z8 z9 z10 => bX7_takeSeven_12 (f + 1) z0 z1 z2 z3 z4 z5 z6 z7 z8 z9 z10) lm mp1 ls (at_ + 1) 0 pl first gt x3 (nI hb) (nI u) (nI b) (nI (hre n)) else bX7_takeSeven_99 (fun z0 z1 z2 z3 z4 z5 z6 z7 z8 z9 z10 => bX7_takeSeven_12 (f + 1) z0 z1 z2 z3 z4 z5 z6 z7 z8 z9 z10) lm mp1 ls (at_ + 1) 6 first first gt x3 (nI hb) (nI u) (nI b) (nI (hre n)) := by
    unfold bX7_takeSeven_46 bX7_takeSeven_74
    have hfail : fX7_fail 0 pl 6 first = some (6, first) := rfl
    have hd : b / 2 ^ hre n ≤ b := Nat.div_le_self _ _
    rw [if_pos rfl, if_pos hlt, if_pos rfl, ssh (by omega) (by omega), hfail, Option.bind_some]
    by_cases g : b / 2 ^ hre n = 0
    · rw [if_pos g, if_pos (by rw [g]; decide)]
    · rw [if_neg g, if_neg (by rw [zeq, z0, znI (by omega)]; omega)]
  rw [hsel, h74]
  constructor
  · intro hb2
    rw [if_pos (Nat.div_eq_of_lt hb2), ts99 hu hhb hh7 hb2 h0 h1]
  · intro hb2
    have hne : ¬ b / 2 ^ hre n = 0 := fun h => by
      rcases Nat.div_eq_zero_iff.mp h with h | h
      · exact absurd h (Nat.ne_of_gt (Nat.two_pow_pos _))
      · exact hb2 h
    rw [if_neg hne]
    unfold bX7_takeSeven_99 bX7_takeSeven_156
    rw [rtake h0 h1, Option.bind_some]
    dsimp only
    rw [ts_fault (by decide), ts_fault (by decide)]
    split
    · exact ⟨_, _, _, _, _, rfl, by decide, fun _ _ => rfl⟩
    · exact ⟨_, _, _, _, _, rfl, by decide, fun k hk => upd_ne (by omega)⟩
end RBt
