/-! numbers as they are written -/
theorem lnat (x : Int64) : x.toInt = if 2 * x.toBitVec.toNat < 2 ^ 64 then (x.toBitVec.toNat : Int) else x.toBitVec.toNat - 2 ^ 64 := BitVec.toInt_eq_toNat_cond x.toBitVec
theorem lmask (x : Int64) {m : Int64} (k : Nat) (hk : k ≤ 62) (hm : m.toBitVec.toNat = 2 ^ k - 1) : (x &&& m).toInt = (x.toBitVec.toNat % 2 ^ k : Nat) := by
  have h : (x &&& m).toBitVec.toNat = x.toBitVec.toNat % 2 ^ k := by
    rw [Int64.toBitVec_and, BitVec.toNat_and, hm, Nat.and_two_pow_sub_one_eq_mod]
  have h1 : x.toBitVec.toNat % 2 ^ k < 2 ^ k := Nat.mod_lt _ (Nat.two_pow_pos k)
  have h2 : 2 ^ k ≤ 2 ^ 62 := Nat.pow_le_pow_right (by omega) hk
  rw [lnat, h, if_pos (by omega)]
theorem l32 (x : Int64) : (Int64.toInt32 x).toInt % 128 = x.toInt % 128 ∧ (Int64.toInt32 x).toInt % 64 = x.toInt % 64 := by
  rw [Int64.toInt_toInt32]
  simp only [Int.bmod_def]
  constructor <;> split <;> omega
theorem l127 (a : Int64) : (Int64.toInt32 a) &&& 127 = Int64.toInt32 (a &&& 127) := by
  have h := lmask a (m := 127) 7 (by decide) (by decide)
  rw [zeq, zand127, (l32 a).1, Int64.toInt_toInt32, h, lnat a, bm32 (by omega) (by omega)]
  split <;> omega
theorem l63 (a : Int64) : (Int64.toInt32 a) &&& 63 = Int64.toInt32 (a &&& 63) := by
  have h := lmask a (m := 63) 6 (by decide) (by decide)
  rw [zeq, zand63, (l32 a).2, Int64.toInt_toInt32, h, lnat a, bm32 (by omega) (by omega)]
  split <;> omega
theorem or128 : ∀ k : Nat, k < 64 → (128 : Int32) ||| nI k = 128 + nI k := by decide
theorem or128' (w : Int32) : (128 : Int32) ||| (w &&& 63) = 128 + (w &&& 63) := by
  obtain ⟨j, hj, e⟩ := pk_andE w (m := 63) 6 (by decide)
  rw [e]; exact or128 j hj
theorem lushr_nat (x : Int64) (c : UInt64) (k : Nat) (hc : c.toNat = k) (hk : k < 64) : ((Int64.toUInt64 x >>> c).toInt64).toBitVec.toNat = x.toBitVec.toNat / 2 ^ k := by
  show (Int64.toUInt64 x >>> c).toNat = _
  rw [UInt64.toNat_shiftRight, hc, Nat.mod_eq_of_lt hk, Nat.shiftRight_eq_div_pow]; rfl
theorem lzero {x : Int64} : x = 0 ↔ x.toBitVec.toNat = 0 := by
  constructor
  · intro h; rw [h]; rfl
  · intro h
    apply Int64.toInt_inj.mp
    rw [lnat, h]; rfl
section Count
theorem count8 (v : Int64) (oc : Nat → Int32) (os ot : Int32) (dr : Nat → Int32) (ds : Int32) : ∀ (m fuel : Nat) (x3 : Int32) (x4 : Int64), m < fuel → x4.toBitVec.toNat < 2 ^ (7 * m) → 0 ≤ x3.toInt → x3.toInt + m ≤ 9 → ∃ y : Nat, y ≤ 9 ∧ bX5_encodeCount_8 fuel oc os ot v x3 x4 = bX5_encodeCount_34 oc os ot v (nI y) ∧ bX7_putCount_8 fuel dr ds v (x3 + 1) x4 = bX7_putCount_33 FU dr ds v (nI y - 1) := by
  have stop : ∀ (f : Nat) (x3 : Int32), 0 ≤ x3.toInt → x3.toInt ≤ 9 → ∃ y : Nat, y ≤ 9 ∧ bX5_encodeCount_8 (f + 1) oc os ot v x3 0 = bX5_encodeCount_34 oc os ot v (nI y) ∧ bX7_putCount_8 (f + 1) dr ds v (x3 + 1) 0 = bX7_putCount_33 FU dr ds v (nI y - 1) := by
    intro f x3 h0 h9
    have e : x3 = nI x3.toInt.toNat := zNeg (by omega)
    refine ⟨x3.toInt.toNat, by omega, ?_, ?_⟩
    · rw [bX5_encodeCount_8, if_pos ((lg_cmp_eq _ _).mpr rfl), ← e]
    · rw [bX7_putCount_8, if_pos ((lg_cmp_eq _ _).mpr rfl), ← e]
      congr 1
      rw [zeq, zsub (by rw [zadd (by rw [z1]; omega) (by rw [z1]; omega), z1, z2]; omega) (by rw [zadd (by rw [z1]; omega) (by rw [z1]; omega), z1, z2]; omega), zadd (by rw [z1]; omega) (by rw [z1]; omega), z1, z2, zsub (by rw [z1]; omega) (by rw [z1]; omega), z1]
      omega
  intro m
  induction m with
  | zero =>
    intro fuel x3 x4 hf hx h0 h9
    obtain ⟨f, rfl⟩ : ∃ f, fuel = f + 1 := ⟨fuel - 1, by omega⟩
    have hz : x4 = 0 := lzero.mpr (by omega)
    subst hz
    exact stop f x3 h0 (by omega)
  | succ m ih =>
    intro fuel x3 x4 hf hx h0 h9
    obtain ⟨f, rfl⟩ : ∃ f, fuel = f + 1 := ⟨fuel - 1, by omega⟩
    by_cases hz : x4 = 0
    · subst hz
      exact stop f x3 h0 (by omega)
    · have hne : ¬ (lg_cmp x4 0 = 0) := fun h => hz ((lg_cmp_eq _ _).mp h)
      have e1 : (x3 + 1).toInt = x3.toInt + 1 := by rw [zadd (by rw [z1]; omega) (by rw [z1]; omega), z1]
      have hn := lushr_nat x4 ((Int32.toInt64 7).toUInt64 &&& Int64.toUInt64 63) 7 (by decide) (by omega)
      have hlt : x4.toBitVec.toNat / 2 ^ 7 < 2 ^ (7 * m) := by
        rw [Nat.div_lt_iff_lt_mul (by decide), ← Nat.pow_add]
        rw [show 7 * m + 7 = 7 * (m + 1) by omega]; exact hx
      obtain ⟨y, y1, y2, y3⟩ := ih f (x3 + 1) _ (by omega) (by rw [hn]; exact hlt) (by omega) (by omega)
      refine ⟨y, y1, ?_, ?_⟩
      · rw [bX5_encodeCount_8, if_neg hne, if_neg (by rw [zle, show (9 : Int32).toInt = 9 by decide]; omega)]
        exact y2
      · rw [bX7_putCount_8, if_neg hne]
        exact y3
theorem count39 (v : Int64) : ∀ (k fuel : Nat) (oc : Nat → Int32) (os ot : Int32) (dr : Nat → Int32) (ds : Int32), k < fuel → k ≤ 9 → OR oc os ot dr ds → ds.toInt + k + 1 < 2147483000 → SW (k + 1) ds (bX5_encodeCount_39 fuel oc os ot v (nI k - 1)) (bX7_putCount_33 fuel dr ds v (nI k - 1)) := by
  intro k
  induction k with
  | zero =>
    intro fuel oc os ot dr ds hf _ h hd
    obtain ⟨f, rfl⟩ : ∃ f, fuel = f + 1 := ⟨fuel - 1, by omega⟩
    obtain ⟨oc', os', ot', dr', ds', p1, p2, p3, p4, p5⟩ := h.put (x := 128 ||| ((Int64.toInt32 v) &&& 63)) (y := 128 + (Int64.toInt32 (v &&& 63))) (by omega) (by rw [or128', l63])
    refine ⟨oc', os', ot', dr', ds', ?_, ?_, p3, p4, by omega⟩
    · rw [bX5_encodeCount_39, if_pos (by decide), p1]; rfl
    · rw [bX7_putCount_33, if_pos (by decide), p2]; rfl
  | succ k ih =>
    intro fuel oc os ot dr ds hf h9 h hd
    obtain ⟨f, rfl⟩ : ∃ f, fuel = f + 1 := ⟨fuel - 1, by omega⟩
    rw [nI_pred]
    obtain ⟨oc', os', ot', dr', ds', p1, p2, p3, p4, p5⟩ := h.put (x := (Int64.toInt32 ((Int64.toUInt64 v >>> ((Int32.toInt64 (6 + (7 * nI k))).toUInt64 &&& Int64.toUInt64 63)).toInt64)) &&& 127) (y := Int64.toInt32 (((Int64.toUInt64 v >>> ((Int32.toInt64 (6 + (7 * nI k))).toUInt64 &&& Int64.toUInt64 63)).toInt64) &&& 127)) (by omega) (by rw [l127])
    obtain ⟨oc2, os2, ot2, dr2, ds2, q1, q2, q3, q4, q5⟩ := ih f oc' os' ot' dr' ds' (by omega) (by omega) p3 (by omega)
    refine ⟨oc2, os2, ot2, dr2, ds2, ?_, ?_, q3, by omega, by omega⟩
    · rw [bX5_encodeCount_39, if_neg (nI_pos (by omega)), p1, Option.bind_some, zpm]; exact q1
    · rw [bX7_putCount_33, if_neg (nI_pos (by omega)), p2, Option.bind_some, zpm]; exact q2
theorem sim_cnt {oc : Nat → Int32} {os ot : Int32} {dr : Nat → Int32} {ds : Int32} (v : Int64) (h : OR oc os ot dr ds) (hd : ds.toInt < 2147100000) : SW 10 ds (fX5_encodeCount oc os ot v) (fX7_putCount dr ds v) := by
  unfold fX5_encodeCount bX5_encodeCount_0 fX7_putCount bX7_putCount_0
  have hn := lushr_nat v ((Int32.toInt64 6).toUInt64 &&& Int64.toUInt64 63) 6 (by decide) (by omega)
  have hb := v.toBitVec.isLt
  obtain ⟨y, y1, y2, y3⟩ := count8 v oc os ot dr ds 9 FU 0 _ (by unfold FU; omega) (by rw [hn]; omega) (by decide) (by rw [z0]; omega)
  rw [show (0 : Int32) + 1 = 1 by decide] at y3
  obtain ⟨oc2, os2, ot2, dr2, ds2, q1, q2, q3, q4, q5⟩ := count39 v y FU oc os ot dr ds (by unfold FU; omega) y1 h (by omega)
  refine ⟨oc2, os2, ot2, dr2, ds2, ?_, ?_, q3, q4, by omega⟩
  · rw [y2]; exact q1
  · rw [y3]; exact q2
theorem real_loop (v : Int64) : ∀ (k fuel : Nat) (oc : Nat → Int32) (os ot : Int32) (dr : Nat → Int32) (ds : Int32), k < fuel → k ≤ 10 → OR oc os ot dr ds → ds.toInt + k < 2147483000 → SW k ds (bX5_encodeReal_14 fuel oc os ot v (nI k - 1)) (bX7_putReal_5 fuel dr ds v (nI k - 1)) := by
  intro k
  induction k with
  | zero =>
    intro fuel oc os ot dr ds hf _ h hd
    obtain ⟨f, rfl⟩ : ∃ f, fuel = f + 1 := ⟨fuel - 1, by omega⟩
    refine ⟨oc, os, ot, dr, ds, ?_, ?_, h, by omega, by omega⟩
    · rw [bX5_encodeReal_14, if_pos (by decide)]
    · rw [bX7_putReal_5, if_pos (by decide)]
  | succ k ih =>
    intro fuel oc os ot dr ds hf h9 h hd
    obtain ⟨f, rfl⟩ : ∃ f, fuel = f + 1 := ⟨fuel - 1, by omega⟩
    rw [nI_pred]
    have e7 : (7 * nI k).toInt = 7 * k := by rw [zmul (by rw [znI (by omega), show (7 : Int32).toInt = 7 by decide]; omega) (by rw [znI (by omega), show (7 : Int32).toInt = 7 by decide]; omega), znI (by omega), show (7 : Int32).toInt = 7 by decide]
    obtain ⟨oc', os', ot', dr', ds', p1, p2, p3, p4, p5⟩ := h.put (x := (Int64.toInt32 ((Int64.toUInt64 v >>> ((Int32.toInt64 (7 * nI k)).toUInt64 &&& Int64.toUInt64 63)).toInt64)) &&& 127) (y := Int64.toInt32 (((Int64.toUInt64 v >>> ((Int32.toInt64 (7 * nI k)).toUInt64 &&& Int64.toUInt64 63)).toInt64) &&& 127)) (by omega) (by rw [l127])
    obtain ⟨oc2, os2, ot2, dr2, ds2, q1, q2, q3, q4, q5⟩ := ih f oc' os' ot' dr' ds' (by omega) (by omega) p3 (by omega)
    refine ⟨oc2, os2, ot2, dr2, ds2, ?_, ?_, q3, by omega, by omega⟩
    · rw [bX5_encodeReal_14, if_neg (nI_pos (by omega)), p1, Option.bind_some, zpm]; exact q1
    · rw [bX7_putReal_5, if_neg (nI_pos (by omega)), if_pos (by rw [zle, e7, show (63 : Int32).toInt = 63 by decide]; omega)]
      unfold bX7_putReal_36
      rw [p2, Option.bind_some, zpm]; exact q2
/-- the zigzag of both sides -/
theorem zigzag (v : Int64) : (v <<< (Int32.toInt64 1 &&& 63)) ^^^ (v >>> (Int32.toInt64 63 &&& 63)) = if v < 0 then (-2) * v - 1 else 2 * v := by
  have h1 : v <<< (Int32.toInt64 1 &&& 63) = 2 * v := by
    apply Int64.toBitVec_inj.mp
    rw [Int64.toBitVec_shiftLeft, Int64.toBitVec_mul]
    rw [show ((Int32.toInt64 1 &&& 63).toBitVec.smod 64) = 1#64 by decide]
    apply BitVec.eq_of_toNat_eq
    rw [BitVec.toNat_mul]
    show (v.toBitVec <<< (1#64).toNat).toNat = _
    rw [BitVec.toNat_shiftLeft, show (1#64).toNat = 1 by decide, Nat.shiftLeft_eq, Nat.mul_comm]
    rfl
  have hb := v.toBitVec.isLt
  have hi := lnat v
  have h2 := lshr v (Int32.toInt64 63 &&& 63) (k := 63) (by decide)
  have e0 : (0 : Int64).toInt = 0 := by decide
  by_cases g : v < 0
  · rw [if_pos g]
    rw [Int64.lt_iff_toInt_lt, e0] at g
    have h3 : v >>> (Int32.toInt64 63 &&& 63) = -1 := by
      apply Int64.toInt_inj.mp
      rw [h2, show (-1 : Int64).toInt = -1 by decide]
      split at hi <;> omega
    rw [h1, h3]
    apply Int64.toBitVec_inj.mp
    rw [Int64.toBitVec_xor, Int64.toBitVec_sub, Int64.toBitVec_mul, Int64.toBitVec_mul]
    rw [show (-1 : Int64).toBitVec = BitVec.allOnes 64 by decide, BitVec.xor_allOnes]
    rw [show (-2 : Int64).toBitVec = -(2 : Int64).toBitVec by decide, BitVec.neg_mul, BitVec.neg_eq_not_add, show (1 : Int64).toBitVec = 1#64 by decide, BitVec.add_sub_cancel]
  · rw [if_neg g]
    rw [Int64.lt_iff_toInt_lt, e0] at g
    have h3 : v >>> (Int32.toInt64 63 &&& 63) = 0 := by
      apply Int64.toInt_inj.mp
      rw [h2, e0]
      split at hi <;> omega
    rw [h1, h3]
    apply Int64.toBitVec_inj.mp
    rw [Int64.toBitVec_xor]
    show _ ^^^ (0#64) = _
    rw [BitVec.xor_zero]
theorem int_range (v : Int64) : v = Int32.toInt64 (Int64.toInt32 v) ↔ (¬ v < -2147483648 ∧ ¬ 2147483647 < v) := by
  have e1 : (-2147483648 : Int64).toInt = -2147483648 := by decide
  have e2 : (2147483647 : Int64).toInt = 2147483647 := by decide
  rw [Int64.lt_iff_toInt_lt, Int64.lt_iff_toInt_lt, e1, e2, ← Int64.toInt_inj, Int32.toInt_toInt64, Int64.toInt_toInt32]
  simp only [Int.bmod_def]
  constructor
  · intro h
    split at h <;> omega
  · intro h
    split <;> omega
theorem sim_int {oc : Nat → Int32} {os ot : Int32} {dr : Nat → Int32} {ds : Int32} (v : Int64) (h : OR oc os ot dr ds) (hd : ds.toInt < 2147000000) : SW 11 ds (fX5_encodeInteger oc os ot v) (fX7_putInteger dr ds v) := by
  have both : ∀ s, SW 11 ds (bX5_encodeInteger_58 oc os ot (if v < 0 then (-2) * v - 1 else 2 * v) s) (bX7_putInteger_75 dr ds (if v < 0 then (-2) * v - 1 else 2 * v) s) := by
    intro s
    obtain ⟨oc', os', ot', dr', ds', p1, p2, p3, p4, p5⟩ := h.put (x := s) (y := s) (by omega) rfl
    obtain ⟨oc2, os2, ot2, dr2, ds2, q1, q2, q3, q4, q5⟩ := sim_cnt (if v < 0 then (-2) * v - 1 else 2 * v) p3 (by omega)
    refine ⟨oc2, os2, ot2, dr2, ds2, ?_, ?_, q3, by omega, by omega⟩
    · unfold bX5_encodeInteger_58; rw [p1, Option.bind_some, q1]; rfl
    · unfold bX7_putInteger_75; rw [p2, Option.bind_some, q2]; rfl
  have e39 : SW 11 ds (bX5_encodeInteger_39 oc os ot v (if v < 0 then (-2) * v - 1 else 2 * v)) (bX7_putInteger_51 dr ds v (if v < 0 then (-2) * v - 1 else 2 * v)) := by
    unfold bX5_encodeInteger_39 bX7_putInteger_51 bX7_putInteger_73
    simp only [lg_cmp_eq, lg_cmp_lt, lg_cmp_gt]
    by_cases g : v = Int32.toInt64 (Int64.toInt32 v)
    · have g2 := (int_range v).mp g
      rw [if_pos g, if_neg g2.1, if_neg g2.2]; exact both 36
    · rw [if_neg g]
      by_cases g3 : v < -2147483648
      · rw [if_pos g3]; exact both 37
      · rw [if_neg g3, if_pos (Classical.byContradiction fun g4 => g ((int_range v).mpr ⟨g3, g4⟩))]; exact both 37
  have e21 : bX7_putInteger_0 dr ds v = bX7_putInteger_21 dr ds v (if v < 0 then (-2) * v - 1 else 2 * v) := by
    unfold bX7_putInteger_0
    simp only [lg_cmp_lt]
    by_cases g : v < 0
    · rw [if_pos g, if_pos g]
    · rw [if_neg g, if_neg g]
  unfold fX5_encodeInteger bX5_encodeInteger_0 fX7_putInteger
  rw [e21, zigzag v]
  unfold bX7_putInteger_21
  by_cases g : lg_cmp v (-16) < 0
  · rw [if_pos g, if_pos g]; exact e39
  rw [if_neg g, if_neg g]
  by_cases g2 : 0 < lg_cmp v 15
  · rw [if_pos g2, if_pos g2]; exact e39
  rw [if_neg g2, if_neg g2]
  obtain ⟨oc', os', ot', dr', ds', p1, p2, p3, p4, p5⟩ := h.put (x := 192 + Int64.toInt32 (if v < 0 then (-2) * v - 1 else 2 * v)) (y := 192 + Int64.toInt32 (if v < 0 then (-2) * v - 1 else 2 * v)) (by omega) rfl
  refine ⟨oc', os', ot', dr', ds', ?_, ?_, p3, p4, by omega⟩
  · rw [p1]; rfl
  · rw [p2]; rfl
theorem sim_rea {oc : Nat → Int32} {os ot : Int32} {dr : Nat → Int32} {ds : Int32} (v : Int64) (s : Int32) (n : Nat) (hn : n ≤ 10) (h : OR oc os ot dr ds) (hd : ds.toInt < 2147000000) : SW 11 ds (fX5_encodeReal oc os ot s v (nI n)) ((fX7_put dr ds s).bind fun v2 => fX7_putReal v2.1 v2.2 v (nI n)) := by
  obtain ⟨oc', os', ot', dr', ds', p1, p2, p3, p4, p5⟩ := h.put (x := s) (y := s) (by omega) rfl
  obtain ⟨oc2, os2, ot2, dr2, ds2, q1, q2, q3, q4, q5⟩ := real_loop v n FU oc' os' ot' dr' ds' (by unfold FU; omega) hn p3 (by omega)
  refine ⟨oc2, os2, ot2, dr2, ds2, ?_, ?_, q3, by omega, by omega⟩
  · unfold fX5_encodeReal bX5_encodeReal_0; rw [p1, Option.bind_some]; exact q1
  · rw [p2, Option.bind_some]; unfold fX7_putReal bX7_putReal_0; exact q2
end Count
