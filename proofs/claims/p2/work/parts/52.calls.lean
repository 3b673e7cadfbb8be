/-! the calls that make a document, but for texts and bytes -/
section Calls
variable {kinds starts lengths depths b_cells openKinds : Nat → Int32} {numbers : Nat → Int64} {b_size b_tooLong size depth named : Int32} {mk ms ml mw mp mi mb mo mm md : Nat → Int32} {mn : Nat → Int64} {x n : Int32} {v : Int64} {d : Nat}
theorem i02 : ix 0 2 := by decide
theorem sim_add (hR : DR 0 kinds starts lengths depths numbers b_cells b_size b_tooLong openKinds size depth named mk mn ms ml mw mp mi mb mo mm md) (h : okV 0 openKinds b_size size depth named x) (hx0 : 0 ≤ x.toInt) (hx1 : x.toInt ≤ 9) : ∃ r', fX7_add mk mn ms ml mw mi mb mo mm md 0 x v 0 = some r' ∧ r'.2.2.2.2.2.1 0 = size + 1 ∧ r'.2.2.2.2.2.1 (Int32.toNatClampNeg 0) = size + 1 ∧ DR 0 (upd kinds size.toInt.toNat x) (upd starts size.toInt.toNat b_size) (upd lengths size.toInt.toNat 0) (upd depths size.toInt.toNat depth) (vp_updL numbers size.toInt.toNat v) b_cells b_size b_tooLong (if x = 5 ∨ x = 6 then upd openKinds depth.toInt.toNat x else openKinds) (size + 1) (if x = 5 ∨ x = 6 then depth + 1 else depth) 0 r'.1 r'.2.1 r'.2.2.1 r'.2.2.2.1 r'.2.2.2.2.1 mp r'.2.2.2.2.2.1 r'.2.2.2.2.2.2.1 r'.2.2.2.2.2.2.2.1 r'.2.2.2.2.2.2.2.2.1 r'.2.2.2.2.2.2.2.2.2 := by
  obtain ⟨a1, a2, a3, a4, a5, a6, a7, a8, a9, a10, a11, a12⟩ := id hR.1
  obtain ⟨mo', mm', md', g1, g2, g3, g4⟩ := pair_value (v := v) (x := x) (n := 0) (L := upd lengths size.toInt.toNat 0) (C := b_cells) (mp' := mp) hR (by omega) h.1.1 h.2.1 (by decide) (by rw [z0]; exact h.2.2.1) h.2.2.2 hx0 hx1 (upd_same _ _ _) (fun i hi => upd_ne (by omega)) (by rw [Int32.add_zero]; exact hR.2.2.1)
  rw [Int32.add_zero] at g4
  rw [nI_0] at g1 g4
  refine ⟨_, g1, ?_, ?_, g4⟩
  · show upd mi 0 (mi 0 + 1) 0 = size + 1
    rw [upd_same, a1]
  · show upd mi 0 (mi 0 + 1) 0 = size + 1
    rw [upd_same, a1]
theorem rmay0 (hR : DR 0 kinds starts lengths depths numbers b_cells b_size b_tooLong openKinds size depth named mk mn ms ml mw mp mi mb mo mm md) (o : Int32) (ho : o ≠ 0 ↔ (x = 5 ∨ x = 6)) : ∃ q, fX7_mayBe mi mb md 0 0 o = some q ∧ (q = 0 ↔ ¬ (size.toInt < 1500 ∧ b_size.toInt + 0 ≤ 5000 ∧ ((x = 5 ∨ x = 6) → depth.toInt < 30))) := by
  obtain ⟨a1, a2, a3, a4, a5, a6, a7, a8, a9, a10, a11, a12⟩ := id hR.1
  obtain ⟨q, q1, q2⟩ := rmay (mi := mi) (mb := mb) (md := md) (d := 0) (n := 0) (o := o) (by omega) (by rw [a2]; exact a7) (by rw [a2]; exact a8) (by decide) (by decide)
  rw [nI_0] at q1
  rw [a1, a2, a3, z0, ho] at q2
  exact ⟨q, q1, q2⟩
theorem sim_integer (hR : DR 0 kinds starts lengths depths numbers b_cells b_size b_tooLong openKinds size depth named mk mn ms ml mw mp mi mb mo mm md) (v : Int64) : ∃ r r', fX6_integer kinds starts lengths depths numbers b_size openKinds size depth named v = some r ∧ fX7_integer mk mn ms ml mw mi mb mo mm md v = some r' ∧ r.1 = r'.1 ∧ DR 0 r.2.1 r.2.2.1 r.2.2.2.1 r.2.2.2.2.1 r.2.2.2.2.2.1 b_cells b_size b_tooLong r.2.2.2.2.2.2.1 r.2.2.2.2.2.2.2.1 r.2.2.2.2.2.2.2.2.1 r.2.2.2.2.2.2.2.2.2 r'.2.1 r'.2.2.1 r'.2.2.2.1 r'.2.2.2.2.1 r'.2.2.2.2.2.1 mp r'.2.2.2.2.2.2.1 r'.2.2.2.2.2.2.2.1 r'.2.2.2.2.2.2.2.2.1 r'.2.2.2.2.2.2.2.2.2.1 r'.2.2.2.2.2.2.2.2.2.2 := by
  obtain ⟨a1, a2, a3, a4, a5, a6, a7, a8, a9, a10, a11, a12⟩ := id hR.1
  obtain ⟨t, t1, t2⟩ := rtakes hR
  obtain ⟨q, q1, q2⟩ := rmay0 (x := 7) hR 0 (by decide)
  unfold fX6_integer bX6_integer_0 fX7_integer bX7_integer_0
  by_cases h : okV 0 openKinds b_size size depth named 7
  · obtain ⟨s, s1, s2, s3, s4⟩ := sim_add (v := v) hR h (by decide) (by decide)
    rw [cplain_ok a5 a9 a10 a7 a8 (by decide) (by decide) h, t1, Option.bind_some, Option.bind_some, if_neg (fun e => t2.mp e h.1), q1, Option.bind_some, if_neg (fun e => q2.mp e h.2), s1, Option.bind_some, if_pos i02]
    exact ⟨_, _, rfl, rfl, s3.symm, s4⟩
  · rw [cplain_no a9 a10 a7 a8 (by decide) (by decide) h, t1, Option.bind_some, Option.bind_some]
    by_cases g : t = 0
    · rw [if_pos g]; exact ⟨_, _, rfl, rfl, rfl, hR⟩
    · have g1 := Classical.byContradiction fun e => g (t2.mpr e)
      rw [if_neg g, q1, Option.bind_some, if_pos (q2.mpr fun e => h ⟨g1, e⟩)]
      exact ⟨_, _, rfl, rfl, rfl, hR⟩
theorem lushr32 {v : Int64} : ((Int64.toUInt64 v >>> ((Int32.toInt64 32).toUInt64 &&& Int64.toUInt64 63)).toInt64 = 0) ↔ (¬ v < 0 ∧ v < 4294967296) := by
  have e : ((Int32.toInt64 32).toUInt64 &&& Int64.toUInt64 63) = 32 := by decide
  rw [e]
  have hs : (v.toUInt64 >>> (32 : UInt64)).toNat = v.toBitVec.toNat / 2 ^ 32 := by
    rw [UInt64.toNat_shiftRight]
    show v.toBitVec.toNat >>> (32 % 64) = _
    rw [Nat.shiftRight_eq_div_pow]
  have hz : (v.toUInt64 >>> (32 : UInt64)).toInt64 = 0 ↔ (v.toUInt64 >>> (32 : UInt64)).toNat = 0 := by
    constructor
    · intro h
      have h2 := congrArg Int64.toUInt64 h
      rw [UInt64.toUInt64_toInt64] at h2
      rw [h2]; rfl
    · intro h
      have h2 : v.toUInt64 >>> (32 : UInt64) = 0 := UInt64.toNat_inj.mp h
      rw [h2]; rfl
  rw [hz, hs, Int64.lt_iff_toInt_lt, Int64.lt_iff_toInt_lt]
  have e0 : (0 : Int64).toInt = 0 := by decide
  have e1 : (4294967296 : Int64).toInt = 4294967296 := by decide
  rw [e0, e1]
  have hi : v.toInt = if 2 * v.toBitVec.toNat < 2 ^ 64 then (v.toBitVec.toNat : Int) else v.toBitVec.toNat - 2 ^ 64 := BitVec.toInt_eq_toNat_cond v.toBitVec
  have hb := v.toBitVec.isLt
  rw [hi]
  split <;> omega
theorem sim_real28 (hR : DR 0 kinds starts lengths depths numbers b_cells b_size b_tooLong openKinds size depth named mk mn ms ml mw mp mi mb mo mm md) (v : Int64) (x3 x : Int32) (e : 8 + x3 = x) (hx0 : 0 ≤ x.toInt) (hx1 : x.toInt ≤ 9) (hx5 : ¬ (x = 5 ∨ x = 6)) : ∃ r r', fX6_addPlain kinds starts lengths depths numbers b_size openKinds size depth named x v = some r ∧ bX7_real_28 mk mn ms ml mw mi mb mo mm md v x3 1 = some r' ∧ r.1 = r'.1 ∧ DR 0 r.2.1 r.2.2.1 r.2.2.2.1 r.2.2.2.2.1 r.2.2.2.2.2.1 b_cells b_size b_tooLong r.2.2.2.2.2.2.1 r.2.2.2.2.2.2.2.1 r.2.2.2.2.2.2.2.2.1 r.2.2.2.2.2.2.2.2.2 r'.2.1 r'.2.2.1 r'.2.2.2.1 r'.2.2.2.2.1 r'.2.2.2.2.2.1 mp r'.2.2.2.2.2.2.1 r'.2.2.2.2.2.2.2.1 r'.2.2.2.2.2.2.2.2.1 r'.2.2.2.2.2.2.2.2.2.1 r'.2.2.2.2.2.2.2.2.2.2 := by
  obtain ⟨a1, a2, a3, a4, a5, a6, a7, a8, a9, a10, a11, a12⟩ := id hR.1
  obtain ⟨t, t1, t2⟩ := rtakes hR
  have n10 : x ≠ 10 := fun h => by rw [h, z10] at hx1; omega
  have n11 : x ≠ 11 := fun h => by rw [h, z11] at hx1; omega
  obtain ⟨q, q1, q2⟩ := rmay0 (x := x) hR 0 ⟨fun h => absurd rfl h, fun h => absurd h hx5⟩
  unfold bX7_real_28
  rw [if_neg (by decide), e]
  by_cases h : okV 0 openKinds b_size size depth named x
  · obtain ⟨s, s1, s2, s3, s4⟩ := sim_add (v := v) hR h hx0 hx1
    rw [cplain_ok a5 a9 a10 a7 a8 n10 n11 h, t1, Option.bind_some, if_neg (fun e => t2.mp e h.1), q1, Option.bind_some, if_neg (fun e => q2.mp e h.2), s1, Option.bind_some, if_pos i02]
    exact ⟨_, _, rfl, rfl, s3.symm, s4⟩
  · rw [cplain_no a9 a10 a7 a8 n10 n11 h, t1, Option.bind_some]
    by_cases g : t = 0
    · rw [if_pos g]; exact ⟨_, _, rfl, rfl, rfl, hR⟩
    · have g1 := Classical.byContradiction fun e => g (t2.mpr e)
      rw [if_neg g, q1, Option.bind_some, if_pos (q2.mpr fun e => h ⟨g1, e⟩)]
      exact ⟨_, _, rfl, rfl, rfl, hR⟩
theorem sim_real (hR : DR 0 kinds starts lengths depths numbers b_cells b_size b_tooLong openKinds size depth named mk mn ms ml mw mp mi mb mo mm md) (v : Int64) (n : Int32) : ∃ r r', fX6_real kinds starts lengths depths numbers b_size openKinds size depth named v n = some r ∧ fX7_real mk mn ms ml mw mi mb mo mm md v n = some r' ∧ r.1 = r'.1 ∧ DR 0 r.2.1 r.2.2.1 r.2.2.2.1 r.2.2.2.2.1 r.2.2.2.2.2.1 b_cells b_size b_tooLong r.2.2.2.2.2.2.1 r.2.2.2.2.2.2.2.1 r.2.2.2.2.2.2.2.2.1 r.2.2.2.2.2.2.2.2.2 r'.2.1 r'.2.2.1 r'.2.2.2.1 r'.2.2.2.2.1 r'.2.2.2.2.2.1 mp r'.2.2.2.2.2.2.1 r'.2.2.2.2.2.2.2.1 r'.2.2.2.2.2.2.2.2.1 r'.2.2.2.2.2.2.2.2.2.1 r'.2.2.2.2.2.2.2.2.2.2 := by
  unfold fX6_real bX6_real_0 fX7_real bX7_real_0 bX7_real_23 bX7_real_27
  by_cases h1 : n = 1
  · rw [if_pos h1, if_pos h1]
    subst h1
    obtain ⟨r, r', e1, e2, e3, e4⟩ := sim_real28 hR v 1 9 (by decide) (by decide) (by decide) (by decide)
    rw [e1, e2, Option.bind_some]
    exact ⟨_, _, rfl, rfl, e3, e4⟩
  rw [if_neg h1, if_neg h1]
  have no : ∀ n, ∃ r r', some ((-1 : Int32), kinds, starts, lengths, depths, numbers, openKinds, size, depth, named) = some r ∧ bX7_real_28 mk mn ms ml mw mi mb mo mm md v n 0 = some r' ∧ r.1 = r'.1 ∧ DR 0 r.2.1 r.2.2.1 r.2.2.2.1 r.2.2.2.2.1 r.2.2.2.2.2.1 b_cells b_size b_tooLong r.2.2.2.2.2.2.1 r.2.2.2.2.2.2.2.1 r.2.2.2.2.2.2.2.2.1 r.2.2.2.2.2.2.2.2.2 r'.2.1 r'.2.2.1 r'.2.2.2.1 r'.2.2.2.2.1 r'.2.2.2.2.2.1 mp r'.2.2.2.2.2.2.1 r'.2.2.2.2.2.2.2.1 r'.2.2.2.2.2.2.2.2.1 r'.2.2.2.2.2.2.2.2.2.1 r'.2.2.2.2.2.2.2.2.2.2 := by
    intro n
    unfold bX7_real_28
    rw [if_pos rfl]
    exact ⟨_, _, rfl, rfl, rfl, hR⟩
  by_cases h0 : n = 0
  · rw [if_pos h0, if_pos h0]
    simp only [lg_cmp_eq, lg_cmp_lt, lg_cmp_ge]
    by_cases hr : ((Int64.toUInt64 v >>> ((Int32.toInt64 32).toUInt64 &&& Int64.toUInt64 63)).toInt64 = 0)
    · obtain ⟨a, b⟩ := lushr32.mp hr
      rw [if_pos hr, if_neg a, if_neg (Int64.not_le.mpr b)]
      subst h0
      obtain ⟨r, r', e1, e2, e3, e4⟩ := sim_real28 hR v 0 8 (by decide) (by decide) (by decide) (by decide)
      rw [e1, e2, Option.bind_some]
      exact ⟨_, _, rfl, rfl, e3, e4⟩
    · rw [if_neg hr]
      by_cases a : v < 0
      · rw [if_pos a]; exact no _
      · rw [if_neg a, if_pos (Int64.not_lt.mp (fun b => hr (lushr32.mpr ⟨a, b⟩)))]; exact no _
  · rw [if_neg h0, if_neg h0]; exact no _
theorem sim_end (hR : DR 0 kinds starts lengths depths numbers b_cells b_size b_tooLong openKinds size depth named mk mn ms ml mw mp mi mb mo mm md) : ∃ r r', fX6_end kinds starts lengths depths numbers b_size openKinds size depth named = some r ∧ fX7_end mk mn ms ml mw mi mb mo mm md = some r' ∧ r.1 = r'.1 ∧ DR 0 r.2.1 r.2.2.1 r.2.2.2.1 r.2.2.2.2.1 r.2.2.2.2.2.1 b_cells b_size b_tooLong r.2.2.2.2.2.2.1 r.2.2.2.2.2.2.2.1 r.2.2.2.2.2.2.2.2.1 r.2.2.2.2.2.2.2.2.2 r'.2.1 r'.2.2.1 r'.2.2.2.1 r'.2.2.2.2.1 r'.2.2.2.2.2.1 mp r'.2.2.2.2.2.2.1 r'.2.2.2.2.2.2.2.1 r'.2.2.2.2.2.2.2.2.1 r'.2.2.2.2.2.2.2.2.2.1 r'.2.2.2.2.2.2.2.2.2.2 := by
  obtain ⟨a1, a2, a3, a4, a5, a6, a7, a8, a9, a10, a11, a12⟩ := id hR.1
  have hO := hR.2.2.2.1
  obtain ⟨q, q1, q2⟩ := rmay0 (x := 11) hR 0 (by decide)
  obtain ⟨p, p1, p2⟩ := rinobj (mo := mo) (md := md) (d := 0) (by omega) (by rw [a3]; exact a9) (by rw [a3]; exact a10)
  rw [nI_0] at p1
  rw [a3] at p2
  unfold fX6_end bX6_end_0 fX7_end bX7_end_0
  have c0 : Int32.toNatClampNeg 0 = 0 := by decide
  rw [if_pos i02, c0, a3]
  have h30 : 0 < depth.toInt → named = 0 → ∃ r r', ((fX6_addPlain kinds starts lengths depths numbers b_size openKinds size depth named 11 0).bind fun v2 => some (v2.1, v2.2.1, v2.2.2.1, v2.2.2.2.1, v2.2.2.2.2.1, v2.2.2.2.2.2.1, v2.2.2.2.2.2.2.1, v2.2.2.2.2.2.2.2.1, v2.2.2.2.2.2.2.2.2.1, v2.2.2.2.2.2.2.2.2.2)) = some r ∧ bX7_end_30 mk mn ms ml mw mi mb mo mm md = some r' ∧ r.1 = r'.1 ∧ DR 0 r.2.1 r.2.2.1 r.2.2.2.1 r.2.2.2.2.1 r.2.2.2.2.2.1 b_cells b_size b_tooLong r.2.2.2.2.2.2.1 r.2.2.2.2.2.2.2.1 r.2.2.2.2.2.2.2.2.1 r.2.2.2.2.2.2.2.2.2 r'.2.1 r'.2.2.1 r'.2.2.2.1 r'.2.2.2.2.1 r'.2.2.2.2.2.1 mp r'.2.2.2.2.2.2.1 r'.2.2.2.2.2.2.2.1 r'.2.2.2.2.2.2.2.2.1 r'.2.2.2.2.2.2.2.2.2.1 r'.2.2.2.2.2.2.2.2.2.2 := by
    intro g1 g2
    unfold bX7_end_30
    rw [q1, Option.bind_some]
    by_cases g3 : size.toInt < 1500
    · obtain ⟨e1, e2⟩ := pair_end (v := 0) hR (by omega) g1 g3
      rw [nI_0] at e1 e2
      rw [cend_ok a5 a10 a7 a8 g1 g2 g3, Option.bind_some, if_neg (fun e => q2.mp e ⟨g3, by omega, fun h => absurd h (by decide)⟩), e1, Option.bind_some, if_pos i02]
      refine ⟨_, _, rfl, rfl, ?_, e2⟩
      show size + 1 = upd mi 0 (mi 0 + 1) 0
      rw [upd_same, a1]
    · rw [cend_no a9 a10 a7 a8 (fun h => g3 h.2.2), Option.bind_some, if_pos (q2.mpr fun h => g3 h.1)]
      exact ⟨_, _, rfl, rfl, rfl, hR⟩
  by_cases g : 0 < depth.toInt
  · rw [if_neg (by rw [zeq, z0]; omega), p1, Option.bind_some]
    obtain ⟨b1, b2, b3⟩ := hO.1 (depth.toInt.toNat - 1) (by omega)
    obtain ⟨c1, c2⟩ := b3 (by omega)
    by_cases g2 : p = 0
    · rw [if_pos g2]
      refine h30 g ?_
      have p3 := p2.mp g2
      rcases b1 with ⟨d1, d2⟩ | ⟨d1, d2⟩
      · exact c2 d1
      · exact absurd ⟨g, by rw [d2]; decide⟩ p3
    · rw [if_neg g2]
      obtain ⟨t, t1, t2, t3, t4⟩ := rtop (md := md) (d := 0) (by omega) (by rw [a3]; exact g) (by rw [a3]; exact a10)
      rw [nI_0] at t1
      rw [a3] at t4
      rw [t1, Option.bind_some, if_pos t3, t4, c1]
      by_cases g3 : named = 0
      · rw [if_pos g3]; exact h30 g g3
      · rw [if_neg g3, cend_no a9 a10 a7 a8 (fun h => g3 h.2.1), Option.bind_some]
        exact ⟨_, _, rfl, rfl, rfl, hR⟩
  · rw [if_pos (by rw [zeq, z0]; omega), cend_no a9 a10 a7 a8 (fun h => g h.1), Option.bind_some]
    exact ⟨_, _, rfl, rfl, rfl, hR⟩
theorem DR.clear (hd : d ≤ 1) {mi mb md : Nat → Int32} (h1 : mi d = 0) (h2 : mb d = 0) (h3 : md d = 0) : DR d kinds starts lengths depths numbers b_cells 0 0 openKinds 0 0 0 mk mn ms ml mw mp mi mb mo mm md := by
  refine ⟨⟨h1, h2, h3, rfl, by decide, by decide, by decide, by decide, by decide, by decide, by decide, Or.inl rfl⟩, fun i hi => ?_, fun i hi => ?_, ⟨fun i hi => ?_, fun _ => rfl⟩, ⟨fun i h hi => ?_, fun i hi => ?_, fun i hi => ?_⟩⟩ <;> (rw [z0] at hi; omega)
theorem sim_drop (hR : DR 0 kinds starts lengths depths numbers b_cells b_size b_tooLong openKinds size depth named mk mn ms ml mw mp mi mb mo mm md) : ∃ r r', fX6_drop b_size b_tooLong size depth named = some r ∧ fX7_drop mi mb md = some r' ∧ r.1 = r'.1 ∧ DR 0 kinds starts lengths depths numbers b_cells r.2.1 r.2.2.1 openKinds r.2.2.2.1 r.2.2.2.2.1 r.2.2.2.2.2 mk mn ms ml mw mp r'.2.1 r'.2.2.1 mo mm r'.2.2.2 := by
  obtain ⟨a1, a2, a3, a4, a5, a6, a7, a8, a9, a10, a11, a12⟩ := id hR.1
  have c0 : Int32.toNatClampNeg 0 = 0 := by decide
  unfold fX6_drop bX6_drop_0 fX0_size bX0_size_0 fX0_clear bX0_clear_0 fX2_clear bX2_clear_0 fX7_drop bX7_drop_0 fX7_clear bX7_clear_0
  rw [if_pos i02, if_pos i02, if_pos i02, if_pos i02, c0]
  exact ⟨_, _, rfl, rfl, a1.symm, DR.clear (d := 0) (mi := upd mi 0 0) (mb := upd mb 0 0) (md := upd md 0 0) (by omega) (upd_same _ _ _) (upd_same _ _ _) (upd_same _ _ _)⟩
end Calls
