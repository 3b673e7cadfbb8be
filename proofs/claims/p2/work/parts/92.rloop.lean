/-! the items, one after the other -/
section Lo
variable {kinds starts lengths depths b_cells openKinds : Nat → Int32} {numbers : Nat → Int64} {b_size b_tooLong size depth named : Int32} {mk ms ml mw mp mi mb mo mm md : Nat → Int32} {mn : Nat → Int64} {ni nc nh ti tc th tb tz lc lm : Nat → Int32} {nz tz0 ls fa pl first kd st le to ov fl at_ : Int32} {nu : Int64} {x3 flags gt f2 fm first2 : Int32} {f : Nat} {s kd0 st0 : Int32}
theorem d_fault (h : fl ≠ 0) : ∃ v, bX1_decode_47 (f + 1) flags at_ fl fa first kd nu fm st le to ov ni nc nh nz ti tc th tz0 lc ls kinds starts lengths depths numbers b_cells b_size b_tooLong openKinds size depth named x3 = some v ∧ v.1 = fl := by
  have h118 : ∃ v, bX1_decode_118 flags at_ fl fa first kd nu fm st le to ov ni nc nh nz ti tc th tz0 lc ls kinds starts lengths depths numbers b_cells b_size b_tooLong openKinds size depth named = some v ∧ v.1 = fl := by
    unfold bX1_decode_118 fX2_size bX2_size_0 fX1_fail bX1_fail_0
    rw [Option.bind_some]
    by_cases g : ls ≤ at_
    · rw [if_pos g]; exact ⟨_, rfl, rfl⟩
    · rw [if_neg g, if_neg h]; exact ⟨_, rfl, rfl⟩
  rw [bX1_decode_47]
  by_cases g : 1500 < x3
  · rw [if_pos g]; exact h118
  · rw [if_neg g, if_neg h]; exact h118
theorem r_fault (h : f2 ≠ 0) : bX7_read_38 (f + 1) lm mk mn ms ml mw mp mi mb mo mm md tb tz ls at_ flags f2 pl first gt = some (f2, mk, mn, ms, ml, mw, mp, mi, mb, mo, mm, md, tb, tz, 0, at_, flags, f2, pl, first, gt) := by
  rw [bX7_read_38, if_neg h]
  unfold bX7_read_109 bX7_read_137
  rw [if_neg h, if_neg h]
theorem d_whole0 (hx : ¬ 1500 < x3) (hw : fX0_isWhole size depth = some 1) (ha : ls ≤ at_) : bX1_decode_47 (f + 1) flags at_ 0 fa first kd nu fm st le to ov ni nc nh nz ti tc th tz0 lc ls kinds starts lengths depths numbers b_cells b_size b_tooLong openKinds size depth named x3 = some (0, flags, at_, 0, fa, first, kd, nu, fm, st, le, to, ov, ni, nc, nh, nz, ti, tc, th, tz0, kinds, starts, lengths, depths, numbers, b_cells, b_size, b_tooLong, openKinds, size, depth, named) := by
  rw [bX1_decode_47, if_neg hx, if_pos rfl, hw, Option.bind_some, if_neg (by decide)]
  unfold bX1_decode_118 fX2_size bX2_size_0
  rw [Option.bind_some, if_pos ha]
theorem d_whole8 (hx : ¬ 1500 < x3) (hw : fX0_isWhole size depth = some 1) (ha : ¬ ls ≤ at_) : ∃ v, bX1_decode_47 (f + 1) flags at_ 0 fa first kd nu fm st le to ov ni nc nh nz ti tc th tz0 lc ls kinds starts lengths depths numbers b_cells b_size b_tooLong openKinds size depth named x3 = some v ∧ v.1 = 8 := by
  rw [bX1_decode_47, if_neg hx, if_pos rfl, hw, Option.bind_some, if_neg (by decide)]
  unfold bX1_decode_118 fX2_size bX2_size_0 fX1_fail bX1_fail_0
  rw [Option.bind_some, if_neg ha, if_pos rfl]
  exact ⟨_, rfl, rfl⟩
theorem r_whole0 (hw : fX7_isWhole mi md 1 = some 1) (ha : ls ≤ at_) {v : (Nat → Int32) × (Nat → Int64) × (Nat → Int32) × (Nat → Int32) × (Nat → Int32) × (Nat → Int32) × (Nat → Int32) × (Nat → Int32) × (Nat → Int32)} (hh : fX7_holdRead mk mn ms ml mw mp mi mb md = some v) : bX7_read_38 (f + 1) lm mk mn ms ml mw mp mi mb mo mm md tb tz ls at_ flags 0 pl first gt = some (0, v.1, v.2.1, v.2.2.1, v.2.2.2.1, v.2.2.2.2.1, v.2.2.2.2.2.1, v.2.2.2.2.2.2.1, v.2.2.2.2.2.2.2.1, mo, mm, v.2.2.2.2.2.2.2.2, tb, tz, 0, at_, flags, 0, pl, first, gt) := by
  rw [bX7_read_38, if_pos rfl, hw, Option.bind_some, if_neg (by decide)]
  unfold bX7_read_109 bX7_read_137
  rw [if_pos rfl, if_pos ha, if_pos rfl, hh, Option.bind_some]
theorem r_whole8 (hw : fX7_isWhole mi md 1 = some 1) (ha : ¬ ls ≤ at_) : bX7_read_38 (f + 1) lm mk mn ms ml mw mp mi mb mo mm md tb tz ls at_ flags 0 pl first gt = some (8, mk, mn, ms, ml, mw, mp, mi, mb, mo, mm, md, tb, tz, 0, at_, flags, 8, at_, first, gt) := by
  rw [bX7_read_38, if_pos rfl, hw, Option.bind_some, if_neg (by decide)]
  unfold bX7_read_109 fX7_fail bX7_fail_0 bX7_read_137
  rw [if_pos rfl, if_neg ha, if_pos rfl, Option.bind_some, if_neg (show ¬ ((8 : Int32) = 0) by decide)]
theorem d_begin {s0 a1 f1 fa1 : Int32} (h : fX1_take at_ 0 fa lc ls = some (s0, a1, f1, fa1)) : fX1_beginItem at_ 0 fa first nu fm le to ov lc ls = some (s0, a1, f1, fa1, at_, 0, 0, 0, -1, 0) := by
  unfold fX1_beginItem bX1_beginItem_0
  rw [h, Option.bind_some]
set_option maxHeartbeats 4000000 in
theorem dstep_v {s0 a1 f1 fa1 a2 g2 fa2 kd2 fm2 st2 le2 to2 ov2 : Int32} {nu2 : Int64} {v16 : Int32 × Int32 × Int32 × Int32} {v17 : T20} {rc : Int32} (hx : ¬ 1500 < x3) (hw : fX0_isWhole size depth = some 0) (hb : fX1_take at_ 0 fa lc ls = some (s0, a1, f1, fa1)) (hac : fX0_accepts openKinds size depth named 10 = some rc) (hrc : rc = 0) (hs : fX1_scanValue flags a1 f1 fa1 kd 0 0 st 0 (-1) 0 lc ls openKinds depth s0 = some (a2, g2, fa2, kd2, nu2, fm2, st2, le2, to2, ov2)) (hj : fX1_judgeItem g2 fa2 at_ kd2 fm2 st2 le2 to2 ov2 ni nz ti tz0 lc ls lengths b_size size depth = some v16) (hk : fX1_keepItem flags a2 v16.1 kd2 nu2 fm2 st2 v16.2.2.1 v16.2.2.2 ni nc nh nz ti tc th tz0 lc ls kinds starts lengths depths numbers b_cells b_size b_tooLong openKinds size depth named = some v17) : bX1_decode_47 (f + 1) flags at_ 0 fa first kd nu fm st le to ov ni nc nh nz ti tc th tz0 lc ls kinds starts lengths depths numbers b_cells b_size b_tooLong openKinds size depth named x3 = bX1_decode_47 f flags a2 v16.1 v16.2.1 at_ kd2 nu2 fm2 st2 v16.2.2.1 v16.2.2.2 ov2 v17.1 v17.2.1 v17.2.2.1 v17.2.2.2.1 v17.2.2.2.2.1 v17.2.2.2.2.2.1 v17.2.2.2.2.2.2.1 v17.2.2.2.2.2.2.2.1 lc ls v17.2.2.2.2.2.2.2.2.1 v17.2.2.2.2.2.2.2.2.2.1 v17.2.2.2.2.2.2.2.2.2.2.1 v17.2.2.2.2.2.2.2.2.2.2.2.1 v17.2.2.2.2.2.2.2.2.2.2.2.2.1 v17.2.2.2.2.2.2.2.2.2.2.2.2.2.1 v17.2.2.2.2.2.2.2.2.2.2.2.2.2.2.1 v17.2.2.2.2.2.2.2.2.2.2.2.2.2.2.2.1 v17.2.2.2.2.2.2.2.2.2.2.2.2.2.2.2.2.1 v17.2.2.2.2.2.2.2.2.2.2.2.2.2.2.2.2.2.1 v17.2.2.2.2.2.2.2.2.2.2.2.2.2.2.2.2.2.2.1 v17.2.2.2.2.2.2.2.2.2.2.2.2.2.2.2.2.2.2.2 (x3 + 1) := by
  rw [bX1_decode_47, if_neg hx, if_pos rfl, hw, Option.bind_some, if_pos rfl, d_begin hb, Option.bind_some, hac, Option.bind_some, if_pos hrc]
  dsimp only
  rw [hs, Option.bind_some]
  unfold bX1_decode_104
  dsimp only
  rw [hj, Option.bind_some, hk, Option.bind_some]
set_option maxHeartbeats 4000000 in
theorem dstep_n {s0 a1 f1 fa1 a2 g2 fa2 kd2 fm2 st2 le2 to2 : Int32} {v16 : Int32 × Int32 × Int32 × Int32} {v17 : T20} {rc : Int32} (hx : ¬ 1500 < x3) (hw : fX0_isWhole size depth = some 0) (hb : fX1_take at_ 0 fa lc ls = some (s0, a1, f1, fa1)) (hac : fX0_accepts openKinds size depth named 10 = some rc) (hrc : ¬ rc = 0) (hs : fX1_scanName flags a1 f1 fa1 kd 0 st 0 (-1) lc ls s0 = some (a2, g2, fa2, kd2, fm2, st2, le2, to2)) (hj : fX1_judgeItem g2 fa2 at_ kd2 fm2 st2 le2 to2 0 ni nz ti tz0 lc ls lengths b_size size depth = some v16) (hk : fX1_keepItem flags a2 v16.1 kd2 0 fm2 st2 v16.2.2.1 v16.2.2.2 ni nc nh nz ti tc th tz0 lc ls kinds starts lengths depths numbers b_cells b_size b_tooLong openKinds size depth named = some v17) : bX1_decode_47 (f + 1) flags at_ 0 fa first kd nu fm st le to ov ni nc nh nz ti tc th tz0 lc ls kinds starts lengths depths numbers b_cells b_size b_tooLong openKinds size depth named x3 = bX1_decode_47 f flags a2 v16.1 v16.2.1 at_ kd2 0 fm2 st2 v16.2.2.1 v16.2.2.2 0 v17.1 v17.2.1 v17.2.2.1 v17.2.2.2.1 v17.2.2.2.2.1 v17.2.2.2.2.2.1 v17.2.2.2.2.2.2.1 v17.2.2.2.2.2.2.2.1 lc ls v17.2.2.2.2.2.2.2.2.1 v17.2.2.2.2.2.2.2.2.2.1 v17.2.2.2.2.2.2.2.2.2.2.1 v17.2.2.2.2.2.2.2.2.2.2.2.1 v17.2.2.2.2.2.2.2.2.2.2.2.2.1 v17.2.2.2.2.2.2.2.2.2.2.2.2.2.1 v17.2.2.2.2.2.2.2.2.2.2.2.2.2.2.1 v17.2.2.2.2.2.2.2.2.2.2.2.2.2.2.2.1 v17.2.2.2.2.2.2.2.2.2.2.2.2.2.2.2.2.1 v17.2.2.2.2.2.2.2.2.2.2.2.2.2.2.2.2.2.1 v17.2.2.2.2.2.2.2.2.2.2.2.2.2.2.2.2.2.2.1 v17.2.2.2.2.2.2.2.2.2.2.2.2.2.2.2.2.2.2.2 (x3 + 1) := by
  rw [bX1_decode_47, if_neg hx, if_pos rfl, hw, Option.bind_some, if_pos rfl, d_begin hb, Option.bind_some, hac, Option.bind_some, if_neg hrc]
  dsimp only
  rw [hs, Option.bind_some]
  unfold bX1_decode_104
  dsimp only
  rw [hj, Option.bind_some, hk, Option.bind_some]
set_option maxHeartbeats 4000000 in
theorem rstep_v {rr : Int32} {r : T17} (hw : fX7_isWhole mi md 1 = some 0) (h0 : 0 ≤ at_.toInt) (h1 : at_.toInt < ls.toInt) (h2 : ls.toInt ≤ 6000) (hwn : fX7_wantsName mo mm md 1 = some rr) (hrr : rr = 0) (hb : lm at_.toInt.toNat &&& 255 = s) (hr : fX7_readValue lm mk mn ms ml mw mp mi mb mo mm md tb tz ls (at_ + 1) flags 0 pl at_ 0 s = some r) : bX7_read_38 (f + 1) lm mk mn ms ml mw mp mi mb mo mm md tb tz ls at_ flags 0 pl first gt = bX7_read_38 f lm r.1 r.2.1 r.2.2.1 r.2.2.2.1 r.2.2.2.2.1 r.2.2.2.2.2.1 r.2.2.2.2.2.2.1 r.2.2.2.2.2.2.2.1 r.2.2.2.2.2.2.2.2.1 r.2.2.2.2.2.2.2.2.2.1 r.2.2.2.2.2.2.2.2.2.2.1 r.2.2.2.2.2.2.2.2.2.2.2.1 r.2.2.2.2.2.2.2.2.2.2.2.2.1 ls r.2.2.2.2.2.2.2.2.2.2.2.2.2.1 flags r.2.2.2.2.2.2.2.2.2.2.2.2.2.2.1 r.2.2.2.2.2.2.2.2.2.2.2.2.2.2.2.1 at_ r.2.2.2.2.2.2.2.2.2.2.2.2.2.2.2.2 := by
  rw [bX7_read_38, if_pos rfl, hw, Option.bind_some, if_pos rfl, rnext_ok h0 h1 h2, Option.bind_some]
  dsimp only
  rw [if_pos rfl, hwn, Option.bind_some, if_pos hrr]
  unfold bX7_read_94 bX7_read_106
  rw [if_pos rfl, hb, hr, Option.bind_some]
set_option maxHeartbeats 4000000 in
theorem rstep_n {rr : Int32} {r : T17} (hw : fX7_isWhole mi md 1 = some 0) (h0 : 0 ≤ at_.toInt) (h1 : at_.toInt < ls.toInt) (h2 : ls.toInt ≤ 6000) (hwn : fX7_wantsName mo mm md 1 = some rr) (hrr : ¬ rr = 0) (hb : lm at_.toInt.toNat &&& 255 = s) (hr : fX7_readName lm mk mn ms ml mw mp mi mb mo mm md tb tz ls (at_ + 1) flags 0 pl at_ 0 s = some r) : bX7_read_38 (f + 1) lm mk mn ms ml mw mp mi mb mo mm md tb tz ls at_ flags 0 pl first gt = bX7_read_38 f lm r.1 r.2.1 r.2.2.1 r.2.2.2.1 r.2.2.2.2.1 r.2.2.2.2.2.1 r.2.2.2.2.2.2.1 r.2.2.2.2.2.2.2.1 r.2.2.2.2.2.2.2.2.1 r.2.2.2.2.2.2.2.2.2.1 r.2.2.2.2.2.2.2.2.2.2.1 r.2.2.2.2.2.2.2.2.2.2.2.1 r.2.2.2.2.2.2.2.2.2.2.2.2.1 ls r.2.2.2.2.2.2.2.2.2.2.2.2.2.1 flags r.2.2.2.2.2.2.2.2.2.2.2.2.2.2.1 r.2.2.2.2.2.2.2.2.2.2.2.2.2.2.2.1 at_ r.2.2.2.2.2.2.2.2.2.2.2.2.2.2.2.2 := by
  rw [bX7_read_38, if_pos rfl, hw, Option.bind_some, if_pos rfl, rnext_ok h0 h1 h2, Option.bind_some]
  dsimp only
  rw [if_pos rfl, hwn, Option.bind_some, if_neg hrr, hb, hr, Option.bind_some]
  unfold bX7_read_106
  rfl
theorem rstep_e (hw : fX7_isWhole mi md 1 = some 0) (he : at_ = ls) : bX7_read_38 (f + 1) lm mk mn ms ml mw mp mi mb mo mm md tb tz ls at_ flags 0 pl first gt = bX7_read_38 f lm mk mn ms ml mw mp mi mb mo mm md tb tz ls at_ flags 2 at_ at_ 0 := by
  rw [bX7_read_38, if_pos rfl, hw, Option.bind_some, if_pos rfl, rnext_end he, Option.bind_some]
  dsimp only
  rw [if_neg (by decide)]
  unfold bX7_read_94 bX7_read_106
  rw [if_neg (by decide)]
set_option maxHeartbeats 4000000 in
theorem rd_whole (hR : DR 1 kinds starts lengths depths numbers b_cells b_size b_tooLong openKinds size depth named mk mn ms ml mw mp mi mb mo mm md) {k fr : Nat} (hx3 : x3.toInt = size.toInt) (hw : 0 < size.toInt ∧ depth.toInt = 0) : ∃ v r, bX1_decode_47 (f + 1) (nI k) at_ 0 fa first kd nu fm st le to ov ni nc nh nz ti tc th tz0 lc ls kinds starts lengths depths numbers b_cells b_size b_tooLong openKinds size depth named x3 = some v ∧ bX7_read_38 (fr + 1) lm mk mn ms ml mw mp mi mb mo mm md tb tz ls at_ (nI k) 0 pl first2 gt = some r ∧ r.2.2.2.2.2.2.2.2.2.2.2.2.2.2.1 = 0 ∧ ((v.1 ≠ 0 ∧ FR mk mn ms ml mw mp mi mb mo mm md r.2.1 r.2.2.1 r.2.2.2.1 r.2.2.2.2.1 r.2.2.2.2.2.1 r.2.2.2.2.2.2.1 r.2.2.2.2.2.2.2.1 r.2.2.2.2.2.2.2.2.1 r.2.2.2.2.2.2.2.2.2.1 r.2.2.2.2.2.2.2.2.2.2.1 r.2.2.2.2.2.2.2.2.2.2.2.1) ∨ (v.1 = 0 ∧ DR 0 v.2.2.2.2.2.2.2.2.2.2.2.2.2.2.2.2.2.2.2.2.2.1 v.2.2.2.2.2.2.2.2.2.2.2.2.2.2.2.2.2.2.2.2.2.2.1 v.2.2.2.2.2.2.2.2.2.2.2.2.2.2.2.2.2.2.2.2.2.2.2.1 v.2.2.2.2.2.2.2.2.2.2.2.2.2.2.2.2.2.2.2.2.2.2.2.2.1 v.2.2.2.2.2.2.2.2.2.2.2.2.2.2.2.2.2.2.2.2.2.2.2.2.2.1 v.2.2.2.2.2.2.2.2.2.2.2.2.2.2.2.2.2.2.2.2.2.2.2.2.2.2.1 v.2.2.2.2.2.2.2.2.2.2.2.2.2.2.2.2.2.2.2.2.2.2.2.2.2.2.2.1 v.2.2.2.2.2.2.2.2.2.2.2.2.2.2.2.2.2.2.2.2.2.2.2.2.2.2.2.2.1 v.2.2.2.2.2.2.2.2.2.2.2.2.2.2.2.2.2.2.2.2.2.2.2.2.2.2.2.2.2.1 v.2.2.2.2.2.2.2.2.2.2.2.2.2.2.2.2.2.2.2.2.2.2.2.2.2.2.2.2.2.2.1 v.2.2.2.2.2.2.2.2.2.2.2.2.2.2.2.2.2.2.2.2.2.2.2.2.2.2.2.2.2.2.2.1 v.2.2.2.2.2.2.2.2.2.2.2.2.2.2.2.2.2.2.2.2.2.2.2.2.2.2.2.2.2.2.2.2 r.2.1 r.2.2.1 r.2.2.2.1 r.2.2.2.2.1 r.2.2.2.2.2.1 r.2.2.2.2.2.2.1 r.2.2.2.2.2.2.2.1 r.2.2.2.2.2.2.2.2.1 r.2.2.2.2.2.2.2.2.2.1 r.2.2.2.2.2.2.2.2.2.2.1 r.2.2.2.2.2.2.2.2.2.2.2.1)) := by
  obtain ⟨a1, a2, a3, a4, a5, a6, a7, a8, a9, a10, a11, a12⟩ := id hR.1
  have hx : ¬ 1500 < x3 := by rw [zlt, z1500]; omega
  have w1 : fX0_isWhole size depth = some 1 := by rw [cwhole, if_pos hw]
  have w2 : fX7_isWhole mi md 1 = some 1 := by have h := rwhole (mi := mi) (md := md) (d := 1) (by omega); rw [nI1, a1, a3, if_pos hw] at h; exact h
  by_cases ha : ls ≤ at_
  · obtain ⟨v, e1, e2⟩ := hold hR hw.2
    rw [d_whole0 hx w1 ha, r_whole0 w2 ha e1]
    exact ⟨_, _, rfl, rfl, rfl, Or.inr ⟨rfl, e2⟩⟩
  · obtain ⟨v, e1, e2⟩ := d_whole8 (f := f) (flags := nI k) (fa := fa) (first := first) (kd := kd) (nu := nu) (fm := fm) (st := st) (le := le) (to := to) (ov := ov) (lc := lc) (ni := ni) (nc := nc) (nh := nh) (nz := nz) (ti := ti) (tc := tc) (th := th) (tz0 := tz0) (kinds := kinds) (starts := starts) (lengths := lengths) (depths := depths) (numbers := numbers) (b_cells := b_cells) (b_size := b_size) (b_tooLong := b_tooLong) (openKinds := openKinds) (named := named) hx w1 ha
    rw [e1, r_whole8 w2 ha]
    exact ⟨_, _, rfl, rfl, rfl, Or.inl ⟨by rw [e2]; decide, FR.refl⟩⟩
set_option maxHeartbeats 4000000 in
theorem rd_stop (hR : DR 1 kinds starts lengths depths numbers b_cells b_size b_tooLong openKinds size depth named mk mn ms ml mw mp mi mb mo mm md) {k fr : Nat} (hx3 : x3.toInt = size.toInt) (hw : ¬ (0 < size.toInt ∧ depth.toInt = 0)) (he : at_ = ls) (h0 : 0 ≤ ls.toInt) (h2 : ls.toInt ≤ 6000) : ∃ v r, bX1_decode_47 (f + 1 + 1) (nI k) at_ 0 fa first kd nu fm st le to ov ni nc nh nz ti tc th tz0 lc ls kinds starts lengths depths numbers b_cells b_size b_tooLong openKinds size depth named x3 = some v ∧ bX7_read_38 (fr + 1 + 1) lm mk mn ms ml mw mp mi mb mo mm md tb tz ls at_ (nI k) 0 pl first2 gt = some r ∧ r.2.2.2.2.2.2.2.2.2.2.2.2.2.2.1 = 0 ∧ ((v.1 ≠ 0 ∧ FR mk mn ms ml mw mp mi mb mo mm md r.2.1 r.2.2.1 r.2.2.2.1 r.2.2.2.2.1 r.2.2.2.2.2.1 r.2.2.2.2.2.2.1 r.2.2.2.2.2.2.2.1 r.2.2.2.2.2.2.2.2.1 r.2.2.2.2.2.2.2.2.2.1 r.2.2.2.2.2.2.2.2.2.2.1 r.2.2.2.2.2.2.2.2.2.2.2.1) ∨ (v.1 = 0 ∧ DR 0 v.2.2.2.2.2.2.2.2.2.2.2.2.2.2.2.2.2.2.2.2.2.1 v.2.2.2.2.2.2.2.2.2.2.2.2.2.2.2.2.2.2.2.2.2.2.1 v.2.2.2.2.2.2.2.2.2.2.2.2.2.2.2.2.2.2.2.2.2.2.2.1 v.2.2.2.2.2.2.2.2.2.2.2.2.2.2.2.2.2.2.2.2.2.2.2.2.1 v.2.2.2.2.2.2.2.2.2.2.2.2.2.2.2.2.2.2.2.2.2.2.2.2.2.1 v.2.2.2.2.2.2.2.2.2.2.2.2.2.2.2.2.2.2.2.2.2.2.2.2.2.2.1 v.2.2.2.2.2.2.2.2.2.2.2.2.2.2.2.2.2.2.2.2.2.2.2.2.2.2.2.1 v.2.2.2.2.2.2.2.2.2.2.2.2.2.2.2.2.2.2.2.2.2.2.2.2.2.2.2.2.1 v.2.2.2.2.2.2.2.2.2.2.2.2.2.2.2.2.2.2.2.2.2.2.2.2.2.2.2.2.2.1 v.2.2.2.2.2.2.2.2.2.2.2.2.2.2.2.2.2.2.2.2.2.2.2.2.2.2.2.2.2.2.1 v.2.2.2.2.2.2.2.2.2.2.2.2.2.2.2.2.2.2.2.2.2.2.2.2.2.2.2.2.2.2.2.1 v.2.2.2.2.2.2.2.2.2.2.2.2.2.2.2.2.2.2.2.2.2.2.2.2.2.2.2.2.2.2.2.2 r.2.1 r.2.2.1 r.2.2.2.1 r.2.2.2.2.1 r.2.2.2.2.2.1 r.2.2.2.2.2.2.1 r.2.2.2.2.2.2.2.1 r.2.2.2.2.2.2.2.2.1 r.2.2.2.2.2.2.2.2.2.1 r.2.2.2.2.2.2.2.2.2.2.1 r.2.2.2.2.2.2.2.2.2.2.2.1)) := by
  obtain ⟨a1, a2, a3, a4, a5, a6, a7, a8, a9, a10, a11, a12⟩ := id hR.1
  have hx : ¬ 1500 < x3 := by rw [zlt, z1500]; omega
  have w1 : fX0_isWhole size depth = some 0 := by rw [cwhole, if_neg hw]
  have w2 : fX7_isWhole mi md 1 = some 0 := by have h := rwhole (mi := mi) (md := md) (d := 1) (by omega); rw [nI1, a1, a3, if_neg hw] at h; exact h
  have hb : fX1_take at_ 0 fa lc ls = some (-1, at_, 2, at_) := ctake_end he h0 h2
  obtain ⟨rc, c1, c2⟩ := cacc_name (openKinds := openKinds) (size := size) (depth := depth) (named := named) a9 a10
  rw [rstep_e w2 he, r_fault (by decide)]
  by_cases g : rc = 0
  · obtain ⟨v17, k1⟩ := kfault (fl := 2) (at_ := at_) (kd := 3) (nu := 0) (fm := 0) (st := st) (le := 0) (to := -1) (ni := ni) (nc := nc) (nh := nh) (nz := nz) (ti := ti) (tc := tc) (th := th) (tz0 := tz0) (lc := lc) (ls := ls) (kinds := kinds) (starts := starts) (lengths := lengths) (depths := depths) (numbers := numbers) (b_cells := b_cells) (b_size := b_size) (b_tooLong := b_tooLong) (openKinds := openKinds) (size := size) (depth := depth) (named := named) (by decide) (nI k)
    rw [dstep_v hx w1 hb c1 g (ce_value k (by decide)) (jfault (by decide)) k1]
    obtain ⟨v, e1, e2⟩ := d_fault (f := f) (flags := nI k) (at_ := at_) (fl := 2) (fa := at_) (first := at_) (kd := 3) (nu := 0) (fm := 0) (st := st) (le := 0) (to := -1) (ov := 0) (lc := lc) (ls := ls) (ni := v17.1) (nc := v17.2.1) (nh := v17.2.2.1) (nz := v17.2.2.2.1) (ti := v17.2.2.2.2.1) (tc := v17.2.2.2.2.2.1) (th := v17.2.2.2.2.2.2.1) (tz0 := v17.2.2.2.2.2.2.2.1) (kinds := v17.2.2.2.2.2.2.2.2.1) (starts := v17.2.2.2.2.2.2.2.2.2.1) (lengths := v17.2.2.2.2.2.2.2.2.2.2.1) (depths := v17.2.2.2.2.2.2.2.2.2.2.2.1) (numbers := v17.2.2.2.2.2.2.2.2.2.2.2.2.1) (b_cells := v17.2.2.2.2.2.2.2.2.2.2.2.2.2.1) (b_size := v17.2.2.2.2.2.2.2.2.2.2.2.2.2.2.1) (b_tooLong := v17.2.2.2.2.2.2.2.2.2.2.2.2.2.2.2.1) (openKinds := v17.2.2.2.2.2.2.2.2.2.2.2.2.2.2.2.2.1) (size := v17.2.2.2.2.2.2.2.2.2.2.2.2.2.2.2.2.2.1) (depth := v17.2.2.2.2.2.2.2.2.2.2.2.2.2.2.2.2.2.2.1) (named := v17.2.2.2.2.2.2.2.2.2.2.2.2.2.2.2.2.2.2.2) (x3 := x3 + 1) (by decide)
    exact ⟨v, _, e1, rfl, rfl, Or.inl ⟨by rw [e2]; decide, FR.refl⟩⟩
  · obtain ⟨v17, k1⟩ := kfault (fl := 2) (at_ := at_) (kd := 10) (nu := 0) (fm := 0) (st := st) (le := 0) (to := -1) (ni := ni) (nc := nc) (nh := nh) (nz := nz) (ti := ti) (tc := tc) (th := th) (tz0 := tz0) (lc := lc) (ls := ls) (kinds := kinds) (starts := starts) (lengths := lengths) (depths := depths) (numbers := numbers) (b_cells := b_cells) (b_size := b_size) (b_tooLong := b_tooLong) (openKinds := openKinds) (size := size) (depth := depth) (named := named) (by decide) (nI k)
    rw [dstep_n hx w1 hb c1 g (ce_name k (by decide)) (jfault (by decide)) k1]
    obtain ⟨v, e1, e2⟩ := d_fault (f := f) (flags := nI k) (at_ := at_) (fl := 2) (fa := at_) (first := at_) (kd := 10) (nu := 0) (fm := 0) (st := st) (le := 0) (to := -1) (ov := 0) (lc := lc) (ls := ls) (ni := v17.1) (nc := v17.2.1) (nh := v17.2.2.1) (nz := v17.2.2.2.1) (ti := v17.2.2.2.2.1) (tc := v17.2.2.2.2.2.1) (th := v17.2.2.2.2.2.2.1) (tz0 := v17.2.2.2.2.2.2.2.1) (kinds := v17.2.2.2.2.2.2.2.2.1) (starts := v17.2.2.2.2.2.2.2.2.2.1) (lengths := v17.2.2.2.2.2.2.2.2.2.2.1) (depths := v17.2.2.2.2.2.2.2.2.2.2.2.1) (numbers := v17.2.2.2.2.2.2.2.2.2.2.2.2.1) (b_cells := v17.2.2.2.2.2.2.2.2.2.2.2.2.2.1) (b_size := v17.2.2.2.2.2.2.2.2.2.2.2.2.2.2.1) (b_tooLong := v17.2.2.2.2.2.2.2.2.2.2.2.2.2.2.2.1) (openKinds := v17.2.2.2.2.2.2.2.2.2.2.2.2.2.2.2.2.1) (size := v17.2.2.2.2.2.2.2.2.2.2.2.2.2.2.2.2.2.1) (depth := v17.2.2.2.2.2.2.2.2.2.2.2.2.2.2.2.2.2.2.1) (named := v17.2.2.2.2.2.2.2.2.2.2.2.2.2.2.2.2.2.2.2) (x3 := x3 + 1) (by decide)
    exact ⟨v, _, e1, rfl, rfl, Or.inl ⟨by rw [e2]; decide, FR.refl⟩⟩
set_option maxHeartbeats 16000000 in
theorem rd_loop {k : Nat} (hk : k < 8) (h2 : ls.toInt ≤ 6000) (hl : 0 ≤ ls.toInt) (hcl : ∀ j : Nat, (j : Int) < ls.toInt → lm j = lc j ∧ b8 (lc j) = lc j) : ∀ (n fuel fr : Nat) (at_ fa first kd : Int32) (nu : Int64) (fm st le to ov : Int32) (ni nc nh : Nat → Int32) (nz : Int32) (ti tc th : Nat → Int32) (tz0 : Int32) (kinds starts lengths depths : Nat → Int32) (numbers : Nat → Int64) (b_cells : Nat → Int32) (b_size b_tooLong : Int32) (openKinds : Nat → Int32) (size depth named x3 : Int32) (mk : Nat → Int32) (mn : Nat → Int64) (ms ml mw mp mi mb mo mm md tb tz : Nat → Int32) (pl first2 gt : Int32), n + 1 < fuel → n + 1 < fr → DR 1 kinds starts lengths depths numbers b_cells b_size b_tooLong openKinds size depth named mk mn ms ml mw mp mi mb mo mm md → RT 0 size ni nz tb tz → RT 1 size ti tz0 tb tz → 0 ≤ at_.toInt → at_.toInt ≤ ls.toInt → ls.toInt - at_.toInt ≤ n → x3.toInt = size.toInt → ∃ v r, bX1_decode_47 fuel (nI k) at_ 0 fa first kd nu fm st le to ov ni nc nh nz ti tc th tz0 lc ls kinds starts lengths depths numbers b_cells b_size b_tooLong openKinds size depth named x3 = some v ∧ bX7_read_38 fr lm mk mn ms ml mw mp mi mb mo mm md tb tz ls at_ (nI k) 0 pl first2 gt = some r ∧ r.2.2.2.2.2.2.2.2.2.2.2.2.2.2.1 = 0 ∧ ((v.1 ≠ 0 ∧ FR mk mn ms ml mw mp mi mb mo mm md r.2.1 r.2.2.1 r.2.2.2.1 r.2.2.2.2.1 r.2.2.2.2.2.1 r.2.2.2.2.2.2.1 r.2.2.2.2.2.2.2.1 r.2.2.2.2.2.2.2.2.1 r.2.2.2.2.2.2.2.2.2.1 r.2.2.2.2.2.2.2.2.2.2.1 r.2.2.2.2.2.2.2.2.2.2.2.1) ∨ (v.1 = 0 ∧ DR 0 v.2.2.2.2.2.2.2.2.2.2.2.2.2.2.2.2.2.2.2.2.2.1 v.2.2.2.2.2.2.2.2.2.2.2.2.2.2.2.2.2.2.2.2.2.2.1 v.2.2.2.2.2.2.2.2.2.2.2.2.2.2.2.2.2.2.2.2.2.2.2.1 v.2.2.2.2.2.2.2.2.2.2.2.2.2.2.2.2.2.2.2.2.2.2.2.2.1 v.2.2.2.2.2.2.2.2.2.2.2.2.2.2.2.2.2.2.2.2.2.2.2.2.2.1 v.2.2.2.2.2.2.2.2.2.2.2.2.2.2.2.2.2.2.2.2.2.2.2.2.2.2.1 v.2.2.2.2.2.2.2.2.2.2.2.2.2.2.2.2.2.2.2.2.2.2.2.2.2.2.2.1 v.2.2.2.2.2.2.2.2.2.2.2.2.2.2.2.2.2.2.2.2.2.2.2.2.2.2.2.2.1 v.2.2.2.2.2.2.2.2.2.2.2.2.2.2.2.2.2.2.2.2.2.2.2.2.2.2.2.2.2.1 v.2.2.2.2.2.2.2.2.2.2.2.2.2.2.2.2.2.2.2.2.2.2.2.2.2.2.2.2.2.2.1 v.2.2.2.2.2.2.2.2.2.2.2.2.2.2.2.2.2.2.2.2.2.2.2.2.2.2.2.2.2.2.2.1 v.2.2.2.2.2.2.2.2.2.2.2.2.2.2.2.2.2.2.2.2.2.2.2.2.2.2.2.2.2.2.2.2 r.2.1 r.2.2.1 r.2.2.2.1 r.2.2.2.2.1 r.2.2.2.2.2.1 r.2.2.2.2.2.2.1 r.2.2.2.2.2.2.2.1 r.2.2.2.2.2.2.2.2.1 r.2.2.2.2.2.2.2.2.2.1 r.2.2.2.2.2.2.2.2.2.2.1 r.2.2.2.2.2.2.2.2.2.2.2.1)) := by
  intro n
  induction n with
  | zero =>
    intro fuel fr at_ fa first kd nu fm st le to ov ni nc nh nz ti tc th tz0 kinds starts lengths depths numbers b_cells b_size b_tooLong openKinds size depth named x3 mk mn ms ml mw mp mi mb mo mm md tb tz pl first2 gt hf hfr hR hN hT h0 h1 hn hx3
    obtain ⟨f, rfl⟩ : ∃ f, fuel = f + 1 + 1 := ⟨fuel - 2, by omega⟩
    obtain ⟨fr, rfl⟩ : ∃ g, fr = g + 1 + 1 := ⟨fr - 2, by omega⟩
    by_cases hw : 0 < size.toInt ∧ depth.toInt = 0
    · exact rd_whole hR hx3 hw
    · exact rd_stop hR hx3 hw (zeq.mpr (by omega)) hl h2
  | succ n ih =>
    intro fuel fr at_ fa first kd nu fm st le to ov ni nc nh nz ti tc th tz0 kinds starts lengths depths numbers b_cells b_size b_tooLong openKinds size depth named x3 mk mn ms ml mw mp mi mb mo mm md tb tz pl first2 gt hf hfr hR hN hT h0 h1 hn hx3
    by_cases hw : 0 < size.toInt ∧ depth.toInt = 0
    · obtain ⟨f, rfl⟩ : ∃ f, fuel = f + 1 + 1 := ⟨fuel - 2, by omega⟩
      obtain ⟨fr, rfl⟩ : ∃ g, fr = g + 1 + 1 := ⟨fr - 2, by omega⟩
      exact rd_whole hR hx3 hw
    by_cases he : at_ = ls
    · obtain ⟨f, rfl⟩ : ∃ f, fuel = f + 1 + 1 := ⟨fuel - 2, by omega⟩
      obtain ⟨fr, rfl⟩ : ∃ g, fr = g + 1 + 1 := ⟨fr - 2, by omega⟩
      exact rd_stop hR hx3 hw he hl h2
    obtain ⟨f, rfl⟩ : ∃ f, fuel = f + 1 := ⟨fuel - 1, by omega⟩
    obtain ⟨fr, rfl⟩ : ∃ g, fr = g + 1 := ⟨fr - 1, by omega⟩
    have hat : at_.toInt < ls.toInt := by
      have : at_.toInt ≠ ls.toInt := fun h => he (zeq.mpr h)
      omega
    obtain ⟨a1, a2, a3, a4, a5, a6, a7, a8, a9, a10, a11, a12⟩ := id hR.1
    have hx : ¬ 1500 < x3 := by rw [zlt, z1500]; omega
    have ex : (x3 + 1).toInt = x3.toInt + 1 := by rw [zadd (by rw [z1]; omega) (by rw [z1]; omega), z1]
    have ea : (at_ + 1).toInt = at_.toInt + 1 := by rw [zadd (by rw [z1]; omega) (by rw [z1]; omega), z1]
    have w1 : fX0_isWhole size depth = some 0 := by rw [cwhole, if_neg hw]
    have w2 : fX7_isWhole mi md 1 = some 0 := by have h := rwhole (mi := mi) (md := md) (d := 1) (by omega); rw [nI1, a1, a3, if_neg hw] at h; exact h
    have hb : fX1_take at_ 0 fa lc ls = some (lc at_.toInt.toNat &&& 255, at_ + 1, 0, fa) := ctake_ok h0 hat h2
    have hbe : lm at_.toInt.toNat &&& 255 = lc at_.toInt.toNat &&& 255 := by rw [(hcl at_.toInt.toNat (by omega)).1]
    have hbv := byv (lc at_.toInt.toNat)
    obtain ⟨rc, c1, c2⟩ := cacc_name (openKinds := openKinds) (size := size) (depth := depth) (named := named) a9 a10
    obtain ⟨rr, d1, d2⟩ := rwants (mo := mo) (mm := mm) (md := md) (d := 1) (by omega) (by rw [a3]; exact a9) (by rw [a3]; exact a10)
    rw [nI1] at d1
    rw [a3] at d2
    have hnr := nmc_ref hR.2.2.2.1 a9 a10
    by_cases hnm : nmc openKinds depth named
    · obtain ⟨at', f', fa', kd', fm', st', le', to', v16, v17, r, s1, s2, s3, s4, s5⟩ := rd_name (at_ := at_ + 1) (at0 := at_) (first := at_) (fa := fa) (pl := pl) (lc := lc) (lm := lm) (ls := ls) (nc := nc) (nh := nh) (tc := tc) (th := th) (kd0 := kd) (st0 := st) (s := lc at_.toInt.toNat &&& 255) hR hN hT hk (by omega) (by omega) (by omega) h2 hcl hnm hbv.1 hbv.2
      rw [dstep_n hx w1 hb c1 (fun h => (c2.mp h) hnm) s1 s2 s3, rstep_n w2 h0 hat h2 d1 (fun h => (d2.mp h) (hnr.mp hnm)) hbe s4]
      rcases s5 with ⟨fr1, ⟨q1, q2⟩ | ⟨q1, q2, q3, q4, q5, q6, q7, q8, q9⟩⟩
      · obtain ⟨f3, rfl⟩ : ∃ f3, f = f3 + 1 := ⟨f - 1, by omega⟩
        obtain ⟨fr3, rfl⟩ : ∃ fr3, fr = fr3 + 1 := ⟨fr - 1, by omega⟩
        obtain ⟨v, e1, e2⟩ := d_fault (f := f3) (flags := nI k) (at_ := at') (fl := v16.1) (fa := v16.2.1) (first := at_) (kd := kd') (nu := 0) (fm := fm') (st := st') (le := v16.2.2.1) (to := v16.2.2.2) (ov := 0) (lc := lc) (ls := ls) (ni := v17.1) (nc := v17.2.1) (nh := v17.2.2.1) (nz := v17.2.2.2.1) (ti := v17.2.2.2.2.1) (tc := v17.2.2.2.2.2.1) (th := v17.2.2.2.2.2.2.1) (tz0 := v17.2.2.2.2.2.2.2.1) (kinds := v17.2.2.2.2.2.2.2.2.1) (starts := v17.2.2.2.2.2.2.2.2.2.1) (lengths := v17.2.2.2.2.2.2.2.2.2.2.1) (depths := v17.2.2.2.2.2.2.2.2.2.2.2.1) (numbers := v17.2.2.2.2.2.2.2.2.2.2.2.2.1) (b_cells := v17.2.2.2.2.2.2.2.2.2.2.2.2.2.1) (b_size := v17.2.2.2.2.2.2.2.2.2.2.2.2.2.2.1) (b_tooLong := v17.2.2.2.2.2.2.2.2.2.2.2.2.2.2.2.1) (openKinds := v17.2.2.2.2.2.2.2.2.2.2.2.2.2.2.2.2.1) (size := v17.2.2.2.2.2.2.2.2.2.2.2.2.2.2.2.2.2.1) (depth := v17.2.2.2.2.2.2.2.2.2.2.2.2.2.2.2.2.2.2.1) (named := v17.2.2.2.2.2.2.2.2.2.2.2.2.2.2.2.2.2.2.2) (x3 := x3 + 1) q1
        rw [e1, r_fault (fun h => by rw [h, z0] at q2; omega)]
        exact ⟨v, _, rfl, rfl, rfl, Or.inl ⟨by rw [e2]; exact q1, fr1⟩⟩
      · rw [q1, q2, q3]
        obtain ⟨v, r', e1, e2, e3, e4⟩ := ih f fr at' v16.2.1 at_ kd' 0 fm' st' v16.2.2.1 v16.2.2.2 0 v17.1 v17.2.1 v17.2.2.1 v17.2.2.2.1 v17.2.2.2.2.1 v17.2.2.2.2.2.1 v17.2.2.2.2.2.2.1 v17.2.2.2.2.2.2.2.1 v17.2.2.2.2.2.2.2.2.1 v17.2.2.2.2.2.2.2.2.2.1 v17.2.2.2.2.2.2.2.2.2.2.1 v17.2.2.2.2.2.2.2.2.2.2.2.1 v17.2.2.2.2.2.2.2.2.2.2.2.2.1 v17.2.2.2.2.2.2.2.2.2.2.2.2.2.1 v17.2.2.2.2.2.2.2.2.2.2.2.2.2.2.1 v17.2.2.2.2.2.2.2.2.2.2.2.2.2.2.2.1 v17.2.2.2.2.2.2.2.2.2.2.2.2.2.2.2.2.1 v17.2.2.2.2.2.2.2.2.2.2.2.2.2.2.2.2.2.1 v17.2.2.2.2.2.2.2.2.2.2.2.2.2.2.2.2.2.2.1 v17.2.2.2.2.2.2.2.2.2.2.2.2.2.2.2.2.2.2.2 (x3 + 1) r.1 r.2.1 r.2.2.1 r.2.2.2.1 r.2.2.2.2.1 r.2.2.2.2.2.1 r.2.2.2.2.2.2.1 r.2.2.2.2.2.2.2.1 r.2.2.2.2.2.2.2.2.1 r.2.2.2.2.2.2.2.2.2.1 r.2.2.2.2.2.2.2.2.2.2.1 r.2.2.2.2.2.2.2.2.2.2.2.1 r.2.2.2.2.2.2.2.2.2.2.2.2.1 r.2.2.2.2.2.2.2.2.2.2.2.2.2.2.2.1 at_ r.2.2.2.2.2.2.2.2.2.2.2.2.2.2.2.2 (by omega) (by omega) q6 q7 q8 (by omega) q5 (by omega) (by rw [ex]; omega)
        refine ⟨v, r', e1, e2, e3, ?_⟩
        rcases e4 with ⟨y1, y2⟩ | ⟨y1, y2⟩
        · exact Or.inl ⟨y1, fr1.trans y2⟩
        · exact Or.inr ⟨y1, y2⟩
    · obtain ⟨at', f', fa', kd', nu', fm', st', le', to', ov', v16, v17, r, s1, s2, s3, s4, s5⟩ := rd_value (at_ := at_ + 1) (at0 := at_) (first := at_) (fa := fa) (pl := pl) (lc := lc) (lm := lm) (ls := ls) (nc := nc) (nh := nh) (tc := tc) (th := th) (kd0 := kd) (st0 := st) (s := lc at_.toInt.toNat &&& 255) hR hN hT hk (by omega) (by omega) (by omega) h2 hcl hw hbv.1 hbv.2
      rw [dstep_v hx w1 hb c1 (c2.mpr hnm) s1 s2 s3, rstep_v w2 h0 hat h2 d1 (d2.mpr (fun h => hnm (hnr.mpr h))) hbe s4]
      rcases s5 with ⟨fr1, ⟨q1, q2⟩ | ⟨q1, q2, q3, q4, q5, q6, q7, q8, q9⟩⟩
      · obtain ⟨f3, rfl⟩ : ∃ f3, f = f3 + 1 := ⟨f - 1, by omega⟩
        obtain ⟨fr3, rfl⟩ : ∃ fr3, fr = fr3 + 1 := ⟨fr - 1, by omega⟩
        obtain ⟨v, e1, e2⟩ := d_fault (f := f3) (flags := nI k) (at_ := at') (fl := v16.1) (fa := v16.2.1) (first := at_) (kd := kd') (nu := nu') (fm := fm') (st := st') (le := v16.2.2.1) (to := v16.2.2.2) (ov := ov') (lc := lc) (ls := ls) (ni := v17.1) (nc := v17.2.1) (nh := v17.2.2.1) (nz := v17.2.2.2.1) (ti := v17.2.2.2.2.1) (tc := v17.2.2.2.2.2.1) (th := v17.2.2.2.2.2.2.1) (tz0 := v17.2.2.2.2.2.2.2.1) (kinds := v17.2.2.2.2.2.2.2.2.1) (starts := v17.2.2.2.2.2.2.2.2.2.1) (lengths := v17.2.2.2.2.2.2.2.2.2.2.1) (depths := v17.2.2.2.2.2.2.2.2.2.2.2.1) (numbers := v17.2.2.2.2.2.2.2.2.2.2.2.2.1) (b_cells := v17.2.2.2.2.2.2.2.2.2.2.2.2.2.1) (b_size := v17.2.2.2.2.2.2.2.2.2.2.2.2.2.2.1) (b_tooLong := v17.2.2.2.2.2.2.2.2.2.2.2.2.2.2.2.1) (openKinds := v17.2.2.2.2.2.2.2.2.2.2.2.2.2.2.2.2.1) (size := v17.2.2.2.2.2.2.2.2.2.2.2.2.2.2.2.2.2.1) (depth := v17.2.2.2.2.2.2.2.2.2.2.2.2.2.2.2.2.2.2.1) (named := v17.2.2.2.2.2.2.2.2.2.2.2.2.2.2.2.2.2.2.2) (x3 := x3 + 1) q1
        rw [e1, r_fault (fun h => by rw [h, z0] at q2; omega)]
        exact ⟨v, _, rfl, rfl, rfl, Or.inl ⟨by rw [e2]; exact q1, fr1⟩⟩
      · rw [q1, q2, q3]
        obtain ⟨v, r', e1, e2, e3, e4⟩ := ih f fr at' v16.2.1 at_ kd' nu' fm' st' v16.2.2.1 v16.2.2.2 ov' v17.1 v17.2.1 v17.2.2.1 v17.2.2.2.1 v17.2.2.2.2.1 v17.2.2.2.2.2.1 v17.2.2.2.2.2.2.1 v17.2.2.2.2.2.2.2.1 v17.2.2.2.2.2.2.2.2.1 v17.2.2.2.2.2.2.2.2.2.1 v17.2.2.2.2.2.2.2.2.2.2.1 v17.2.2.2.2.2.2.2.2.2.2.2.1 v17.2.2.2.2.2.2.2.2.2.2.2.2.1 v17.2.2.2.2.2.2.2.2.2.2.2.2.2.1 v17.2.2.2.2.2.2.2.2.2.2.2.2.2.2.1 v17.2.2.2.2.2.2.2.2.2.2.2.2.2.2.2.1 v17.2.2.2.2.2.2.2.2.2.2.2.2.2.2.2.2.1 v17.2.2.2.2.2.2.2.2.2.2.2.2.2.2.2.2.2.1 v17.2.2.2.2.2.2.2.2.2.2.2.2.2.2.2.2.2.2.1 v17.2.2.2.2.2.2.2.2.2.2.2.2.2.2.2.2.2.2.2 (x3 + 1) r.1 r.2.1 r.2.2.1 r.2.2.2.1 r.2.2.2.2.1 r.2.2.2.2.2.1 r.2.2.2.2.2.2.1 r.2.2.2.2.2.2.2.1 r.2.2.2.2.2.2.2.2.1 r.2.2.2.2.2.2.2.2.2.1 r.2.2.2.2.2.2.2.2.2.2.1 r.2.2.2.2.2.2.2.2.2.2.2.1 r.2.2.2.2.2.2.2.2.2.2.2.2.1 r.2.2.2.2.2.2.2.2.2.2.2.2.2.2.2.1 at_ r.2.2.2.2.2.2.2.2.2.2.2.2.2.2.2.2 (by omega) (by omega) q6 q7 q8 (by omega) q5 (by omega) (by rw [ex]; omega)
        refine ⟨v, r', e1, e2, e3, ?_⟩
        rcases e4 with ⟨y1, y2⟩ | ⟨y1, y2⟩
        · exact Or.inl ⟨y1, fr1.trans y2⟩
        · exact Or.inr ⟨y1, y2⟩
end Lo
