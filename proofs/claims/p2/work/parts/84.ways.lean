/-! the ways of a text -/
section Ways
variable {kinds starts lengths depths b_cells openKinds : Nat → Int32} {numbers : Nat → Int64} {b_size b_tooLong size depth named : Int32} {mk ms ml mw mp mi mb mo mm md : Nat → Int32} {mn : Nat → Int64} {ni nc nh ti tc th tb tz lc lm : Nat → Int32} {nz tz0 ls fa pl first kd st le to ov fl at_ : Int32} {nu : Int64} {at0 : Int32}
theorem kF4 {fl at_ st le to x fm : Int32} (k : Nat) (h : fl ≠ 0) : ∃ r, fX1_keepItem (nI k) at_ fl x 0 fm st le to ni nc nh nz ti tc th tz0 lc ls kinds starts lengths depths numbers b_cells b_size b_tooLong openKinds size depth named = some r := kfault h (nI k)
theorem gotF (mp' : Nat → Int32) {flags g f2 x y z : Int32} (hf2 : 0 < f2.toInt) : fX7_addGot mk mn ms ml mw mp' mi mb mo mm md tb tz flags f2 pl first g x y z = some (mk, mn, ms, ml, mw, mp', mi, mb, mo, mm, md, tb, tz, f2, pl) := by
  unfold fX7_addGot bX7_addGot_0
  rw [if_neg (by rw [zle, z0]; omega)]
theorem h_short (hR : DR 1 kinds starts lengths depths numbers b_cells b_size b_tooLong openKinds size depth named mk mn ms ml mw mp mi mb mo mm md) (hN : RT 0 size ni nz tb tz) (hT : RT 1 size ti tz0 tb tz) {k : Nat} (hk : k < 8) {x fm asc : Int32} (hx : x = 3 ∨ x = 10) (hok : (x = 10 → nmc openKinds depth named) ∧ (x ≠ 10 → ¬ (0 < size.toInt ∧ depth.toInt = 0))) (hf : (fm = 1 ∧ asc = 1) ∨ (fm = 2 ∧ asc = 0)) (ha : at0.toInt < at_.toInt) (h0 : 0 ≤ at_.toInt) (h1 : at_.toInt ≤ ls.toInt) (h2 : ls.toInt ≤ 6000) (hcl : ∀ j : Nat, (j : Int) < ls.toInt → lm j = lc j ∧ b8 (lc j) = lc j) (n fm0 st0 : Int32) (hn0 : 0 ≤ n.toInt) (hn1 : n.toInt ≤ 6000) : ∃ at' f' fa' le', fX1_scanShort at_ 0 fa fm0 st0 0 ls n fm = some (at', f', fa', fm, at_, le') ∧ ∃ v16 v17 r, fX1_judgeItem f' fa' first x fm at_ le' (-1) 0 ni nz ti tz0 lc ls lengths b_size size depth = some v16 ∧ fX1_keepItem (nI k) at' v16.1 x 0 fm at_ v16.2.2.1 v16.2.2.2 ni nc nh nz ti tc th tz0 lc ls kinds starts lengths depths numbers b_cells b_size b_tooLong openKinds size depth named = some v17 ∧ ((fX7_takeMany lm mp ls at_ 0 pl 0 n).bind fun v15 => ((fX7_addGot mk mn ms ml mw v15.1 mi mb mo mm md tb tz (nI k) v15.2.2.1 v15.2.2.2.1 first v15.2.2.2.2 x 1 asc).bind fun v16 => some (v16.1, v16.2.1, v16.2.2.1, v16.2.2.2.1, v16.2.2.2.2.1, v16.2.2.2.2.2.1, v16.2.2.2.2.2.2.1, v16.2.2.2.2.2.2.2.1, v16.2.2.2.2.2.2.2.2.1, v16.2.2.2.2.2.2.2.2.2.1, v16.2.2.2.2.2.2.2.2.2.2.1, v16.2.2.2.2.2.2.2.2.2.2.2.1, v16.2.2.2.2.2.2.2.2.2.2.2.2.1, v15.2.1, v16.2.2.2.2.2.2.2.2.2.2.2.2.2.1, v16.2.2.2.2.2.2.2.2.2.2.2.2.2.2, v15.2.2.2.2))) = some r ∧ ITM ls at0 size mk mn ms ml mw mp mi mb mo mm md v16.1 at' v17 r := by
  have hln : (ls - at_).toInt = ls.toInt - at_.toInt := zsub (by omega) (by omega)
  have en : (Int32.toInt64 n).toInt32 = n := by rw [zeq, Int64.toInt_toInt32, Int32.toInt_toInt64, bm32 (by omega) (by omega)]
  have hcmp : lg_cmp (Int32.toInt64 n) (Int32.toInt64 (ls - at_)) ≤ 0 ↔ n.toInt ≤ ls.toInt - at_.toInt := by
    rw [lg_cmp_le, Int64.le_iff_toInt_le, Int32.toInt_toInt64, Int32.toInt_toInt64, hln]
  obtain ⟨mp', at2, f2, pl', gt', r1, r2, r3⟩ := rmany (lm := lm) (ls := ls) h2 (fun k hk => by rw [(hcl k hk).1, (hcl k hk).2]) n mp at_.toInt h0 (ls.toInt - at_.toInt).toNat FU at_ pl 0 mp 0 (by unfold FU; omega) (by omega) (by decide) (by rw [z0]; omega) rfl (by rw [z0]; omega) ⟨fun _ _ => rfl, fun j hj => by rw [z0] at hj; omega⟩
  have hr : fX7_takeMany lm mp ls at_ 0 pl 0 n = some (mp', at2, f2, pl', gt') := r1
  unfold fX1_scanShort bX1_scanShort_0 fX1_skip bX1_skip_0 fX2_size bX2_size_0
  simp only [hr, Option.bind_some]
  rcases r3 with ⟨s1, s2, s3, s4, s5⟩ | ⟨s1, s2⟩
  · subst s2 s3
    have ea : (at_ + gt').toInt = at_.toInt + gt'.toInt := zadd (by omega) (by omega)
    have eat : at2 = at_ + gt' := zeq.mpr (by omega)
    subst eat
    rw [if_pos (hcmp.mpr (by omega)), Option.bind_some, en]
    obtain ⟨v16, v17, r2', t1, t2, t3, t4⟩ := rd_text (fa := fa) (first := first) (to := -1) (pl := pl') (at_ := at_ + gt') (at0 := at0) (st := at_) (le := gt') (nc := nc) (nh := nh) (tc := tc) (th := th) (mp' := mp') hR hN hT hk hx hok hf (by omega) (by omega) h2 hcl hn0 h0 (by omega) s5
    refine ⟨_, _, _, _, rfl, v16, v17, _, t1, t2, ?_, t4⟩
    rw [t3]; rfl
  · rw [if_neg (fun h => by have := hcmp.mp h; omega)]
    have hfl : fX1_fail 0 fa 2 ls = some (2, ls) := rfl
    simp only [hfl, Option.bind_some, gotF mp' s2]
    obtain ⟨r, k1⟩ := kF4 (fl := 2) (at_ := at_) (st := at_) (le := 0) (to := -1) (x := x) (fm := fm) (ni := ni) (nc := nc) (nh := nh) (nz := nz) (ti := ti) (tc := tc) (th := th) (tz0 := tz0) (lc := lc) (ls := ls) (kinds := kinds) (starts := starts) (lengths := lengths) (depths := depths) (numbers := numbers) (b_cells := b_cells) (b_size := b_size) (b_tooLong := b_tooLong) (openKinds := openKinds) (size := size) (depth := depth) (named := named) k (by decide)
    exact ⟨_, _, _, _, rfl, _, _, _, jfault (by decide), k1, rfl, frp r2, Or.inl ⟨(show (2 : Int32) ≠ 0 by decide), s2⟩⟩
theorem h_long (hR : DR 1 kinds starts lengths depths numbers b_cells b_size b_tooLong openKinds size depth named mk mn ms ml mw mp mi mb mo mm md) (hN : RT 0 size ni nz tb tz) (hT : RT 1 size ti tz0 tb tz) {k : Nat} (hk : k < 8) {x fm asc : Int32} (hx : x = 3 ∨ x = 10) (hok : (x = 10 → nmc openKinds depth named) ∧ (x ≠ 10 → ¬ (0 < size.toInt ∧ depth.toInt = 0))) (hf : (fm = 1 ∧ asc = 1) ∨ (fm = 2 ∧ asc = 0)) (ha : at0.toInt < at_.toInt) (h0 : 0 ≤ at_.toInt) (h1 : at_.toInt ≤ ls.toInt) (h2 : ls.toInt ≤ 6000) (hcl : ∀ j : Nat, (j : Int) < ls.toInt → lm j = lc j ∧ b8 (lc j) = lc j) (fm0 st0 : Int32) : ∃ at' f' fa' le', fX1_scanLong at_ 0 fa fm0 st0 0 lc ls fm = some (at', f', fa', fm, at_, le') ∧ ∃ v16 v17 r, fX1_judgeItem f' fa' first x fm at_ le' (-1) 0 ni nz ti tz0 lc ls lengths b_size size depth = some v16 ∧ fX1_keepItem (nI k) at' v16.1 x 0 fm at_ v16.2.2.1 v16.2.2.2 ni nc nh nz ti tc th tz0 lc ls kinds starts lengths depths numbers b_cells b_size b_tooLong openKinds size depth named = some v17 ∧ ((fX7_takeLong lm mp ls at_ 0 pl 0).bind fun v15 => ((fX7_addGot mk mn ms ml mw v15.1 mi mb mo mm md tb tz (nI k) v15.2.2.1 v15.2.2.2.1 first v15.2.2.2.2 x 1 asc).bind fun v16 => some (v16.1, v16.2.1, v16.2.2.1, v16.2.2.2.1, v16.2.2.2.2.1, v16.2.2.2.2.2.1, v16.2.2.2.2.2.2.1, v16.2.2.2.2.2.2.2.1, v16.2.2.2.2.2.2.2.2.1, v16.2.2.2.2.2.2.2.2.2.1, v16.2.2.2.2.2.2.2.2.2.2.1, v16.2.2.2.2.2.2.2.2.2.2.2.1, v16.2.2.2.2.2.2.2.2.2.2.2.2.1, v15.2.1, v16.2.2.2.2.2.2.2.2.2.2.2.2.2.1, v16.2.2.2.2.2.2.2.2.2.2.2.2.2.2, v15.2.2.2.2))) = some r ∧ ITM ls at0 size mk mn ms ml mw mp mi mb mo mm md v16.1 at' v17 r := by
  obtain ⟨at', f, fa', le', q1, mp', at2, f2, pl', gt', q2, q3, q4⟩ := rlong (lm := lm) (lc := lc) (ls := ls) h2 (fun k hk => by rw [(hcl k hk).1, (hcl k hk).2]) (fun k hk => (hcl k hk).1) mp at_.toInt h0 fm at_ rfl (ls.toInt - at_.toInt).toNat FU FU at_ pl fa 0 0 mp (by unfold FU; omega) (by unfold FU; omega) (by omega) (by decide) (by rw [z0]; omega) ⟨fun _ _ => rfl, fun j hj => by rw [z0] at hj; omega⟩
  have hr : fX7_takeLong lm mp ls at_ 0 pl 0 = some (mp', at2, f2, pl', gt') := q2
  refine ⟨at', f, fa', le', q1, ?_⟩
  rw [hr, Option.bind_some]
  dsimp only
  rcases q4 with ⟨s1, s2⟩ | ⟨s1, s2, s3, s4, s5, s6, s7, s8⟩
  · rw [gotF mp' s2]
    obtain ⟨r, k1⟩ := kF4 (fl := f) (at_ := at') (st := at_) (le := le') (to := -1) (x := x) (fm := fm) (ni := ni) (nc := nc) (nh := nh) (nz := nz) (ti := ti) (tc := tc) (th := th) (tz0 := tz0) (lc := lc) (ls := ls) (kinds := kinds) (starts := starts) (lengths := lengths) (depths := depths) (numbers := numbers) (b_cells := b_cells) (b_size := b_size) (b_tooLong := b_tooLong) (openKinds := openKinds) (size := size) (depth := depth) (named := named) k s1
    exact ⟨_, _, _, jfault s1, k1, rfl, frp q3, Or.inl ⟨s1, s2⟩⟩
  · subst s1 s2
    rw [s3, s4]
    obtain ⟨v16, v17, r2', t1, t2, t3, t4⟩ := rd_text (fa := fa') (first := first) (to := -1) (pl := pl') (at_ := at') (at0 := at0) (st := at_) (le := le') (nc := nc) (nh := nh) (tc := tc) (th := th) (mp' := mp') hR hN hT hk hx hok hf (by omega) (by omega) h2 hcl s5 h0 (by omega) s8
    refine ⟨v16, v17, _, t1, t2, ?_, t4⟩
    rw [t3]; rfl
theorem h_empty (hR : DR 1 kinds starts lengths depths numbers b_cells b_size b_tooLong openKinds size depth named mk mn ms ml mw mp mi mb mo mm md) (hN : RT 0 size ni nz tb tz) (hT : RT 1 size ti tz0 tb tz) {k : Nat} (hk : k < 8) {x fm asc : Int32} (hx : x = 3 ∨ x = 10) (hok : (x = 10 → nmc openKinds depth named) ∧ (x ≠ 10 → ¬ (0 < size.toInt ∧ depth.toInt = 0))) (hf : (fm = 1 ∧ asc = 1) ∨ (fm = 2 ∧ asc = 0)) (ha : at0.toInt < at_.toInt) (h0 : 0 ≤ at_.toInt) (h1 : at_.toInt ≤ ls.toInt) (h2 : ls.toInt ≤ 6000) (hcl : ∀ j : Nat, (j : Int) < ls.toInt → lm j = lc j ∧ b8 (lc j) = lc j) (fm0 st0 : Int32) (hf2 : fm = 2) : fX1_scanShort at_ 0 fa fm0 st0 0 ls 0 fm = some (at_, 0, fa, fm, at_, 0) ∧ ∃ v16 v17 r, fX1_judgeItem 0 fa first x fm at_ 0 (-1) 0 ni nz ti tz0 lc ls lengths b_size size depth = some v16 ∧ fX1_keepItem (nI k) at_ v16.1 x 0 fm at_ v16.2.2.1 v16.2.2.2 ni nc nh nz ti tc th tz0 lc ls kinds starts lengths depths numbers b_cells b_size b_tooLong openKinds size depth named = some v17 ∧ ((fX7_addGot mk mn ms ml mw mp mi mb mo mm md tb tz (nI k) 0 pl first 0 x 1 asc).bind fun v16 => some (v16.1, v16.2.1, v16.2.2.1, v16.2.2.2.1, v16.2.2.2.2.1, v16.2.2.2.2.2.1, v16.2.2.2.2.2.2.1, v16.2.2.2.2.2.2.2.1, v16.2.2.2.2.2.2.2.2.1, v16.2.2.2.2.2.2.2.2.2.1, v16.2.2.2.2.2.2.2.2.2.2.1, v16.2.2.2.2.2.2.2.2.2.2.2.1, v16.2.2.2.2.2.2.2.2.2.2.2.2.1, at_, v16.2.2.2.2.2.2.2.2.2.2.2.2.2.1, v16.2.2.2.2.2.2.2.2.2.2.2.2.2.2, 0)) = some r ∧ ITM ls at0 size mk mn ms ml mw mp mi mb mo mm md v16.1 at_ v17 r := by
  have hln : (ls - at_).toInt = ls.toInt - at_.toInt := zsub (by omega) (by omega)
  have hcmp : lg_cmp (Int32.toInt64 0) (Int32.toInt64 (ls - at_)) ≤ 0 := by
    rw [lg_cmp_le, Int64.le_iff_toInt_le, Int32.toInt_toInt64, Int32.toInt_toInt64, hln, z0]; omega
  constructor
  · unfold fX1_scanShort bX1_scanShort_0 fX1_skip bX1_skip_0 fX2_size bX2_size_0
    rw [Option.bind_some, if_pos hcmp, Option.bind_some]
    rw [show (Int32.toInt64 0).toInt32 = 0 by decide, Int32.add_zero]
  · obtain ⟨v16, v17, r2', t1, t2, t3, t4⟩ := rd_text (fa := fa) (first := first) (to := -1) (pl := pl) (at_ := at_) (at0 := at0) (st := at_) (le := 0) (nc := nc) (nh := nh) (tc := tc) (th := th) (mp' := mp) hR hN hT hk hx hok hf ha h1 h2 hcl (by decide) h0 (by rw [z0]; omega) ⟨fun _ _ => rfl, fun j hj => by rw [z0] at hj; omega⟩
    refine ⟨v16, v17, _, t1, t2, ?_, t4⟩
    rw [t3]; rfl
theorem fail3 {c : Int32} : fX1_refuseByte at_ 0 fa = some (3, at_ - 1) ∧ fX7_fail 0 pl 3 first = some (3, first) := ⟨rfl, rfl⟩
/-- a place of one byte, of two -/
theorem h_told (hR : DR 1 kinds starts lengths depths numbers b_cells b_size b_tooLong openKinds size depth named mk mn ms ml mw mp mi mb mo mm md) (hN : RT 0 size ni nz tb tz) (hT : RT 1 size ti tz0 tb tz) (k : Nat) {x p : Int32} {t : Nat} (hx : (x = 3 ∧ t = 1) ∨ (x = 10 ∧ t = 0)) (hok : (x = 10 → nmc openKinds depth named) ∧ (x ≠ 10 → ¬ (0 < size.toInt ∧ depth.toInt = 0))) (ha : at0.toInt < at_.toInt) (h1 : at_.toInt ≤ ls.toInt) (hp0 : 0 ≤ p.toInt) (hp1 : p.toInt < 1024) (st0 : Int32) : ∃ v16 v17 r, fX1_judgeItem 0 fa first x 3 st0 0 p 0 ni nz ti tz0 lc ls lengths b_size size depth = some v16 ∧ fX1_keepItem (nI k) at_ v16.1 x 0 3 st0 v16.2.2.1 v16.2.2.2 ni nc nh nz ti tc th tz0 lc ls kinds starts lengths depths numbers b_cells b_size b_tooLong openKinds size depth named = some v17 ∧ ((fX7_addPlaced mk mn ms ml mw mp mi mb mo mm md tb tz 0 pl first 0 x (nI t) p).bind fun v19 => some (v19.1, v19.2.1, v19.2.2.1, v19.2.2.2.1, v19.2.2.2.2.1, v19.2.2.2.2.2.1, v19.2.2.2.2.2.2.1, v19.2.2.2.2.2.2.2.1, v19.2.2.2.2.2.2.2.2.1, v19.2.2.2.2.2.2.2.2.2.1, v19.2.2.2.2.2.2.2.2.2.2.1, tb, tz, at_, v19.2.2.2.2.2.2.2.2.2.2.2.1, v19.2.2.2.2.2.2.2.2.2.2.2.2.1, v19.2.2.2.2.2.2.2.2.2.2.2.2.2)) = some r ∧ ITM ls at0 size mk mn ms ml mw mp mi mb mo mm md v16.1 at_ v17 r := by
  obtain ⟨v16, v17, r2', t1, t2, t3, t4⟩ := rd_told (fa := fa) (first := first) (to := p) (pl := pl) (at_ := at_) (at0 := at0) (st := st0) (le := 0) (lc := lc) (nc := nc) (nh := nh) (tc := tc) (th := th) hR hN hT (nI k) hx hok ha h1 hp0 hp1
  refine ⟨v16, v17, _, t1, t2, ?_, t4⟩
  rw [t3]; rfl
end Ways
