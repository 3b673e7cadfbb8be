section Vr
variable {kinds starts lengths depths b_cells openKinds : Nat → Int32} {numbers : Nat → Int64} {b_size b_tooLong size depth named : Int32} {mk ms ml mw mp mi mb mo mm md : Nat → Int32} {mn : Nat → Int64} {ni nc nh ti tc th tb tz lc lm : Nat → Int32} {nz tz0 ls fa pl first kd st le to ov fl at_ : Int32} {nu : Int64} {at0 s kd0 st0 : Int32}
set_option maxHeartbeats 4000000 in
theorem rd_v253 (hR : DR 1 kinds starts lengths depths numbers b_cells b_size b_tooLong openKinds size depth named mk mn ms ml mw mp mi mb mo mm md) (hN : RT 0 size ni nz tb tz) (hT : RT 1 size ti tz0 tb tz) {k : Nat} (hk : k < 8) (ha : at0.toInt < at_.toInt) (h0 : 0 ≤ at_.toInt) (h1 : at_.toInt ≤ ls.toInt) (h2 : ls.toInt ≤ 6000) (hcl : ∀ j : Nat, (j : Int) < ls.toInt → lm j = lc j ∧ b8 (lc j) = lc j) (hv : ¬ (0 < size.toInt ∧ depth.toInt = 0)) (hs0 : 0 ≤ s.toInt) (hs1 : s.toInt < 256) (c : s.toInt = 253) : ∃ at' f' fa' kd' nu' fm' st' le' to' ov' v16 v17 r, fX1_scanValue (nI k) at_ 0 fa kd0 0 0 st0 0 (-1) 0 lc ls openKinds depth s = some (at', f', fa', kd', nu', fm', st', le', to', ov') ∧ fX1_judgeItem f' fa' first kd' fm' st' le' to' ov' ni nz ti tz0 lc ls lengths b_size size depth = some v16 ∧ fX1_keepItem (nI k) at' v16.1 kd' nu' fm' st' v16.2.2.1 v16.2.2.2 ni nc nh nz ti tc th tz0 lc ls kinds starts lengths depths numbers b_cells b_size b_tooLong openKinds size depth named = some v17 ∧ fX7_readValue lm mk mn ms ml mw mp mi mb mo mm md tb tz ls at_ (nI k) 0 pl first 0 s = some r ∧ ITM ls at0 size mk mn ms ml mw mp mi mb mo mm md v16.1 at' v17 r := by
  rcases flag4 k hk with hg | hg
  · have hc : fX1_scanValue (nI k) at_ 0 fa kd0 0 0 st0 0 (-1) 0 lc ls openKinds depth s = some (at_, 3, at_ - 1, 4, 0, 4, st0, 0, -1, 0) := by
      unfold fX1_scanValue bX1_scanValue_0; (repeat (first | (rw [if_pos]; rotate_left; ((try simp (disch := ((try simp (disch := ((try simp only [zm1, zm2, Int32.reduceToInt]); omega)) only [zle, zlt, zeq, zadd, zsub, zmul, zcl, znI, zm1, zm2, Int32.reduceToInt]); omega)) only [zle, zlt, zeq, zadd, zsub, zmul, zcl, znI, zm1, zm2, Int32.reduceToInt]) <;> omega)) | (rw [if_neg]; rotate_left; ((try simp (disch := ((try simp (disch := ((try simp only [zm1, zm2, Int32.reduceToInt]); omega)) only [zle, zlt, zeq, zadd, zsub, zmul, zcl, znI, zm1, zm2, Int32.reduceToInt]); omega)) only [zle, zlt, zeq, zadd, zsub, zmul, zcl, znI, zm1, zm2, Int32.reduceToInt]) <;> omega))))
      unfold fX1_scanRaw bX1_scanRaw_0
      rw [if_pos hg]; rfl
    have hr : fX7_readValue lm mk mn ms ml mw mp mi mb mo mm md tb tz ls at_ (nI k) 0 pl first 0 s = some (mk, mn, ms, ml, mw, mp, mi, mb, mo, mm, md, tb, tz, at_, 3, first, 0) := by
      unfold fX7_readValue bX7_readValue_0; (repeat (first | (rw [if_pos]; rotate_left; ((try simp (disch := ((try simp (disch := ((try simp only [zm1, zm2, Int32.reduceToInt]); omega)) only [zle, zlt, zeq, zadd, zsub, zmul, zcl, znI, zm1, zm2, Int32.reduceToInt]); omega)) only [zle, zlt, zeq, zadd, zsub, zmul, zcl, znI, zm1, zm2, Int32.reduceToInt]) <;> omega)) | (rw [if_neg]; rotate_left; ((try simp (disch := ((try simp (disch := ((try simp only [zm1, zm2, Int32.reduceToInt]); omega)) only [zle, zlt, zeq, zadd, zsub, zmul, zcl, znI, zm1, zm2, Int32.reduceToInt]); omega)) only [zle, zlt, zeq, zadd, zsub, zmul, zcl, znI, zm1, zm2, Int32.reduceToInt]) <;> omega)))); unfold bX7_readValue_25; (repeat (first | (rw [if_pos]; rotate_left; ((try simp (disch := ((try simp (disch := ((try simp only [zm1, zm2, Int32.reduceToInt]); omega)) only [zle, zlt, zeq, zadd, zsub, zmul, zcl, znI, zm1, zm2, Int32.reduceToInt]); omega)) only [zle, zlt, zeq, zadd, zsub, zmul, zcl, znI, zm1, zm2, Int32.reduceToInt]) <;> omega)) | (rw [if_neg]; rotate_left; ((try simp (disch := ((try simp (disch := ((try simp only [zm1, zm2, Int32.reduceToInt]); omega)) only [zle, zlt, zeq, zadd, zsub, zmul, zcl, znI, zm1, zm2, Int32.reduceToInt]); omega)) only [zle, zlt, zeq, zadd, zsub, zmul, zcl, znI, zm1, zm2, Int32.reduceToInt]) <;> omega)))); unfold bX7_readValue_160; (repeat (first | (rw [if_pos]; rotate_left; ((try simp (disch := ((try simp (disch := ((try simp only [zm1, zm2, Int32.reduceToInt]); omega)) only [zle, zlt, zeq, zadd, zsub, zmul, zcl, znI, zm1, zm2, Int32.reduceToInt]); omega)) only [zle, zlt, zeq, zadd, zsub, zmul, zcl, znI, zm1, zm2, Int32.reduceToInt]) <;> omega)) | (rw [if_neg]; rotate_left; ((try simp (disch := ((try simp (disch := ((try simp only [zm1, zm2, Int32.reduceToInt]); omega)) only [zle, zlt, zeq, zadd, zsub, zmul, zcl, znI, zm1, zm2, Int32.reduceToInt]); omega)) only [zle, zlt, zeq, zadd, zsub, zmul, zcl, znI, zm1, zm2, Int32.reduceToInt]) <;> omega))))
      rw [hg, if_neg (by decide)]
      unfold bX7_readValue_242; (repeat (first | (rw [if_pos]; rotate_left; ((try simp (disch := ((try simp (disch := ((try simp only [zm1, zm2, Int32.reduceToInt]); omega)) only [zle, zlt, zeq, zadd, zsub, zmul, zcl, znI, zm1, zm2, Int32.reduceToInt]); omega)) only [zle, zlt, zeq, zadd, zsub, zmul, zcl, znI, zm1, zm2, Int32.reduceToInt]) <;> omega)) | (rw [if_neg]; rotate_left; ((try simp (disch := ((try simp (disch := ((try simp only [zm1, zm2, Int32.reduceToInt]); omega)) only [zle, zlt, zeq, zadd, zsub, zmul, zcl, znI, zm1, zm2, Int32.reduceToInt]); omega)) only [zle, zlt, zeq, zadd, zsub, zmul, zcl, znI, zm1, zm2, Int32.reduceToInt]) <;> omega))))
      exact r313 (Or.inr c)
    obtain ⟨r, k1⟩ := kF4 (fl := 3) (at_ := at_) (st := st0) (le := 0) (to := -1) (x := 4) (fm := 4) (ni := ni) (nc := nc) (nh := nh) (nz := nz) (ti := ti) (tc := tc) (th := th) (tz0 := tz0) (lc := lc) (ls := ls) (kinds := kinds) (starts := starts) (lengths := lengths) (depths := depths) (numbers := numbers) (b_cells := b_cells) (b_size := b_size) (b_tooLong := b_tooLong) (openKinds := openKinds) (size := size) (depth := depth) (named := named) k (by decide)
    exact ⟨_, _, _, _, _, _, _, _, _, _, _, _, _, hc, jfault (by decide), k1, hr, FR.refl, Or.inl ⟨(show (3 : Int32) ≠ 0 by decide), (show 0 < (3 : Int32).toInt by decide)⟩⟩
  · have hbb : ∀ k : Nat, (k : Int) < ls.toInt → lm k = lc k := fun k hk => (hcl k hk).1
    obtain ⟨n, at', f, fa', over, v, at2, f2, pl', q1, q2, q3, q4⟩ := sim_count32 (fa := fa) (pl := pl) h2 hbb first h0 h1
    have gF : ∀ (mp' : Nat → Int32) (g pl f2 : Int32), 0 < f2.toInt → fX7_addGot mk mn ms ml mw mp' mi mb mo mm md tb tz (nI k) f2 pl first g 4 0 0 = some (mk, mn, ms, ml, mw, mp', mi, mb, mo, mm, md, tb, tz, f2, pl) := by
      intro mp' g pl f2 hf2
      unfold fX7_addGot bX7_addGot_0
      rw [if_neg (by rw [zle, z0]; omega)]
    have hR9 : ∃ many : Int32, fX7_readValue lm mk mn ms ml mw mp mi mb mo mm md tb tz ls at_ (nI k) 0 pl first 0 s = ((fX7_takeMany lm mp ls at2 f2 pl' 0 many).bind fun v26 => ((fX7_addGot mk mn ms ml mw v26.1 mi mb mo mm md tb tz (nI k) v26.2.2.1 v26.2.2.2.1 first v26.2.2.2.2 4 0 0).bind fun v27 => some ((v27.1, v27.2.1, v27.2.2.1, v27.2.2.2.1, v27.2.2.2.2.1, v27.2.2.2.2.2.1, v27.2.2.2.2.2.2.1, v27.2.2.2.2.2.2.2.1, v27.2.2.2.2.2.2.2.2.1, v27.2.2.2.2.2.2.2.2.2.1, v27.2.2.2.2.2.2.2.2.2.2.1, v27.2.2.2.2.2.2.2.2.2.2.2.1, v27.2.2.2.2.2.2.2.2.2.2.2.2.1, v26.2.1, v27.2.2.2.2.2.2.2.2.2.2.2.2.2.1, v27.2.2.2.2.2.2.2.2.2.2.2.2.2.2, v26.2.2.2.2) : T17))) ∧ ((v.toInt ≤ 2000000000 ∧ many = Int64.toInt32 v) ∨ (2000000000 < v.toInt ∧ many = 2000000000)) := by
      unfold fX7_readValue bX7_readValue_0; (repeat (first | (rw [if_pos]; rotate_left; ((try simp (disch := ((try simp (disch := ((try simp only [zm1, zm2, Int32.reduceToInt]); omega)) only [zle, zlt, zeq, zadd, zsub, zmul, zcl, znI, zm1, zm2, Int32.reduceToInt]); omega)) only [zle, zlt, zeq, zadd, zsub, zmul, zcl, znI, zm1, zm2, Int32.reduceToInt]) <;> omega)) | (rw [if_neg]; rotate_left; ((try simp (disch := ((try simp (disch := ((try simp only [zm1, zm2, Int32.reduceToInt]); omega)) only [zle, zlt, zeq, zadd, zsub, zmul, zcl, znI, zm1, zm2, Int32.reduceToInt]); omega)) only [zle, zlt, zeq, zadd, zsub, zmul, zcl, znI, zm1, zm2, Int32.reduceToInt]) <;> omega)))); unfold bX7_readValue_25; (repeat (first | (rw [if_pos]; rotate_left; ((try simp (disch := ((try simp (disch := ((try simp only [zm1, zm2, Int32.reduceToInt]); omega)) only [zle, zlt, zeq, zadd, zsub, zmul, zcl, znI, zm1, zm2, Int32.reduceToInt]); omega)) only [zle, zlt, zeq, zadd, zsub, zmul, zcl, znI, zm1, zm2, Int32.reduceToInt]) <;> omega)) | (rw [if_neg]; rotate_left; ((try simp (disch := ((try simp (disch := ((try simp only [zm1, zm2, Int32.reduceToInt]); omega)) only [zle, zlt, zeq, zadd, zsub, zmul, zcl, znI, zm1, zm2, Int32.reduceToInt]); omega)) only [zle, zlt, zeq, zadd, zsub, zmul, zcl, znI, zm1, zm2, Int32.reduceToInt]) <;> omega)))); unfold bX7_readValue_160; (repeat (first | (rw [if_pos]; rotate_left; ((try simp (disch := ((try simp (disch := ((try simp only [zm1, zm2, Int32.reduceToInt]); omega)) only [zle, zlt, zeq, zadd, zsub, zmul, zcl, znI, zm1, zm2, Int32.reduceToInt]); omega)) only [zle, zlt, zeq, zadd, zsub, zmul, zcl, znI, zm1, zm2, Int32.reduceToInt]) <;> omega)) | (rw [if_neg]; rotate_left; ((try simp (disch := ((try simp (disch := ((try simp only [zm1, zm2, Int32.reduceToInt]); omega)) only [zle, zlt, zeq, zadd, zsub, zmul, zcl, znI, zm1, zm2, Int32.reduceToInt]); omega)) only [zle, zlt, zeq, zadd, zsub, zmul, zcl, znI, zm1, zm2, Int32.reduceToInt]) <;> omega))))
      rw [if_pos hg, q2, Option.bind_some]
      have e2g : (2000000000 : Int64).toInt = 2000000000 := by decide
      by_cases gl : lg_cmp v 2000000000 ≤ 0
      · refine ⟨_, by rw [if_pos gl]; rfl, Or.inl ⟨?_, rfl⟩⟩
        rw [lg_cmp_le, Int64.le_iff_toInt_le, e2g] at gl; exact gl
      · refine ⟨_, by rw [if_neg gl]; rfl, Or.inr ⟨?_, rfl⟩⟩
        rw [lg_cmp_le, Int64.le_iff_toInt_le, e2g] at gl; omega
    obtain ⟨many, hr, hm⟩ := hR9
    have hC : ∀ A F G L, fX1_skip at' f fa' 0 ls n = some (A, F, G, L) → fX1_scanValue (nI k) at_ 0 fa kd0 0 0 st0 0 (-1) 0 lc ls openKinds depth s = some (A, F, G, 4, 0, 4, at', L, -1, over) := by
      intro A F G L hs
      unfold fX1_scanValue bX1_scanValue_0; (repeat (first | (rw [if_pos]; rotate_left; ((try simp (disch := ((try simp (disch := ((try simp only [zm1, zm2, Int32.reduceToInt]); omega)) only [zle, zlt, zeq, zadd, zsub, zmul, zcl, znI, zm1, zm2, Int32.reduceToInt]); omega)) only [zle, zlt, zeq, zadd, zsub, zmul, zcl, znI, zm1, zm2, Int32.reduceToInt]) <;> omega)) | (rw [if_neg]; rotate_left; ((try simp (disch := ((try simp (disch := ((try simp only [zm1, zm2, Int32.reduceToInt]); omega)) only [zle, zlt, zeq, zadd, zsub, zmul, zcl, znI, zm1, zm2, Int32.reduceToInt]); omega)) only [zle, zlt, zeq, zadd, zsub, zmul, zcl, znI, zm1, zm2, Int32.reduceToInt]) <;> omega))))
      unfold fX1_scanRaw bX1_scanRaw_0
      rw [if_neg (by rw [hg]; decide), q1, Option.bind_some]
      dsimp only
      rw [hs]; rfl
    have hRF : 0 < f2.toInt → fX7_readValue lm mk mn ms ml mw mp mi mb mo mm md tb tz ls at_ (nI k) 0 pl first 0 s = some ((mk, mn, ms, ml, mw, mp, mi, mb, mo, mm, md, tb, tz, at2, f2, pl', 0) : T17) := by
      intro hf2
      have hne : f2 ≠ 0 := fun h => by rw [h, z0] at hf2; omega
      have ht : fX7_takeMany lm mp ls at2 f2 pl' 0 many = some (mp, at2, f2, pl', 0) := tm_fault hne
      rw [hr, ht, Option.bind_some]
      dsimp only
      rw [gF _ _ _ _ hf2]; rfl
    have hlsat : at'.toInt ≤ ls.toInt → 0 ≤ at'.toInt → (Int32.toInt64 (ls - at')).toInt = ls.toInt - at'.toInt := by
      intro x1 x2
      rw [Int32.toInt_toInt64]; exact zsub (by omega) (by omega)
    rcases q4 with ⟨g1, g2⟩ | ⟨g1, g2, g3, g4, g5⟩
    · have hs : ∃ A G L, fX1_skip at' f fa' 0 ls n = some (A, f, G, L) := by
        unfold fX1_skip bX1_skip_0 fX2_size bX2_size_0 fX1_fail bX1_fail_0
        simp only [Option.bind_some, if_neg g1]
        split <;> exact ⟨_, _, _, rfl⟩
      obtain ⟨A, G, L, hs⟩ := hs
      have hc := hC _ _ _ _ hs
      have hr2 := hRF g2
      obtain ⟨r, k1⟩ := kF4 (fl := f) (at_ := A) (st := at') (le := L) (to := -1) (x := 4) (fm := 4) (ni := ni) (nc := nc) (nh := nh) (nz := nz) (ti := ti) (tc := tc) (th := th) (tz0 := tz0) (lc := lc) (ls := ls) (kinds := kinds) (starts := starts) (lengths := lengths) (depths := depths) (numbers := numbers) (b_cells := b_cells) (b_size := b_size) (b_tooLong := b_tooLong) (openKinds := openKinds) (size := size) (depth := depth) (named := named) k g1
      exact ⟨_, _, _, _, _, _, _, _, _, _, _, _, _, hc, jfault g1, k1, hr2, FR.refl, Or.inl ⟨g1, g2⟩⟩
    · subst g1
      have hC34 := g4 rfl
      have ec : n.toInt = n.toBitVec.toNat := by rw [lnat, if_pos (by omega)]
      generalize hCd : n.toBitVec.toNat = C at ec hC34 g5
      have hla := hlsat g3 (by omega)
      have big : ls.toInt - at'.toInt < (C : Int) → fX1_skip at' 0 fa' 0 ls n = some (at', 2, ls, 0) := by
        intro hb
        unfold fX1_skip bX1_skip_0 fX2_size bX2_size_0 fX1_fail bX1_fail_0
        simp only [Option.bind_some]
        rw [if_neg (by rw [lg_cmp_le, Int64.le_iff_toInt_le, hla, ec]; omega), if_pos trivial]; rfl
      rcases g5 with ⟨g5, g6⟩ | ⟨g5, g6, g7, g8, g9⟩
      · have hr2 := hRF g6
        by_cases hb : ls.toInt - at'.toInt < (C : Int)
        · have hc := hC _ _ _ _ (big hb)
          obtain ⟨r, k1⟩ := kF4 (fl := 2) (at_ := at') (st := at') (le := 0) (to := -1) (x := 4) (fm := 4) (ni := ni) (nc := nc) (nh := nh) (nz := nz) (ti := ti) (tc := tc) (th := th) (tz0 := tz0) (lc := lc) (ls := ls) (kinds := kinds) (starts := starts) (lengths := lengths) (depths := depths) (numbers := numbers) (b_cells := b_cells) (b_size := b_size) (b_tooLong := b_tooLong) (openKinds := openKinds) (size := size) (depth := depth) (named := named) k (by decide)
          exact ⟨_, _, _, _, _, _, _, _, _, _, _, _, _, hc, jfault (by decide), k1, hr2, FR.refl, Or.inl ⟨(show (2 : Int32) ≠ 0 by decide), g6⟩⟩
        · have hs : fX1_skip at' 0 fa' 0 ls n = some (at' + Int64.toInt32 n, 0, fa', Int64.toInt32 n) := by
            unfold fX1_skip bX1_skip_0 fX2_size bX2_size_0
            simp only [Option.bind_some]
            rw [if_pos (by rw [lg_cmp_le, Int64.le_iff_toInt_le, hla, ec]; omega)]
          have hc := hC _ _ _ _ hs
          subst g5
          obtain ⟨f', fa2, e1, e2⟩ := jplain (fa := fa') (first := first) (kd := 4) (st := at') (le := Int64.toInt32 n) (to := -1) (ov := 1) (ni := ni) (nz := nz) (ti := ti) (tz0 := tz0) (lc := lc) (ls := ls) (fm := 4) hR (by decide)
          have hne : f' ≠ 0 := fun h => absurd (e2.mp h).1 (by decide)
          obtain ⟨r, k1⟩ := kF4 (fl := f') (at_ := (at' + Int64.toInt32 n)) (st := at') (le := (Int64.toInt32 n)) (to := -1) (x := 4) (fm := 4) (ni := ni) (nc := nc) (nh := nh) (nz := nz) (ti := ti) (tc := tc) (th := th) (tz0 := tz0) (lc := lc) (ls := ls) (kinds := kinds) (starts := starts) (lengths := lengths) (depths := depths) (numbers := numbers) (b_cells := b_cells) (b_size := b_size) (b_tooLong := b_tooLong) (openKinds := openKinds) (size := size) (depth := depth) (named := named) k hne
          exact ⟨_, _, _, _, _, _, _, _, _, _, _, _, _, hc, e1, k1, hr2, FR.refl, Or.inl ⟨hne, g6⟩⟩
      · subst g5 g6
        rw [g7] at hr
        rw [g8, ec] at hm
        have e32 : (C : Int) ≤ 2000000000 → (Int64.toInt32 n).toInt = C := by
          intro h
          rw [Int64.toInt_toInt32, ec, Int.bmod_def]; split <;> omega
        have e2g : (2000000000 : Int32).toInt = 2000000000 := by decide
        obtain ⟨mp', at3, f3, pl3, gt3, r1, r2, r3⟩ := rmany (lm := lm) (ls := ls) h2 (fun k hk => by rw [(hcl k hk).1, (hcl k hk).2]) many mp at'.toInt (by omega) (ls.toInt - at'.toInt).toNat FU at' pl' 0 mp 0 (by unfold FU; omega) (by omega) (by decide) (by rw [z0]; omega) rfl (by rw [z0]; rcases hm with ⟨h, h'⟩ | ⟨h, h'⟩ <;> rw [h'] <;> first | (rw [e32 h]; omega) | (rw [e2g]; omega)) ⟨fun _ _ => rfl, fun j hj => by rw [z0] at hj; omega⟩
        have ht : fX7_takeMany lm mp ls at' 0 pl' 0 many = some (mp', at3, f3, pl3, gt3) := r1
        rw [ht, Option.bind_some] at hr
        dsimp only at hr
        by_cases hb : ls.toInt - at'.toInt < (C : Int)
        · have hc := hC _ _ _ _ (big hb)
          have hf3 : 0 < f3.toInt := by
            rcases r3 with ⟨x1, x2, x3, x4, x5⟩ | ⟨x1, x2⟩
            · rcases hm with ⟨h, h'⟩ | ⟨h, h'⟩
              · rw [h', e32 h] at x1; omega
              · rw [h', e2g] at x1; omega
            · exact x2
          rw [gF _ _ _ _ hf3] at hr
          obtain ⟨r, k1⟩ := kF4 (fl := 2) (at_ := at') (st := at') (le := 0) (to := -1) (x := 4) (fm := 4) (ni := ni) (nc := nc) (nh := nh) (nz := nz) (ti := ti) (tc := tc) (th := th) (tz0 := tz0) (lc := lc) (ls := ls) (kinds := kinds) (starts := starts) (lengths := lengths) (depths := depths) (numbers := numbers) (b_cells := b_cells) (b_size := b_size) (b_tooLong := b_tooLong) (openKinds := openKinds) (size := size) (depth := depth) (named := named) k (by decide)
          exact ⟨_, _, _, _, _, _, _, _, _, _, _, _, _, hc, jfault (by decide), k1, hr, frp r2, Or.inl ⟨(show (2 : Int32) ≠ 0 by decide), hf3⟩⟩
        · have hs : fX1_skip at' 0 fa' 0 ls n = some (at' + Int64.toInt32 n, 0, fa', Int64.toInt32 n) := by
            unfold fX1_skip bX1_skip_0 fX2_size bX2_size_0
            simp only [Option.bind_some]
            rw [if_pos (by rw [lg_cmp_le, Int64.le_iff_toInt_le, hla, ec]; omega)]
          have hc := hC _ _ _ _ hs
          have e33 := e32 (by omega)
          have hmn : many = Int64.toInt32 n := by
            rcases hm with ⟨h, h'⟩ | ⟨h, h'⟩
            · exact h'
            · omega
          subst hmn
          have ea : (at' + Int64.toInt32 n).toInt = at'.toInt + C := by rw [zadd (by omega) (by omega), e33]
          rcases r3 with ⟨x1, x2, x3, x4, x5⟩ | ⟨x1, x2⟩
          · have ea3 : at3 = at' + Int64.toInt32 n := zeq.mpr (by rw [ea, x4, e33])
            subst x2 x3 ea3
            obtain ⟨v16, v17, r5, t1, t2, t3, t4⟩ := rd_raw (fa := fa') (first := first) (pl := pl3) (at_ := at' + Int64.toInt32 n) (at0 := at0) (lc := lc) (lm := lm) (ls := ls) (nc := nc) (nh := nh) (tc := tc) (th := th) (to := -1) (ov := 0) (st := at') (le := Int64.toInt32 n) (gt := Int64.toInt32 n) (f2 := 0) (mp' := mp') hR hN hT (nI k) hv (by omega) (by omega) h2 hcl (by omega) (by omega) (by omega) r2 (Or.inr ⟨rfl, rfl, rfl, x5⟩)
            rw [t3, Option.bind_some] at hr
            exact ⟨_, _, _, _, _, _, _, _, _, _, v16, v17, _, hc, t1, t2, hr, t4⟩
          · rw [e33] at x1; omega
end Vr
