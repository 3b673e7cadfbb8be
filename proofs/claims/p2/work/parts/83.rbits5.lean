/-! E8 -/
section RB5
variable {kinds starts lengths depths b_cells openKinds : Nat → Int32} {numbers : Nat → Int64} {b_size b_tooLong size depth named : Int32} {mk ms ml mw mp mi mb mo mm md : Nat → Int32} {mn : Nat → Int64} {ni nc nh ti tc th tb tz lc lm : Nat → Int32} {nz tz0 ls fa pl first kd st le to ov fl at_ : Int32} {nu : Int64} {at0 gt : Int32}
set_option maxHeartbeats 4000000 in
theorem rd_bits (hR : DR 1 kinds starts lengths depths numbers b_cells b_size b_tooLong openKinds size depth named mk mn ms ml mw mp mi mb mo mm md) (hN : RT 0 size ni nz tb tz) (hT : RT 1 size ti tz0 tb tz) (flags k0 fm0 st0 : Int32) (hok : ¬ (0 < size.toInt ∧ depth.toInt = 0)) (ha : at0.toInt < at_.toInt) (h0 : 0 ≤ at_.toInt) (h1 : at_.toInt ≤ ls.toInt) (h2 : ls.toInt ≤ 6000) (hcl : ∀ j : Nat, (j : Int) < ls.toInt → lm j = lc j ∧ b8 (lc j) = lc j) : ∃ at' f' fa' st' le' ov' v16 v17 r, fX1_scanBits at_ 0 fa k0 fm0 st0 0 0 lc ls = some (at', f', fa', 4, 5, st', le', ov') ∧ fX1_judgeItem f' fa' first 4 5 st' le' to ov' ni nz ti tz0 lc ls lengths b_size size depth = some v16 ∧ fX1_keepItem flags at' v16.1 4 0 5 st' v16.2.2.1 v16.2.2.2 ni nc nh nz ti tc th tz0 lc ls kinds starts lengths depths numbers b_cells b_size b_tooLong openKinds size depth named = some v17 ∧ ((fX7_readCount lm ls at_ 0 pl first 5 32).bind fun v29 => ((fX7_takeSeven lm mp ls v29.2.1 v29.2.2.1 v29.2.2.2 first 0 v29.1).bind fun v30 => ((fX7_addGot mk mn ms ml mw v30.1 mi mb mo mm md tb tz flags v30.2.2.1 v30.2.2.2.1 first v30.2.2.2.2 4 0 0).bind fun v31 => some (v31.1, v31.2.1, v31.2.2.1, v31.2.2.2.1, v31.2.2.2.2.1, v31.2.2.2.2.2.1, v31.2.2.2.2.2.2.1, v31.2.2.2.2.2.2.2.1, v31.2.2.2.2.2.2.2.2.1, v31.2.2.2.2.2.2.2.2.2.1, v31.2.2.2.2.2.2.2.2.2.2.1, v31.2.2.2.2.2.2.2.2.2.2.2.1, v31.2.2.2.2.2.2.2.2.2.2.2.2.1, v30.2.1, v31.2.2.2.2.2.2.2.2.2.2.2.2.2.1, v31.2.2.2.2.2.2.2.2.2.2.2.2.2.2, v30.2.2.2.2)))) = some r ∧ ITM ls at0 size mk mn ms ml mw mp mi mb mo mm md v16.1 at' v17 r := by
  obtain ⟨a1, a2, a3, a4, a5, a6, a7, a8, a9, a10, a11, a12⟩ := id hR.1
  have hbb : ∀ k : Nat, (k : Int) < ls.toInt → lm k = lc k := fun k hk => (hcl k hk).1
  obtain ⟨c, at', f, fa', over, v, at2, f2, pl', q1, q2, q3, q4⟩ := sim_count32 (fa := fa) (pl := pl) h2 hbb first h0 h1
  have kF : ∀ (fl le at_ st : Int32), fl ≠ 0 → ∃ r, fX1_keepItem flags at_ fl 4 0 5 st le to ni nc nh nz ti tc th tz0 lc ls kinds starts lengths depths numbers b_cells b_size b_tooLong openKinds size depth named = some r := fun fl le at_ st h => kfault h flags
  have gF : ∀ (mp' : Nat → Int32) (g pl f2 : Int32), 0 < f2.toInt → fX7_addGot mk mn ms ml mw mp' mi mb mo mm md tb tz flags f2 pl first g 4 0 0 = some (mk, mn, ms, ml, mw, mp', mi, mb, mo, mm, md, tb, tz, f2, pl) := by
    intro mp' g pl f2 hf2
    unfold fX7_addGot bX7_addGot_0
    rw [if_neg (by rw [zle, z0]; omega)]
  have tF : ∀ (pl f2 at2 : Int32) (v : Int64), 0 < f2.toInt → fX7_takeSeven lm mp ls at2 f2 pl first 0 v = some (mp, at2, f2, pl, 0) := by
    intro pl f2 at2 v hf2
    unfold fX7_takeSeven bX7_takeSeven_0
    exact ts_fault (f := 999999) (fun h => by rw [h, z0] at hf2; omega)
  unfold fX1_scanBits bX1_scanBits_0 fX1_sevensOf bX1_sevensOf_0 fX2_size bX2_size_0
  rw [q1, q2, Option.bind_some, Option.bind_some, Option.bind_some, Option.bind_some]
  dsimp only
  have e1 : (1 : Int64).toInt = 1 := by decide
  have e6 : (6 : Int64).toInt = 6 := by decide
  have e7 : (7 : Int64).toInt = 7 := by decide
  have e8 : (8 : Int64).toInt = 8 := by decide
  have b64 : ∀ n : Int, -4611686018427387904 ≤ n → n < 4611686018427387904 → n.bmod (2 ^ 64) = n := by
    intro n h1 h2
    rw [Int.bmod_def]; split <;> omega
  rcases q4 with ⟨g1, g2⟩ | ⟨g1, g2, g3, g4, g5⟩
  · rw [show FU = 999999 + 1 from rfl, sb50_fault g1, tF _ _ _ _ g2, Option.bind_some]
    dsimp only
    rw [gF _ _ _ _ g2]
    obtain ⟨r, k1⟩ := kF f 0 at' at' g1
    exact ⟨_, _, _, _, _, _, _, _, _, rfl, jfault g1, k1, rfl, FR.refl, Or.inl ⟨g1, g2⟩⟩
  · subst g1
    have hC34 := g4 rfl
    have ec : c.toInt = c.toBitVec.toNat := by rw [lnat, if_pos (by omega)]
    generalize hCd : c.toBitVec.toNat = C at ec hC34 g5
    have e8c : (8 * c).toInt = 8 * C := by rw [Int64.toInt_mul, e8, ec, b64 _ (by omega) (by omega)]
    have e86 : (8 * c + 6).toInt = 8 * C + 6 := by rw [Int64.toInt_add, e8c, e6, b64 _ (by omega) (by omega)]
    have ev : ((8 * c + 6) / 7).toInt = ((8 * C + 6) / 7 : Nat) := by rw [Int64.toInt_div, e86, e7, Int.tdiv_eq_ediv_of_nonneg (by omega), b64 _ (by omega) (by omega)]; omega
    have el : (Int32.toInt64 ls + 1).toInt = ls.toInt + 1 := by rw [Int64.toInt_add, Int32.toInt_toInt64, e1, b64 _ (by omega) (by omega)]
    obtain ⟨S, hSd, mN, hmN, hSm, hmcase⟩ : ∃ (S : Int64), (if (Int32.toInt64 ls + 1) < (8 * c + 6) / 7 then (Int32.toInt64 ls + 1) else (8 * c + 6) / 7) = S ∧ ∃ m : Nat, (m : Int) ≤ ls.toInt + 1 ∧ S.toInt = m ∧ ((m = (8 * C + 6) / 7) ∨ ((m : Int) = ls.toInt + 1 ∧ m < (8 * C + 6) / 7)) := by
      by_cases g : (Int32.toInt64 ls + 1) < (8 * c + 6) / 7
      · have g' := g
        rw [Int64.lt_iff_toInt_lt, el, ev] at g'
        exact ⟨_, rfl, (ls.toInt + 1).toNat, by omega, by rw [if_pos g, el]; omega, Or.inr ⟨by omega, by omega⟩⟩
      · have g' := g
        rw [Int64.lt_iff_toInt_lt, el, ev] at g'
        exact ⟨_, rfl, (8 * C + 6) / 7, by omega, by rw [if_neg g, ev], Or.inl rfl⟩
    rw [hSd]
    obtain ⟨s1, s2⟩ := sb_loop (lc := lc) (ls := ls) (st := at') (le := 0) h2 c S over (by omega) mN FU at' fa' 0 0 (by unfold FU; omega) (by decide) (by rw [show (0 : Int64).toInt = 0 by decide]; omega) (by omega) g3
    rcases g5 with ⟨g5, g6⟩ | ⟨g5, g6, g7, g8, g9⟩
    · subst g5
      rw [tF _ _ _ _ g6, Option.bind_some]
      dsimp only
      rw [gF _ _ _ _ g6]
      by_cases gd : (at'.toInt + mN ≤ ls.toInt ∧ ∀ j : Nat, j < mN → (lc (at'.toInt.toNat + j) &&& 255).toInt < 128)
      · obtain ⟨E, E1, E2⟩ := s1 gd
        rw [E2]
        unfold bX1_scanBits_79
        rw [if_pos rfl, if_neg (by decide)]
        obtain ⟨f', fa2, j1, j2⟩ := jplain (fa := fa') (first := first) (kd := 4) (st := at') (le := Int64.toInt32 c) (to := to) (ov := 1) (ni := ni) (nz := nz) (ti := ti) (tz0 := tz0) (lc := lc) (ls := ls) (fm := 5) hR (by decide)
        have hne : f' ≠ 0 := fun h => absurd (j2.mp h).1 (by decide)
        obtain ⟨r, k1⟩ := kF f' (Int64.toInt32 c) E at' hne
        exact ⟨_, _, _, _, _, _, _, _, _, rfl, j1, k1, rfl, FR.refl, Or.inl ⟨hne, g6⟩⟩
      · obtain ⟨at3, f3, fa3, E2, E3⟩ := s2 gd
        rw [E2]
        obtain ⟨r, k1⟩ := kF f3 0 at3 at' E3
        exact ⟨_, _, _, _, _, _, _, _, _, rfl, jfault E3, k1, rfl, FR.refl, Or.inl ⟨E3, g6⟩⟩
    · subst g5 g6
      rw [g7, g8]
      have hC32 := g9 rfl
      obtain ⟨mp', at3, f3, pl3, gt3, r1, r2, r3⟩ := bits_tot (lm := lm) (lc := lc) (ls := ls) (first := first) h2 hbb (ls.toInt - at'.toInt).toNat (8 * C) FU at' 0 0 pl' 0 mp (8 * c) (by unfold FU; omega) (by rw [e8c]; omega) (by omega) (by omega) (by omega) (by decide) (by omega) (by omega) (by decide) (by rw [z0]; omega)
      rw [nI_0] at r1
      have hts : fX7_takeSeven lm mp ls at' 0 pl' first 0 c = some (mp', at3, f3, pl3, gt3) := r1
      rw [hts, Option.bind_some]
      dsimp only
      by_cases gd : (at'.toInt + mN ≤ ls.toInt ∧ ∀ j : Nat, j < mN → (lc (at'.toInt.toNat + j) &&& 255).toInt < 128)
      · obtain ⟨E, E1, E2⟩ := s1 gd
        have hM : mN = (8 * C + 6) / 7 := by
          rcases hmcase with h | ⟨h, _⟩
          · exact h
          · have := gd.1; omega
        have hC5 : C ≤ 6000 := by have := gd.1; omega
        have hlc : Int64.toInt32 c = nI C := by rw [zeq, Int64.toInt_toInt32, ec, znI (by omega), bm32 (by omega) (by omega)]
        rw [E2]
        unfold bX1_scanBits_79
        rw [if_pos rfl, if_pos rfl, hlc]
        have hov : ∃ ov', (((fX1_bitsInLast (nI C)).bind fun v6 => (if ((Int32.toUInt32 (if mN = 0 then 0 else lc (at'.toInt.toNat + (mN - 1)) &&& 255) >>> (Int32.toUInt32 v6 &&& Int32.toUInt32 31)).toInt32) = 0 then some (E, (0 : Int32), fa', (4 : Int32), (5 : Int32), at', nI C, (0 : Int32)) else some (E, 0, fa', 4, 5, at', nI C, 1))) = some (E, 0, fa', 4, 5, at', nI C, ov')) ∧ ((ov' = 0 ∧ GOOD lc at'.toInt.toNat ((8 * C + 6) / 7) (8 * C)) ∨ (ov' ≠ 0 ∧ ¬ GOOD lc at'.toInt.toNat ((8 * C + 6) / 7) (8 * C))) := by
          by_cases gC : C = 0
          · have hm0 : mN = 0 := by omega
            subst gC
            rw [if_pos hm0]
            have hb7 : fX1_bitsInLast (nI 0) = some 7 := by decide
            rw [hb7, Option.bind_some, if_pos (by decide)]
            exact ⟨0, rfl, Or.inl ⟨rfl, fun j hj => by omega, fun h => by omega⟩⟩
          · obtain ⟨b, hb256, eb⟩ := pk_andE (lc (at'.toInt.toNat + (mN - 1))) (m := 255) 8 (by decide)
            have hb256' : b < 256 := hb256
            rw [bil (by omega) (by omega), Option.bind_some, if_neg (show ¬ mN = 0 by omega), eb, ush (by omega) (by omega)]
            have hd : b / 2 ^ (8 * C - 7 * ((8 * C + 6) / 7 - 1)) ≤ b := Nat.div_le_self _ _
            by_cases gb : b < 2 ^ (8 * C - 7 * ((8 * C + 6) / 7 - 1))
            · rw [Nat.div_eq_of_lt gb, if_pos (by decide)]
              refine ⟨0, rfl, Or.inl ⟨rfl, by rw [← hM]; exact gd.2, fun _ => ?_⟩⟩
              rw [← hM, eb, znI (by omega), hM]
              exact_mod_cast gb
            · have hne : ¬ b / 2 ^ (8 * C - 7 * ((8 * C + 6) / 7 - 1)) = 0 := fun h => by
                rcases Nat.div_eq_zero_iff.mp h with h | h
                · exact absurd h (Nat.ne_of_gt (Nat.two_pow_pos _))
                · exact gb h
              rw [if_neg (by rw [zeq, z0, znI (by omega)]; omega)]
              refine ⟨1, rfl, Or.inr ⟨by decide, fun hG => gb ?_⟩⟩
              have := hG.2 (by omega)
              rw [← hM, eb, znI (by omega), hM] at this
              exact_mod_cast this
        obtain ⟨ov', o1, o2⟩ := hov
        rw [o1]
        obtain ⟨f', fa2, j1, j2⟩ := jplain (fa := fa') (first := first) (kd := 4) (st := at') (le := nI C) (to := to) (ov := ov') (ni := ni) (nz := nz) (ti := ti) (tz0 := tz0) (lc := lc) (ls := ls) (fm := 5) hR (by decide)
        rcases o2 with ⟨rfl, hG⟩ | ⟨o2, hG⟩
        · rcases r3 with ⟨y1, y2, y3, y4, y5⟩ | ⟨y1, y2⟩
          rotate_left
          · exact absurd ⟨by have := gd.1; omega, hG⟩ y2
          · subst y1
            have eE : at3 = E := zeq.mpr (by omega)
            have egt : gt3 = nI C := by rw [zeq, y5, z0, znI (by omega)]; omega
            subst eE egt
            by_cases hr : roomR b_size size depth 4 (nI C)
            · have hf0 : f' = 0 := j2.mpr ⟨rfl, hr⟩
              subst hf0
              have hr1 := hr.1
              have hr2 := hr.2.1
              rw [znI (by omega)] at hr2
              have eS : (size + 1).toInt = size.toInt + 1 := by rw [zadd (by rw [z1]; omega) (by rw [z1]; omega), z1]
              subst a4
              obtain ⟨mp2, L, C2, w1, w2, w3, w4, w5, w6, w7⟩ := bits_joint (lm := lm) (lc := lc) (ls := ls) (pl := pl') (first := first) (st := at') (starts := upd starts size.toInt.toNat b_size) (size := size + 1) h2 hbb at3 (nI C) (by omega) (by omega) (by have := gd.1; omega) ((8 * C + 6) / 7) (8 * C) FU FU at' 0 0 0 mp (upd lengths size.toInt.toNat 0) b_cells b_size (8 * c) (by unfold FU; omega) (by unfold FU; omega) rfl (by rw [e8c]; omega) (by omega) (by omega) (by decide) (by omega) (by omega) (fun hm => bil (by omega) (by omega)) hG (by decide) (by rw [z0]; omega) a7 (by omega)
              have e88 : (0 + 8 * C) / 8 = C := by omega
              rw [e88, nI_0] at w1 w2
              rw [e88] at w5 w7
              rw [r1] at w1
              have emp : mp' = mp2 := by
                have := Option.some.inj w1
                exact (Prod.ext_iff.mp this).1
              subst emp
              have e2s : (size + 1).toInt.toNat - 1 = size.toInt.toNat := by omega
              rw [e2s, upd_same, upd_same] at w5
              rw [e2s] at w4
              rw [z0] at w3 w7
              have hLS : L size.toInt.toNat = nI C := by
                rw [w5]
                by_cases gC : C = 0
                · rw [if_pos gC, gC, nI_0]
                · have e5 : (b_size + nI C).toInt = b_size.toInt + C := by rw [zadd (by rw [znI (by omega)]; omega) (by rw [znI (by omega)]; omega), znI (by omega)]
                  rw [if_neg gC, zeq, zsub (by omega) (by omega), e5, znI (by omega)]; omega
              have hp := cput (kinds := kinds) (starts := starts) (lengths := lengths) (depths := depths) (numbers := numbers) (b_size := b_size) (openKinds := openKinds) (named := named) (v := 0) (x := 4) a5 hr.1 a9 a10 (fun h => absurd h (by decide)) (fun h => absurd h (by decide))
              obtain ⟨mp'', mo', mm', md', y0, u1, u2, u3⟩ := got56_add (pl := pl3) (first := first) (mp' := mp') (tb := tb) (tz := tz) (x := 4) (x2 := 0) (flags := flags) (L := L) (C := C2) hR (by decide) ⟨fun h => absurd h (by decide), fun _ => hok⟩ ⟨by rw [znI (by omega)]; omega, by rw [znI (by omega)]; omega⟩ hr hLS (fun i hi => by rw [w4 i (by omega), upd_ne (by omega)]) w6 (fun j hj => by
                rw [znI (by omega)] at hj
                obtain ⟨x1, x2⟩ := w7 j (by omega)
                rw [show 10000 + (0 : Int).toNat + j = 10000 + j by omega] at x1
                rw [← x1, x2]) (fun k hk => w3 k (by omega))
              rw [if_pos rfl] at u3
              have hadd : fX7_addGot mk mn ms ml mw mp' mi mb mo mm md tb tz flags 0 pl3 first (nI C) 4 0 0 = bX7_addGot_56 mk mn ms ml mw mp' mi mb mo mm md tb tz flags 0 pl3 first (nI C) 4 0 := by
                unfold fX7_addGot bX7_addGot_0
                rw [if_pos (by decide), if_pos rfl]
              rw [hadd, u3]
              have hkp : fX1_keepItem flags at3 0 4 0 5 at' (nI C) to ni nc nh nz ti tc th tz0 lc ls kinds starts lengths depths numbers b_cells b_size 0 openKinds size depth named = some (ni, nc, nh, nz, ti, tc, th, tz0, upd kinds size.toInt.toNat 4, upd starts size.toInt.toNat b_size, L, upd depths size.toInt.toNat depth, vp_updL numbers size.toInt.toNat 0, C2, b_size + nI C, 0, openKinds, size + 1, depth, (if (4 : Int32) = 10 then 1 else 0)) := by
                unfold fX1_keepItem bX1_keepItem_0 fX1_keepBits bX1_keepBits_0
                rw [if_pos rfl, hp, Option.bind_some]
                dsimp only
                rw [show (upd starts size.toNatClampNeg b_size) = upd starts size.toInt.toNat b_size from rfl, show (upd lengths size.toNatClampNeg 0) = upd lengths size.toInt.toNat 0 from rfl, w2]
                rfl
              exact ⟨_, _, _, _, _, _, _, _, _, rfl, j1, hkp, rfl, u1, Or.inr ⟨rfl, rfl, rfl, by omega, by have := gd.1; omega, u2, hN.more (by show _ ≤ (size + 1).toInt; omega), hT.more (by show _ ≤ (size + 1).toInt; omega), eS⟩⟩
            · have hne : f' ≠ 0 := fun h => hr (j2.mp h).2
              obtain ⟨r, k1⟩ := kF f' (nI C) at3 at' hne
              have hadd : fX7_addGot mk mn ms ml mw mp' mi mb mo mm md tb tz flags 0 pl3 first (nI C) 4 0 0 = bX7_addGot_56 mk mn ms ml mw mp' mi mb mo mm md tb tz flags 0 pl3 first (nI C) 4 0 := by
                unfold fX7_addGot bX7_addGot_0
                rw [if_pos (by decide), if_pos rfl]
              rw [hadd, got56_full hR (by decide) ⟨by rw [znI (by omega)]; omega, by rw [znI (by omega)]; omega⟩ hr]
              exact ⟨_, _, _, _, _, _, _, _, _, rfl, j1, k1, rfl, frp r2, Or.inl ⟨hne, (show 0 < (7 : Int32).toInt by decide)⟩⟩
        · have hne : f' ≠ 0 := fun h => o2 (j2.mp h).1
          obtain ⟨r, k1⟩ := kF f' (nI C) E at' hne
          rcases r3 with ⟨y1, y2, y3, y4, y5⟩ | ⟨y1, y2⟩
          · exact absurd y3 hG
          · rw [gF _ _ _ _ y1]
            exact ⟨_, _, _, _, _, _, _, _, _, rfl, j1, k1, rfl, frp r2, Or.inl ⟨hne, y1⟩⟩
      · obtain ⟨at4, f4, fa4, E2, E3⟩ := s2 gd
        rw [E2]
        obtain ⟨r, k1⟩ := kF f4 0 at4 at' E3
        rcases r3 with ⟨y1, y2, y3, y4, y5⟩ | ⟨y1, y2⟩
        · exfalso
          apply gd
          have hM : mN = (8 * C + 6) / 7 := by
            rcases hmcase with h | ⟨h, h'⟩
            · exact h
            · omega
          rw [hM]
          exact ⟨by omega, y3.1⟩
        · rw [gF _ _ _ _ y1]
          exact ⟨_, _, _, _, _, _, _, _, _, rfl, jfault E3, k1, rfl, frp r2, Or.inl ⟨E3, y1⟩⟩
end RB5
