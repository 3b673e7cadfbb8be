/-! texts, names, raw bytes: read in full -/
section RT3
variable {kinds starts lengths depths b_cells openKinds : Nat → Int32} {numbers : Nat → Int64} {b_size b_tooLong size depth named : Int32} {mk ms ml mw mp mi mb mo mm md : Nat → Int32} {mn : Nat → Int64} {ni nc nh ti tc th tb tz lc lm : Nat → Int32} {nz tz0 ls fa pl first kd st le to ov fl at_ : Int32} {nu : Int64} {at0 : Int32} {mp' : Nat → Int32}
theorem frp (h : ∀ k : Nat, k < 10000 → mp' k = mp k) : FR mk mn ms ml mw mp mi mb mo mm md mk mn ms ml mw mp' mi mb mo mm md := ⟨fun _ _ => ⟨rfl, rfl, rfl, rfl, rfl⟩, fun k hk => h k (by omega), rfl, rfl, rfl, fun _ _ => ⟨rfl, rfl⟩⟩
/-- the reference at fault: nothing is added -/
theorem got79 {f2 x x2 flags : Int32} (hf : f2 ≠ 0) : bX7_addGot_79 mk mn ms ml mw mp' mi mb mo mm md tb tz flags f2 pl first le x x2 = some (mk, mn, ms, ml, mw, mp', mi, mb, mo, mm, md, tb, tz, f2, pl) := by
  unfold bX7_addGot_79
  rw [if_neg hf]
theorem got56_fault (hR : DR 1 kinds starts lengths depths numbers b_cells b_size b_tooLong openKinds size depth named mk mn ms ml mw mp mi mb mo mm md) {f2 x x2 flags : Int32} (hle : 0 ≤ le.toInt ∧ le.toInt ≤ 6000) (hf : 0 < f2.toInt) : ∃ pl', bX7_addGot_56 mk mn ms ml mw mp' mi mb mo mm md tb tz flags f2 pl first le x x2 = some (mk, mn, ms, ml, mw, mp', mi, mb, mo, mm, md, tb, tz, f2, pl') := by
  have hne : ¬ f2 = 0 := fun h => by rw [h, z0] at hf; omega
  obtain ⟨q, q1, q2⟩ := rmay1 hR le 0 3 hle.1 (by omega) (by decide)
  unfold bX7_addGot_56 fX7_fail bX7_fail_0
  rw [q1, Option.bind_some, if_neg hne]
  by_cases g : q = 0
  · rw [if_pos g, Option.bind_some, got79 hne]; exact ⟨_, rfl⟩
  · rw [if_neg g, got79 hne]; exact ⟨_, rfl⟩
theorem got56_full (hR : DR 1 kinds starts lengths depths numbers b_cells b_size b_tooLong openKinds size depth named mk mn ms ml mw mp mi mb mo mm md) {x x2 flags : Int32} (hx : x = 3 ∨ x = 4 ∨ x = 10) (hle : 0 ≤ le.toInt ∧ le.toInt ≤ 6000) (hr : ¬ roomR b_size size depth x le) : bX7_addGot_56 mk mn ms ml mw mp' mi mb mo mm md tb tz flags 0 pl first le x x2 = some (mk, mn, ms, ml, mw, mp', mi, mb, mo, mm, md, tb, tz, 7, first) := by
  have n5 : ¬ (x = 5 ∨ x = 6) := by rcases hx with rfl | rfl | rfl <;> decide
  obtain ⟨q, q1, q2⟩ := rmay1 hR le 0 x hle.1 (by omega) ⟨fun h => absurd rfl h, fun h => absurd h n5⟩
  have hfail : fX7_fail 0 pl 7 first = some (7, first) := rfl
  unfold bX7_addGot_56
  rw [q1, Option.bind_some, if_pos (q2.mpr hr), hfail, Option.bind_some]
  exact got79 (f2 := 7) (by decide)
/-- the reference: room, so added; the bytes as the class has them -/
theorem got56_add (hR : DR 1 kinds starts lengths depths numbers b_cells b_size b_tooLong openKinds size depth named mk mn ms ml mw mp mi mb mo mm md) {x x2 flags : Int32} (hx : x = 3 ∨ x = 4 ∨ x = 10) (hok : (x = 10 → nmc openKinds depth named) ∧ (x ≠ 10 → ¬ (0 < size.toInt ∧ depth.toInt = 0))) (hle : 0 ≤ le.toInt ∧ le.toInt ≤ 6000) (hr : roomR b_size size depth x le) {L C : Nat → Int32} (hL : L size.toInt.toNat = le) (hL2 : ∀ i : Nat, (i : Int) < size.toInt → L i = lengths i) (hC : ∀ k : Nat, (k : Int) < b_size.toInt → C k = b_cells k) (hC2 : ∀ j : Nat, (j : Int) < le.toInt → C (b_size.toInt.toNat + j) = b8 (mp' (10000 + j))) (hm : ∀ k : Nat, k < 10000 → mp' k = mp k) : ∃ mp'' mo' mm' md', fX7_addTaken mk mn ms ml mw mp' mi mb mo mm md le x = some (upd mk (1500 * 1 + size.toInt.toNat) x, vp_updL mn (1500 * 1 + size.toInt.toNat) 0, upd ms (1500 * 1 + size.toInt.toNat) (5000 * 1 + b_size), upd ml (1500 * 1 + size.toInt.toNat) le, upd mw (1500 * 1 + size.toInt.toNat) depth, mp'', upd mi 1 (mi 1 + 1), upd mb 1 (mb 1 + le), mo', mm', md') ∧ FR mk mn ms ml mw mp mi mb mo mm md (upd mk (1500 * 1 + size.toInt.toNat) x) (vp_updL mn (1500 * 1 + size.toInt.toNat) 0) (upd ms (1500 * 1 + size.toInt.toNat) (5000 * 1 + b_size)) (upd ml (1500 * 1 + size.toInt.toNat) le) (upd mw (1500 * 1 + size.toInt.toNat) depth) mp'' (upd mi 1 (mi 1 + 1)) (upd mb 1 (mb 1 + le)) mo' mm' md' ∧ DR 1 (upd kinds size.toInt.toNat x) (upd starts size.toInt.toNat b_size) L (upd depths size.toInt.toNat depth) (vp_updL numbers size.toInt.toNat 0) C (b_size + le) b_tooLong openKinds (size + 1) depth (if x = 10 then 1 else 0) (upd mk (1500 * 1 + size.toInt.toNat) x) (vp_updL mn (1500 * 1 + size.toInt.toNat) 0) (upd ms (1500 * 1 + size.toInt.toNat) (5000 * 1 + b_size)) (upd ml (1500 * 1 + size.toInt.toNat) le) (upd mw (1500 * 1 + size.toInt.toNat) depth) mp'' (upd mi 1 (mi 1 + 1)) (upd mb 1 (mb 1 + le)) mo' mm' md' ∧ bX7_addGot_56 mk mn ms ml mw mp' mi mb mo mm md tb tz flags 0 pl first le x x2 = (if x2 = 0 then some (upd mk (1500 * 1 + size.toInt.toNat) x, vp_updL mn (1500 * 1 + size.toInt.toNat) 0, upd ms (1500 * 1 + size.toInt.toNat) (5000 * 1 + b_size), upd ml (1500 * 1 + size.toInt.toNat) le, upd mw (1500 * 1 + size.toInt.toNat) depth, mp'', upd mi 1 (mi 1 + 1), upd mb 1 (mb 1 + le), mo', mm', md', tb, tz, 0, pl) else (fX7_keep (upd ml (1500 * 1 + size.toInt.toNat) le) tb tz (if x = 10 then 0 else 1) flags (1500 + (size + 1) - 1)).bind fun v8 => some (upd mk (1500 * 1 + size.toInt.toNat) x, vp_updL mn (1500 * 1 + size.toInt.toNat) 0, upd ms (1500 * 1 + size.toInt.toNat) (5000 * 1 + b_size), upd ml (1500 * 1 + size.toInt.toNat) le, upd mw (1500 * 1 + size.toInt.toNat) depth, mp'', upd mi 1 (mi 1 + 1), upd mb 1 (mb 1 + le), mo', mm', md', v8.1, v8.2, 0, pl)) := by
  obtain ⟨a1, a2, a3, a4, a5, a6, a7, a8, a9, a10, a11, a12⟩ := id hR.1
  have n5 : ¬ (x = 5 ∨ x = 6) := by rcases hx with rfl | rfl | rfl <;> decide
  have c1 : Int32.toNatClampNeg 1 = 1 := by decide
  have i12 : ix 1 2 := by decide
  obtain ⟨q, q1, q2⟩ := rmay1 hR le 0 x hle.1 (by omega) ⟨fun h => absurd rfl h, fun h => absurd h n5⟩
  obtain ⟨mp'', t1, t2, t3⟩ := rtaken (mk := mk) (mn := mn) (ms := ms) (ml := ml) (mw := mw) (mi := mi) (mb := mb) (mo := mo) (mm := mm) (md := md) (gt := le) (x := x) (by rw [a2]; exact a7) (by rw [a2]; exact hr.2.1) le.toInt.toNat FU mp' 0 (by unfold FU; omega) (by decide) (by rw [z0]; omega)
  rw [a2, z0] at t2 t3
  have hB : DB 1 C (b_size + le) mp'' := by
    refine hR.2.2.1.ext a7 hle.1 hr.2.1 hC (fun k hk => ?_) (fun j hj => ?_)
    · rw [t2 _ (by omega), hm _ (by omega)]
    · rw [t3 j (by omega) hj, hC2 j hj, b8_b8]
      exact ⟨rfl, rfl⟩
  obtain ⟨mo', mm', md', e1, e2, e3, e4⟩ := radd1 hR hx hok hr hle.1 hL hL2 hB
  have hat : fX7_addTaken mk mn ms ml mw mp' mi mb mo mm md le x = some (upd mk (1500 * 1 + size.toInt.toNat) x, vp_updL mn (1500 * 1 + size.toInt.toNat) 0, upd ms (1500 * 1 + size.toInt.toNat) (5000 * 1 + b_size), upd ml (1500 * 1 + size.toInt.toNat) le, upd mw (1500 * 1 + size.toInt.toNat) depth, mp'', upd mi 1 (mi 1 + 1), upd mb 1 (mb 1 + le), mo', mm', md') := by
    unfold fX7_addTaken bX7_addTaken_0
    rw [t1, e1]; rfl
  refine ⟨mp'', mo', mm', md', hat, FR.add (by omega) e2 e3 (fun k hk => by rw [t2 k (by omega), hm k (by omega)]), e4, ?_⟩
  unfold bX7_addGot_56 bX7_addGot_79 bX7_addGot_107
  rw [q1, Option.bind_some, if_neg (fun e => q2.mp e hr), if_pos rfl, hat, Option.bind_some]
  dsimp only
  by_cases g : x2 = 0
  · rw [if_pos g, if_pos g]
  · rw [if_neg g, if_neg g, c1, upd_same, a1]
    by_cases g2 : x = 10
    · rw [if_pos g2, if_pos i12, if_pos g2]
    · rw [if_neg g2, if_pos i12, if_neg g2]
theorem rd_text (hR : DR 1 kinds starts lengths depths numbers b_cells b_size b_tooLong openKinds size depth named mk mn ms ml mw mp mi mb mo mm md) (hN : RT 0 size ni nz tb tz) (hT : RT 1 size ti tz0 tb tz) {k : Nat} (hk : k < 8) {x fm asc : Int32} (hx : x = 3 ∨ x = 10) (hok : (x = 10 → nmc openKinds depth named) ∧ (x ≠ 10 → ¬ (0 < size.toInt ∧ depth.toInt = 0))) (hf : (fm = 1 ∧ asc = 1) ∨ (fm = 2 ∧ asc = 0)) (h0 : at0.toInt < at_.toInt) (h1 : at_.toInt ≤ ls.toInt) (h2 : ls.toInt ≤ 6000) (hcl : ∀ j : Nat, (j : Int) < ls.toInt → lm j = lc j ∧ b8 (lc j) = lc j) (hle : 0 ≤ le.toInt) (hs0 : 0 ≤ st.toInt) (hs1 : st.toInt + le.toInt ≤ ls.toInt) (hS : SCR lm st.toInt le.toInt mp mp') : ∃ v16 v17 r2, fX1_judgeItem 0 fa first x fm st le to 0 ni nz ti tz0 lc ls lengths b_size size depth = some v16 ∧ fX1_keepItem (nI k) at_ v16.1 x 0 fm st v16.2.2.1 v16.2.2.2 ni nc nh nz ti tc th tz0 lc ls kinds starts lengths depths numbers b_cells b_size b_tooLong openKinds size depth named = some v17 ∧ fX7_addGot mk mn ms ml mw mp' mi mb mo mm md tb tz (nI k) 0 pl first le x 1 asc = some r2 ∧ ITM ls at0 size mk mn ms ml mw mp mi mb mo mm md v16.1 at_ v17 (r2.1, r2.2.1, r2.2.2.1, r2.2.2.2.1, r2.2.2.2.2.1, r2.2.2.2.2.2.1, r2.2.2.2.2.2.2.1, r2.2.2.2.2.2.2.2.1, r2.2.2.2.2.2.2.2.2.1, r2.2.2.2.2.2.2.2.2.2.1, r2.2.2.2.2.2.2.2.2.2.2.1, r2.2.2.2.2.2.2.2.2.2.2.2.1, r2.2.2.2.2.2.2.2.2.2.2.2.2.1, at_, r2.2.2.2.2.2.2.2.2.2.2.2.2.2.1, r2.2.2.2.2.2.2.2.2.2.2.2.2.2.2, le) := by
  obtain ⟨a1, a2, a3, a4, a5, a6, a7, a8, a9, a10, a11, a12⟩ := id hR.1
  have hx3 : x = 3 ∨ x = 4 ∨ x = 10 := by rcases hx with h | h; exact Or.inl h; exact Or.inr (Or.inr h)
  have h10 : ¬ ((1 : Int32) = 0) := by decide
  have e5 : (st + le).toInt = st.toInt + le.toInt := zadd (by omega) (by omega)
  have e6 : (10000 + le).toInt = 10000 + le.toInt := by rw [zadd (by rw [z10000]; omega) (by rw [z10000]; omega), z10000]
  have hbyt : ∀ j : Nat, j < le.toInt.toNat → mp' ((10000 : Int32).toInt.toNat + j) = lc (st.toInt.toNat + j) := by
    intro j hj
    rw [z10000, show (10000 : Int).toNat + j = 10000 + j by omega, hS.2 j (by omega), (hcl _ (by omega)).1]
  have hb : ∃ b, ((fm = 1 ∧ fX4_isAscii 6000 lc ls st le = some b) ∨ (fm = 2 ∧ fX4_isText 6000 lc ls st le = some b)) ∧ fX7_addGot mk mn ms ml mw mp' mi mb mo mm md tb tz (nI k) 0 pl first le x 1 asc = (if b = 0 then bX7_addGot_47 mk mn ms ml mw mp' mi mb mo mm md tb tz (nI k) 0 pl first le x 1 else bX7_addGot_56 mk mn ms ml mw mp' mi mb mo mm md tb tz (nI k) 0 pl first le x 1) := by
    unfold fX7_addGot bX7_addGot_0
    rw [if_pos (by decide), if_neg h10]
    rcases hf with ⟨rfl, rfl⟩ | ⟨rfl, rfl⟩
    · obtain ⟨b, b1, b2, b3⟩ := asc_eq (cap := 6000) (c := lc) (pool := mp') (s := ls) h2 st le (by omega) 10000 le (by omega) le.toInt.toNat FU st 10000 (by unfold FU; omega) hs0 (by decide) (by omega) (by rw [z10000]; omega) (fun j hj => ⟨(hbyt j hj).symm, (hcl _ (by omega)).2⟩)
      refine ⟨b, Or.inl ⟨rfl, b1⟩, ?_⟩
      rw [if_neg h10, show fX7_isAscii mp' 10000 le = some b from b2]; rfl
    · obtain ⟨b, b1, b2, b3⟩ := text_eq (cap := 6000) (c := lc) (pool := mp') (s := ls) h2 (by omega) (st + le) (by omega) 10000 le (by omega) le.toInt.toNat FU st 10000 (by unfold FU; omega) hs0 (by decide) (by omega) (by rw [z10000]; omega) (fun j hj => by rw [hbyt j hj])
      refine ⟨b, Or.inr ⟨rfl, b1⟩, ?_⟩
      rw [if_pos rfl, show fX7_isText mp' 10000 le = some b from b2]; rfl
  obtain ⟨b, hb1, hb2⟩ := hb
  obtain ⟨f', fa', e1, e2⟩ := jtext (fa := fa) (first := first) (kd := x) (st := st) (le := le) (to := to) (ov := 0) (ni := ni) (nz := nz) (ti := ti) (tz0 := tz0) (lc := lc) (ls := ls) (fm := fm) hR hb1
  rw [hb2]
  by_cases gb : b = 0
  · have hne : f' ≠ 0 := fun h => (e2.mp h).1 gb
    obtain ⟨v17, k1⟩ := kfault (fl := f') (at_ := at_) (kd := x) (nu := 0) (fm := fm) (st := st) (le := le) (to := to) (ni := ni) (nc := nc) (nh := nh) (nz := nz) (ti := ti) (tc := tc) (th := th) (tz0 := tz0) (lc := lc) (ls := ls) (kinds := kinds) (starts := starts) (lengths := lengths) (depths := depths) (numbers := numbers) (b_cells := b_cells) (b_size := b_size) (b_tooLong := b_tooLong) (openKinds := openKinds) (size := size) (depth := depth) (named := named) hne (nI k)
    rw [if_pos gb]
    unfold bX7_addGot_47
    have hfail : fX7_fail 0 pl 4 first = some (4, first) := rfl
    obtain ⟨pl', g1⟩ := got56_fault (pl := first) (first := first) (mp' := mp') (tb := tb) (tz := tz) (f2 := 4) (x := x) (x2 := 1) (flags := nI k) hR ⟨hle, by omega⟩ (by decide)
    rw [hfail, Option.bind_some, g1]
    exact ⟨_, _, _, e1, k1, rfl, frp hS.1, Or.inl ⟨hne, (show 0 < (4 : Int32).toInt by decide)⟩⟩
  · rw [if_neg gb]
    by_cases hr : roomR b_size size depth x le
    · have hf0 : f' = 0 := e2.mpr ⟨gb, rfl, hr⟩
      subst hf0
      obtain ⟨L, C, p1, p2, p3, p4, p5, p6⟩ := cputrow hR hx3 hr hle hs0 hs1 h2
      obtain ⟨mp'', mo', mm', md', g0, g1, g2, g3⟩ := got56_add (pl := pl) (first := first) (mp' := mp') (tb := tb) (tz := tz) (x2 := 1) (flags := nI k) hR hx3 hok ⟨hle, by omega⟩ hr p3 p4 p5 (fun j hj => by rw [p6 j hj, hS.2 j hj, (hcl _ (by omega)).1]) hS.1
      rw [if_neg h10] at g3
      rw [g3]
      have eS : (size + 1).toInt = size.toInt + 1 := by have := hr.1; rw [zadd (by rw [z1]; omega) (by rw [z1]; omega), z1]
      have eJ : (1500 + (size + 1) - 1).toInt = 1500 + size.toInt := by
        have := hr.1
        have q1 : (1500 + (size + 1)).toInt = 1500 + size.toInt + 1 := by rw [zadd (by rw [z1500]; omega) (by rw [z1500]; omega), z1500]; omega
        rw [zsub (by rw [q1, z1]; omega) (by rw [q1, z1]; omega), q1, z1]; omega
      have iJ : ix (1500 + (size + 1) - 1) 3000 := by
        have := hr.1
        show 0 ≤ _ ∧ _ < _
        rw [eJ]; omega
      have eJn : (1500 + (size + 1) - 1).toNatClampNeg = 1500 * 1 + size.toInt.toNat := by rw [zcl, eJ]; omega
      have ei : (size + 1 - 1).toInt = size.toInt := by rw [Int32.add_sub_cancel]
      have hN' : RT 0 (size + 1) ni nz tb tz := hN.more (by omega)
      have hT' : RT 1 (size + 1) ti tz0 tb tz := hT.more (by omega)
      obtain ⟨q, q1, q2⟩ := ctakes le
      have keepe : ∀ ni' nc' nh' nz' ti' tc' th' tz0', fX1_keepText (nI k) x st le ni nc nh nz ti tc th tz0 lc ls (upd starts size.toInt.toNat b_size) (upd lengths size.toInt.toNat 0) b_cells b_size b_tooLong (size + 1) = some (ni', nc', nh', nz', ti', tc', th', tz0', L, C, b_size + le, b_tooLong) → fX1_keepItem (nI k) at_ 0 x 0 fm st le to ni nc nh nz ti tc th tz0 lc ls kinds starts lengths depths numbers b_cells b_size b_tooLong openKinds size depth named = some (ni', nc', nh', nz', ti', tc', th', tz0', upd kinds size.toInt.toNat x, upd starts size.toInt.toNat b_size, L, upd depths size.toInt.toNat depth, vp_updL numbers size.toInt.toNat 0, C, b_size + le, b_tooLong, openKinds, size + 1, depth, (if x = 10 then 1 else 0)) := by
        intro ni' nc' nh' nz' ti' tc' th' tz0' h
        unfold fX1_keepItem bX1_keepItem_0
        rw [if_pos rfl, p1, Option.bind_some]
        dsimp only
        rw [h]
        rcases hf with ⟨rfl, _⟩ | ⟨rfl, _⟩ <;> rfl
      have shx : fX1_isShared (nI k) x = some (if (if x = 10 then nI k &&& 1 = 1 else nI k &&& 2 = 2) then 1 else 0) := by
        rcases hx with rfl | rfl
        · exact shared1 k hk
        · exact shared0 k hk
      by_cases gs : (if x = 10 then nI k &&& 1 = 1 else nI k &&& 2 = 2) ∧ (1 ≤ le.toInt ∧ le.toInt ≤ 64)
      · rw [if_pos gs.1] at shx
        have qn : ¬ q = 0 := fun e => q2.mp e gs.2
        rcases hx with rfl | rfl
        · rw [if_neg (by decide)] at gs g3 g2 ⊢
          have hkp := rkeep (tb := tb) (tz := tz) (ml := upd ml (1500 * 1 + size.toInt.toNat) le) (t := 1) (by omega) (f := nI k) (i := 1500 + (size + 1) - 1) iJ (by rw [hT.1]; exact hT.2.1) (by rw [hT.1]; exact hT.2.2.1) (by rw [nI1, (flag1 k hk).2]; exact gs.1) (by rw [eJn, upd_same]; exact gs.2.1) (by rw [eJn, upd_same]; exact gs.2.2)
          obtain ⟨tb', tz', k1, k2, k3, k4⟩ := hkp
          rw [nI1] at k1
          rw [hT.1] at k2 k3
          obtain ⟨ti', tc', th', tz0', c1, c2⟩ := cputread (chain := tc) (heads := th) (i := size + 1 - 1) (j := 1500 + (size + 1) - 1) g2 hT' (by omega) (by omega) (by omega) k2 k3
          rw [k1, Option.bind_some]
          refine ⟨_, _, _, e1, keepe ni nc nh nz ti' tc' th' tz0' ?_, rfl, g1, Or.inr ⟨rfl, rfl, rfl, h0, h1, g2, ?_, c2, eS⟩⟩
          rotate_left
          · have ho := k4 0 (by omega) (by omega)
            exact hN'.other ho.2 ho.1
          · unfold fX1_keepText bX1_keepText_0 fX0_size bX0_size_0
            rw [p2, Option.bind_some, shx, Option.bind_some, if_neg h10, q1, Option.bind_some, if_neg qn, if_neg (by decide), Option.bind_some]
            dsimp only
            rw [c1]; rfl
        · rw [if_pos rfl] at gs g3 g2 ⊢
          have hkp := rkeep (tb := tb) (tz := tz) (ml := upd ml (1500 * 1 + size.toInt.toNat) le) (t := 0) (by omega) (f := nI k) (i := 1500 + (size + 1) - 1) iJ (by rw [hN.1]; exact hN.2.1) (by rw [hN.1]; exact hN.2.2.1) (by rw [nI_0, (flag0 k hk).2]; exact gs.1) (by rw [eJn, upd_same]; exact gs.2.1) (by rw [eJn, upd_same]; exact gs.2.2)
          obtain ⟨tb', tz', k1, k2, k3, k4⟩ := hkp
          rw [nI_0] at k1
          rw [hN.1] at k2 k3
          obtain ⟨ni', nc', nh', nz', c1, c2⟩ := cputread (chain := nc) (heads := nh) (i := size + 1 - 1) (j := 1500 + (size + 1) - 1) g2 hN' (by omega) (by omega) (by omega) k2 k3
          rw [k1, Option.bind_some]
          refine ⟨_, _, _, e1, keepe ni' nc' nh' nz' ti tc th tz0 ?_, rfl, g1, Or.inr ⟨rfl, rfl, rfl, h0, h1, g2, c2, ?_, eS⟩⟩
          rotate_left
          · have ho := k4 1 (by omega) (by omega)
            exact hT'.other ho.2 ho.1
          · unfold fX1_keepText bX1_keepText_0 fX0_size bX0_size_0
            rw [p2, Option.bind_some, shx, Option.bind_some, if_neg h10, q1, Option.bind_some, if_neg qn, if_pos rfl, Option.bind_some]
            dsimp only
            rw [c1]; rfl
      · have hkn : fX7_keep (upd ml (1500 * 1 + size.toInt.toNat) le) tb tz (if x = 10 then 0 else 1) (nI k) (1500 + (size + 1) - 1) = some (tb, tz) := by
          rcases hx with rfl | rfl
          · rw [if_neg (by decide)] at gs ⊢
            have := rkeep_no (tb := tb) (tz := tz) (ml := upd ml (1500 * 1 + size.toInt.toNat) le) (t := 1) (by omega) (f := nI k) (i := 1500 + (size + 1) - 1) iJ (by rw [nI1, (flag1 k hk).2, eJn, upd_same]; exact Classical.byContradiction fun h => gs (by
              refine ⟨Classical.byContradiction fun h' => h (Or.inl h'), ?_, ?_⟩
              · exact Classical.byContradiction fun h' => h (Or.inr (Or.inl (by omega)))
              · exact Classical.byContradiction fun h' => h (Or.inr (Or.inr (by omega)))))
            rw [nI1] at this
            exact this
          · rw [if_pos rfl] at gs ⊢
            have := rkeep_no (tb := tb) (tz := tz) (ml := upd ml (1500 * 1 + size.toInt.toNat) le) (t := 0) (by omega) (f := nI k) (i := 1500 + (size + 1) - 1) iJ (by rw [nI_0, (flag0 k hk).2, eJn, upd_same]; exact Classical.byContradiction fun h => gs (by
              refine ⟨Classical.byContradiction fun h' => h (Or.inl h'), ?_, ?_⟩
              · exact Classical.byContradiction fun h' => h (Or.inr (Or.inl (by omega)))
              · exact Classical.byContradiction fun h' => h (Or.inr (Or.inr (by omega)))))
            rw [nI_0] at this
            exact this
        rw [hkn, Option.bind_some]
        refine ⟨_, _, _, e1, keepe ni nc nh nz ti tc th tz0 ?_, rfl, g1, Or.inr ⟨rfl, rfl, rfl, h0, h1, g2, hN', hT', eS⟩⟩
        unfold fX1_keepText bX1_keepText_0
        rw [p2, Option.bind_some, shx, Option.bind_some, q1, Option.bind_some]
        dsimp only
        by_cases gg : (if x = 10 then nI k &&& 1 = 1 else nI k &&& 2 = 2)
        · rw [if_pos gg, if_neg h10, if_pos (q2.mpr fun h => gs ⟨gg, h⟩)]
        · rw [if_neg gg, if_pos rfl]
    · have hne : f' ≠ 0 := fun h => hr (e2.mp h).2.2
      obtain ⟨v17, k1⟩ := kfault (fl := f') (at_ := at_) (kd := x) (nu := 0) (fm := fm) (st := st) (le := le) (to := to) (ni := ni) (nc := nc) (nh := nh) (nz := nz) (ti := ti) (tc := tc) (th := th) (tz0 := tz0) (lc := lc) (ls := ls) (kinds := kinds) (starts := starts) (lengths := lengths) (depths := depths) (numbers := numbers) (b_cells := b_cells) (b_size := b_size) (b_tooLong := b_tooLong) (openKinds := openKinds) (size := size) (depth := depth) (named := named) hne (nI k)
      rw [got56_full hR hx3 ⟨hle, by omega⟩ hr]
      exact ⟨_, _, _, e1, k1, rfl, frp hS.1, Or.inl ⟨hne, (show 0 < (7 : Int32).toInt by decide)⟩⟩
end RT3
