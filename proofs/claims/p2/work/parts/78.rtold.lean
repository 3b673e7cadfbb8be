/-! raw bytes; what is told by its place -/
section RT4
variable {kinds starts lengths depths b_cells openKinds : Nat → Int32} {numbers : Nat → Int64} {b_size b_tooLong size depth named : Int32} {mk ms ml mw mp mi mb mo mm md : Nat → Int32} {mn : Nat → Int64} {ni nc nh ti tc th tb tz lc lm : Nat → Int32} {nz tz0 ls fa pl first kd st le to ov fl at_ : Int32} {nu : Int64} {at0 : Int32} {mp' : Nat → Int32}
theorem rd_raw (hR : DR 1 kinds starts lengths depths numbers b_cells b_size b_tooLong openKinds size depth named mk mn ms ml mw mp mi mb mo mm md) (hN : RT 0 size ni nz tb tz) (hT : RT 1 size ti tz0 tb tz) (flags : Int32) {f2 : Int32} (hok : ¬ (0 < size.toInt ∧ depth.toInt = 0)) (h0 : at0.toInt < at_.toInt) (h1 : at_.toInt ≤ ls.toInt) (h2 : ls.toInt ≤ 6000) (hcl : ∀ j : Nat, (j : Int) < ls.toInt → lm j = lc j ∧ b8 (lc j) = lc j) (hle : 0 ≤ le.toInt) (hs0 : 0 ≤ st.toInt) (hs1 : st.toInt + le.toInt ≤ ls.toInt) {gt : Int32} (hm : ∀ k : Nat, k < 10000 → mp' k = mp k) (hs : (ov = 1 ∧ 0 < f2.toInt) ∨ (ov = 0 ∧ f2 = 0 ∧ gt = le ∧ SCR lm st.toInt le.toInt mp mp')) : ∃ v16 v17 r2, fX1_judgeItem 0 fa first 4 4 st le to ov ni nz ti tz0 lc ls lengths b_size size depth = some v16 ∧ fX1_keepItem flags at_ v16.1 4 0 4 st v16.2.2.1 v16.2.2.2 ni nc nh nz ti tc th tz0 lc ls kinds starts lengths depths numbers b_cells b_size b_tooLong openKinds size depth named = some v17 ∧ fX7_addGot mk mn ms ml mw mp' mi mb mo mm md tb tz flags f2 pl first gt 4 0 0 = some r2 ∧ ITM ls at0 size mk mn ms ml mw mp mi mb mo mm md v16.1 at_ v17 (r2.1, r2.2.1, r2.2.2.1, r2.2.2.2.1, r2.2.2.2.2.1, r2.2.2.2.2.2.1, r2.2.2.2.2.2.2.1, r2.2.2.2.2.2.2.2.1, r2.2.2.2.2.2.2.2.2.1, r2.2.2.2.2.2.2.2.2.2.1, r2.2.2.2.2.2.2.2.2.2.2.1, r2.2.2.2.2.2.2.2.2.2.2.2.1, r2.2.2.2.2.2.2.2.2.2.2.2.2.1, at_, r2.2.2.2.2.2.2.2.2.2.2.2.2.2.1, r2.2.2.2.2.2.2.2.2.2.2.2.2.2.2, gt) := by
  obtain ⟨a1, a2, a3, a4, a5, a6, a7, a8, a9, a10, a11, a12⟩ := id hR.1
  obtain ⟨f', fa', e1, e2⟩ := jplain (fa := fa) (first := first) (kd := 4) (st := st) (le := le) (to := to) (ov := ov) (ni := ni) (nz := nz) (ti := ti) (tz0 := tz0) (lc := lc) (ls := ls) (fm := 4) hR (by decide)
  unfold fX7_addGot bX7_addGot_0
  have kf : f' ≠ 0 → ∃ r, fX1_keepItem flags at_ f' 4 0 4 st le to ni nc nh nz ti tc th tz0 lc ls kinds starts lengths depths numbers b_cells b_size b_tooLong openKinds size depth named = some r := fun h => kfault h flags
  rcases hs with ⟨rfl, hf2⟩ | ⟨rfl, rfl, rfl, hS⟩
  · have hne : f' ≠ 0 := fun h => absurd (e2.mp h).1 (by decide)
    obtain ⟨v17, k1⟩ := kf hne
    rw [if_neg (by rw [zle, z0]; omega)]
    exact ⟨_, _, _, e1, k1, rfl, frp hm, Or.inl ⟨hne, hf2⟩⟩
  · rw [if_pos (by decide), if_pos rfl]
    by_cases hr : roomR b_size size depth 4 gt
    · have hf0 : f' = 0 := e2.mpr ⟨rfl, hr⟩
      subst hf0
      obtain ⟨L, C, p1, p2, p3, p4, p5, p6⟩ := cputrow (x := 4) hR (by decide) hr hle hs0 hs1 h2
      obtain ⟨mp'', mo', mm', md', g0, g1, g2, g3⟩ := got56_add (pl := pl) (first := first) (mp' := mp') (tb := tb) (tz := tz) (x := 4) (x2 := 0) (flags := flags) hR (by decide) ⟨fun h => absurd h (by decide), fun _ => hok⟩ ⟨hle, by omega⟩ hr p3 p4 p5 (fun j hj => by rw [p6 j hj, hS.2 j hj, (hcl _ (by omega)).1]) hS.1
      rw [if_pos rfl] at g3
      rw [g3]
      have eS : (size + 1).toInt = size.toInt + 1 := by have := hr.1; rw [zadd (by rw [z1]; omega) (by rw [z1]; omega), z1]
      have hkp : fX1_keepItem flags at_ 0 4 0 4 st gt to ni nc nh nz ti tc th tz0 lc ls kinds starts lengths depths numbers b_cells b_size b_tooLong openKinds size depth named = some (ni, nc, nh, nz, ti, tc, th, tz0, upd kinds size.toInt.toNat 4, upd starts size.toInt.toNat b_size, L, upd depths size.toInt.toNat depth, vp_updL numbers size.toInt.toNat 0, C, b_size + gt, b_tooLong, openKinds, size + 1, depth, (if (4 : Int32) = 10 then 1 else 0)) := by
        unfold fX1_keepItem bX1_keepItem_0
        rw [if_pos rfl, p1, Option.bind_some]
        dsimp only
        rw [p2]; rfl
      exact ⟨_, _, _, e1, hkp, rfl, g1, Or.inr ⟨rfl, rfl, rfl, h0, h1, g2, hN.more (by show _ ≤ (size + 1).toInt; omega), hT.more (by show _ ≤ (size + 1).toInt; omega), eS⟩⟩
    · have hne : f' ≠ 0 := fun h => hr (e2.mp h).2
      obtain ⟨v17, k1⟩ := kf hne
      rw [got56_full hR (by decide) ⟨hle, by omega⟩ hr]
      exact ⟨_, _, _, e1, k1, rfl, frp hm, Or.inl ⟨hne, (show 0 < (7 : Int32).toInt by decide)⟩⟩
/-- class: bytes of the document itself behind all -/
theorem cexts (hs : 0 < size.toInt) (hs2 : size.toInt ≤ 1500) (x2 x3 : Int32) (orig : Nat → Int32) (B : Int) : ∀ (n fuel : Nat) (x4 : Int32) (lengths b_cells : Nat → Int32) (b_size : Int32), n < fuel → 0 ≤ x4.toInt → x4.toInt + n = (x2 + x3).toInt → x4.toInt + n ≤ B → B ≤ b_size.toInt → b_size.toInt + n ≤ 5000 → (∀ k : Nat, (k : Int) < B → b_cells k = orig k) → ∃ L C, bX0_extendBy_self_3 fuel starts lengths b_cells b_size 0 size x2 x3 x4 = some (L, C, b_size + nI n, 0) ∧ (∀ i, i ≠ size.toInt.toNat - 1 → L i = lengths i) ∧ L (size.toInt.toNat - 1) = (if n = 0 then lengths (size.toInt.toNat - 1) else b_size + nI n - starts (size.toInt.toNat - 1)) ∧ (∀ k : Nat, (k : Int) < b_size.toInt → C k = b_cells k) ∧ ∀ j : Nat, j < n → C (b_size.toInt.toNat + j) = b8 (orig (x4.toInt.toNat + j)) := by
  intro n
  induction n with
  | zero =>
    intro fuel x4 lengths b_cells b_size hfu h0 hx hxB hB hb2 ho
    obtain ⟨f, rfl⟩ : ∃ f, fuel = f + 1 := ⟨fuel - 1, by omega⟩
    refine ⟨lengths, b_cells, ?_, fun _ _ => rfl, by rw [if_pos rfl], fun _ _ => rfl, fun j hj => by omega⟩
    rw [bX0_extendBy_self_3, if_pos (by rw [zle]; omega)]
    rw [show b_size + nI 0 = b_size by rw [nI_0, Int32.add_zero]]
  | succ n ih =>
    intro fuel x4 lengths b_cells b_size hfu h0 hx hxB hB hb2 ho
    obtain ⟨f, rfl⟩ : ∃ f, fuel = f + 1 := ⟨fuel - 1, by omega⟩
    have hh := zhi (x2 + x3)
    have e1 : (x4 + 1).toInt = x4.toInt + 1 := by rw [zadd (by rw [z1]; omega) (by rw [z1]; omega), z1]
    have e2 : (b_size + 1).toInt = b_size.toInt + 1 := by rw [zadd (by rw [z1]; omega) (by rw [z1]; omega), z1]
    have e3 : b_size + 1 + nI n = b_size + nI (n + 1) := by rw [nI_succ, Int32.add_assoc, Int32.add_comm 1]
    have hat : fX2_at 5000 b_cells b_size x4 = some (orig x4.toInt.toNat &&& 255) := by
      rw [cat (by show _ ≤ (5000 : Int); omega), catv_in h0 (by omega), zcl, ho _ (by omega)]
    obtain ⟨L, C, g1, g2, g3, g4, g5⟩ := ih f (x4 + 1) (upd lengths (size.toInt.toNat - 1) (b_size + 1 - starts (size.toInt.toNat - 1))) (upd b_cells b_size.toInt.toNat (b8 (b8 (orig x4.toInt.toNat &&& 255)))) (b_size + 1) (by omega) (by omega) (by omega) (by omega) (by omega) (by omega) (fun k hk => by rw [upd_ne (by omega)]; exact ho k hk)
    rw [e3] at g1 g3
    refine ⟨L, C, ?_, ?_, ?_, ?_, ?_⟩
    · rw [bX0_extendBy_self_3, if_neg (by rw [zle]; omega), hat, Option.bind_some, cextend hs hs2 (by omega) (by omega), Option.bind_some]
      exact g1
    · intro i hi
      rw [g2 i hi, upd_ne hi]
    · rw [if_neg (show ¬ (n + 1 = 0) by omega), g3]
      by_cases hn : n = 0
      · subst hn; rw [if_pos rfl, upd_same, ← e3, nI_0, Int32.add_zero]
      · rw [if_neg hn]
    · intro k hk
      rw [g4 k (by omega), upd_ne (by omega)]
    · intro j hj
      by_cases hj0 : j = 0
      · subst hj0
        rw [Nat.add_zero, Nat.add_zero, g4 _ (by omega), upd_same, b8_b8, b8_and]
      · have := g5 (j - 1) (by omega)
        rw [e2, e1] at this
        rw [show b_size.toInt.toNat + j = (b_size.toInt + 1).toNat + (j - 1) by omega, this]
        congr 2; omega
/-- the reference: bytes of an item into the scratch -/
theorem rplaced (tbx tzx : Nat → Int32) {x i f2 : Int32} (h2 : 0 ≤ (ms i.toNatClampNeg).toInt) (h3 : (ms i.toNatClampNeg).toInt + (ml i.toNatClampNeg).toInt ≤ 10000) (h4 : (ml i.toNatClampNeg).toInt ≤ 5000) (hi : ix i 3000) (hb : ∀ j : Nat, (j : Int) < (ml i.toNatClampNeg).toInt → b8 (mp ((ms i.toNatClampNeg).toInt.toNat + j)) = mp ((ms i.toNatClampNeg).toInt.toNat + j)) : ∀ (n fuel : Nat) (gt : Int32) (mp1 : Nat → Int32), n < fuel → 0 ≤ gt.toInt → gt.toInt + n = (ml i.toNatClampNeg).toInt → SCR mp (ms i.toNatClampNeg).toInt gt.toInt mp mp1 → ∃ mp', SCR mp (ms i.toNatClampNeg).toInt (ml i.toNatClampNeg).toInt mp mp' ∧ bX7_addPlaced_56 fuel mk mn ms ml mw mp1 mi mb mo mm md tbx tzx f2 pl first gt x i gt = ((fX7_mayBe mi mb md 1 (ml i.toNatClampNeg) 0).bind fun v6 => (if v6 = 0 then ((fX7_fail f2 pl 7 first).bind fun v8 => some (mk, mn, ms, ml, mw, mp', mi, mb, mo, mm, md, v8.1, v8.2, ml i.toNatClampNeg)) else ((fX7_addTaken mk mn ms ml mw mp' mi mb mo mm md (ml i.toNatClampNeg) x).bind fun v7 => some (v7.1, v7.2.1, v7.2.2.1, v7.2.2.2.1, v7.2.2.2.2.1, v7.2.2.2.2.2.1, v7.2.2.2.2.2.2.1, v7.2.2.2.2.2.2.2.1, v7.2.2.2.2.2.2.2.2.1, v7.2.2.2.2.2.2.2.2.2.1, v7.2.2.2.2.2.2.2.2.2.2, f2, pl, ml i.toNatClampNeg)))) := by
  intro n
  induction n with
  | zero =>
    intro fuel gt mp1 hf h0 hn hS
    obtain ⟨f, rfl⟩ : ∃ f, fuel = f + 1 := ⟨fuel - 1, by omega⟩
    have e : gt = ml i.toNatClampNeg := zeq.mpr (by omega)
    refine ⟨mp1, by rw [← e]; exact hS, ?_⟩
    rw [bX7_addPlaced_56, if_pos hi, if_pos (by rw [zle]; omega), e]
  | succ n ih =>
    intro fuel gt mp1 hf h0 hn hS
    obtain ⟨f, rfl⟩ : ∃ f, fuel = f + 1 := ⟨fuel - 1, by omega⟩
    have eg : (gt + 1).toInt = gt.toInt + 1 := by rw [zadd (by rw [z1]; omega) (by rw [z1]; omega), z1]
    have es : (ms i.toNatClampNeg + gt).toInt = (ms i.toNatClampNeg).toInt + gt.toInt := zadd (by omega) (by omega)
    have hsrc : mp1 ((ms i.toNatClampNeg).toInt + gt.toInt).toNat = mp ((ms i.toNatClampNeg).toInt + gt.toInt).toNat := hS.1 _ (by omega)
    have hbx := hb gt.toInt.toNat (by omega)
    rw [show (ms i.toNatClampNeg).toInt.toNat + gt.toInt.toNat = ((ms i.toNatClampNeg).toInt + gt.toInt).toNat by omega] at hbx
    have hS' := hS.more h2 h0 hbx
    rw [b8_b8, b8_and, ← b8_b8] at hS'
    obtain ⟨mp', g1, g2⟩ := ih f (gt + 1) _ (by omega) (by omega) (by omega) (by rw [eg]; exact hS')
    refine ⟨mp', g1, ?_⟩
    rw [bX7_addPlaced_56, if_pos hi, if_neg (by rw [zle]; omega), if_pos hi, if_pos (by show 0 ≤ _ ∧ _ < _; rw [es]; omega), zcl, es, hsrc, rtake h0 (by omega), Option.bind_some]
    exact g2
/-- class: put, then the bytes of an earlier item -/
theorem cputold (hR : DR 1 kinds starts lengths depths numbers b_cells b_size b_tooLong openKinds size depth named mk mn ms ml mw mp mi mb mo mm md) {x it : Int32} (hx : x = 3 ∨ x = 10) (hi0 : 0 ≤ it.toInt) (hi1 : it.toInt < size.toInt) (hr : roomR b_size size depth x (lengths it.toInt.toNat)) : ∃ L C, fX0_put kinds starts lengths depths numbers b_size openKinds size depth named x 0 = some (upd kinds size.toInt.toNat x, upd starts size.toInt.toNat b_size, upd lengths size.toInt.toNat 0, upd depths size.toInt.toNat depth, vp_updL numbers size.toInt.toNat 0, openKinds, size + 1, depth, (if x = 10 then 1 else 0)) ∧ fX0_extendByTextOf (upd starts size.toInt.toNat b_size) (upd lengths size.toInt.toNat 0) b_cells b_size b_tooLong (size + 1) it = some (L, C, b_size + lengths it.toInt.toNat, b_tooLong) ∧ L size.toInt.toNat = lengths it.toInt.toNat ∧ (∀ i : Nat, (i : Int) < size.toInt → L i = lengths i) ∧ (∀ k : Nat, (k : Int) < b_size.toInt → C k = b_cells k) ∧ ∀ j : Nat, (j : Int) < (lengths it.toInt.toNat).toInt → C (b_size.toInt.toNat + j) = b8 (b_cells ((starts it.toInt.toNat).toInt.toNat + j)) := by
  obtain ⟨a1, a2, a3, a4, a5, a6, a7, a8, a9, a10, a11, a12⟩ := id hR.1
  obtain ⟨b1, b2, b3, b4, b5, b6, b7, b8', -⟩ := hR.2.1 it.toInt.toNat (by omega)
  have n11 : x ≠ 11 := by rcases hx with rfl | rfl <;> decide
  have n5 : ¬ (x = 5 ∨ x = 6) := by rcases hx with rfl | rfl <;> decide
  have hp := cput (kinds := kinds) (starts := starts) (lengths := lengths) (depths := depths) (numbers := numbers) (b_size := b_size) (openKinds := openKinds) (named := named) (v := 0) (x := x) a5 hr.1 a9 a10 (fun h => absurd h n5) (fun h => absurd h n11)
  simp only [if_neg n11, if_neg n5] at hp
  subst a4
  have hr1 := hr.1
  have hr2 := hr.2.1
  have e1 : (size + 1).toInt = size.toInt + 1 := by rw [zadd (by rw [z1]; omega) (by rw [z1]; omega), z1]
  have e2 : (size + 1).toInt.toNat - 1 = size.toInt.toNat := by omega
  have hne : it.toInt.toNat ≠ size.toInt.toNat := by omega
  have e3 : (starts it.toInt.toNat + lengths it.toInt.toNat).toInt = (starts it.toInt.toNat).toInt + (lengths it.toInt.toNat).toInt := zadd (by omega) (by omega)
  have e4 : nI (lengths it.toInt.toNat).toInt.toNat = lengths it.toInt.toNat := (zNeg (by omega)).symm
  obtain ⟨L, C, g1, g2, g3, g4, g5⟩ := cexts (starts := upd starts size.toInt.toNat b_size) (size := size + 1) (by omega) (by omega) (starts it.toInt.toNat) (lengths it.toInt.toNat) b_cells b_size.toInt (lengths it.toInt.toNat).toInt.toNat FU (starts it.toInt.toNat) (upd lengths size.toInt.toNat 0) b_cells b_size (by unfold FU; omega) b6 (by omega) (by omega) (by omega) (by omega) (fun _ _ => rfl)
  rw [e2, upd_same, upd_same, e4] at g3
  rw [e2] at g2
  rw [e4] at g1
  refine ⟨L, C, hp, ?_, ?_, fun i hi => ?_, g4, fun j hj => g5 j (by omega)⟩
  · unfold fX0_extendByTextOf bX0_extendByTextOf_0 fX0_extendBy_self bX0_extendBy_self_0
    rw [chas1 (by omega) hi0 (by omega), Option.bind_some, if_neg (by decide), if_pos ⟨hi0, by omega⟩, if_pos ⟨hi0, by omega⟩, zcl, upd_ne hne, upd_ne hne, g1]; rfl
  · rw [g3]
    by_cases g : (lengths it.toInt.toNat).toInt.toNat = 0
    · rw [if_pos g, zeq, z0]; omega
    · have e5 : (b_size + lengths it.toInt.toNat).toInt = b_size.toInt + (lengths it.toInt.toNat).toInt := zadd (by omega) (by omega)
      rw [if_neg g, zeq, zsub (by omega) (by omega), e5]; omega
  · rw [g2 i (by omega), upd_ne (by omega)]
theorem citem (items : Nat → Int32) (sz p : Int32) (h1 : sz.toInt ≤ 1024) : ∃ it, fX3_itemAt items sz p = some it ∧ ((0 ≤ p.toInt ∧ p.toInt < sz.toInt ∧ p.toInt % 256 < 254 ∧ it = items p.toInt.toNat) ∨ (¬ (0 ≤ p.toInt ∧ p.toInt < sz.toInt ∧ p.toInt % 256 < 254) ∧ it = -1)) := by
  unfold fX3_itemAt bX3_itemAt_0
  by_cases g0 : 0 ≤ p.toInt
  · rw [if_neg (by rw [zlt, z0]; omega)]
    by_cases g1 : p.toInt < sz.toInt
    · have ep : p = nI p.toInt.toNat := zNeg (by omega)
      have hct := ctold p.toInt.toNat (by omega)
      rw [← ep] at hct
      rw [if_neg (by rw [zle]; omega), hct, Option.bind_some]
      by_cases g2 : p.toInt.toNat % 256 < 254
      · rw [if_pos g2, if_neg (by decide), if_pos ⟨g0, by omega⟩]
        exact ⟨_, rfl, Or.inl ⟨g0, g1, by omega, rfl⟩⟩
      · rw [if_neg g2, if_pos rfl]
        exact ⟨_, rfl, Or.inr ⟨by omega, rfl⟩⟩
    · rw [if_pos (by rw [zle]; omega)]
      exact ⟨_, rfl, Or.inr ⟨by omega, rfl⟩⟩
  · rw [if_pos (by rw [zlt, z0]; omega)]
    exact ⟨_, rfl, Or.inr ⟨by omega, rfl⟩⟩
theorem rd_told (hR : DR 1 kinds starts lengths depths numbers b_cells b_size b_tooLong openKinds size depth named mk mn ms ml mw mp mi mb mo mm md) (hN : RT 0 size ni nz tb tz) (hT : RT 1 size ti tz0 tb tz) (flags : Int32) {x : Int32} {t : Nat} (hx : (x = 3 ∧ t = 1) ∨ (x = 10 ∧ t = 0)) (hok : (x = 10 → nmc openKinds depth named) ∧ (x ≠ 10 → ¬ (0 < size.toInt ∧ depth.toInt = 0))) (h0 : at0.toInt < at_.toInt) (h1 : at_.toInt ≤ ls.toInt) (hp0 : 0 ≤ to.toInt) (hp1 : to.toInt < 1024) : ∃ v16 v17 r2, fX1_judgeItem 0 fa first x 3 st le to 0 ni nz ti tz0 lc ls lengths b_size size depth = some v16 ∧ fX1_keepItem flags at_ v16.1 x 0 3 st v16.2.2.1 v16.2.2.2 ni nc nh nz ti tc th tz0 lc ls kinds starts lengths depths numbers b_cells b_size b_tooLong openKinds size depth named = some v17 ∧ fX7_addPlaced mk mn ms ml mw mp mi mb mo mm md tb tz 0 pl first 0 x (nI t) to = some r2 ∧ ITM ls at0 size mk mn ms ml mw mp mi mb mo mm md v16.1 at_ v17 (r2.1, r2.2.1, r2.2.2.1, r2.2.2.2.1, r2.2.2.2.2.1, r2.2.2.2.2.2.1, r2.2.2.2.2.2.2.1, r2.2.2.2.2.2.2.2.1, r2.2.2.2.2.2.2.2.2.1, r2.2.2.2.2.2.2.2.2.2.1, r2.2.2.2.2.2.2.2.2.2.2.1, tb, tz, at_, r2.2.2.2.2.2.2.2.2.2.2.2.1, r2.2.2.2.2.2.2.2.2.2.2.2.2.1, r2.2.2.2.2.2.2.2.2.2.2.2.2.2) := by
  obtain ⟨a1, a2, a3, a4, a5, a6, a7, a8, a9, a10, a11, a12⟩ := id hR.1
  have ht : t ≤ 1 := by rcases hx with ⟨_, h⟩ | ⟨_, h⟩ <;> omega
  obtain ⟨a, b⟩ := rdd ht
  have hx' : x = 3 ∨ x = 10 := by rcases hx with ⟨h, _⟩ | ⟨h, _⟩; exact Or.inl h; exact Or.inr h
  have hx3 : x = 3 ∨ x = 4 ∨ x = 10 := by rcases hx' with h | h; exact Or.inl h; exact Or.inr (Or.inr h)
  have n5 : ¬ (x = 5 ∨ x = 6) := by rcases hx' with rfl | rfl <;> decide
  obtain ⟨items, sz, hTab, hsel⟩ : ∃ items sz, RT t size items sz tb tz ∧ ((x = 10 ∧ items = ni ∧ sz = nz) ∨ (x ≠ 10 ∧ items = ti ∧ sz = tz0)) := by
    rcases hx with ⟨rfl, rfl⟩ | ⟨rfl, rfl⟩
    · exact ⟨ti, tz0, hT, Or.inr ⟨by decide, rfl, rfl⟩⟩
    · exact ⟨ni, nz, hN, Or.inl ⟨rfl, rfl, rfl⟩⟩
  obtain ⟨t1, t2, t3, t4⟩ := id hTab
  obtain ⟨it, i1, i2⟩ := citem items sz to t3
  have hsel' : (x = 10 ∧ fX3_itemAt ni nz to = some it) ∨ (x ≠ 10 ∧ fX3_itemAt ti tz0 to = some it) := by
    rcases hsel with ⟨h, rfl, rfl⟩ | ⟨h, rfl, rfl⟩
    · exact Or.inl ⟨h, i1⟩
    · exact Or.inr ⟨h, i1⟩
  have hmask : (to &&& 255).toInt = to.toInt % 256 := zand255 _
  have z254 : (254 : Int32).toInt = 254 := by decide
  unfold fX7_addPlaced bX7_addPlaced_0 bX7_addPlaced_29
  rw [if_pos (by decide), if_pos a, b, t1]
  have hfail : fX7_fail 0 pl 5 first = some (5, first) := rfl
  rcases i2 with ⟨g0, g1, g2, g3⟩ | ⟨g0, g3⟩
  · obtain ⟨u1, u2, u3⟩ := t4 to.toInt.toNat (by omega)
    rw [← g3] at u1 u2 u3
    have hlen : fX0_lengthOf lengths size it = some (lengths it.toInt.toNat) := clength a6 u2 u3
    obtain ⟨f', fa', e1, e2⟩ := jtold (fa := fa) (first := first) (kd := x) (st := st) (le := le) (to := to) (ov := 0) (ni := ni) (nz := nz) (ti := ti) (tz0 := tz0) (lc := lc) (ls := ls) hR hsel' hlen
    have itne : it ≠ -1 := fun h => by rw [h, zm1] at u2; omega
    obtain ⟨b1, b2, b3, b4, b5, b6, b7, b8', -⟩ := hR.2.1 it.toInt.toNat (by omega)
    have z1024 : (1024 : Int32).toInt = 1024 := by decide
    have eq2 : (1024 * nI t).toInt = 1024 * t := by rw [zmul (by rw [z1024, znI (by omega)]; omega) (by rw [z1024, znI (by omega)]; omega), z1024, znI (by omega)]
    have eq3 : (1024 * nI t + to).toInt = 1024 * t + to.toInt := by rw [zadd (by rw [eq2]; omega) (by rw [eq2]; omega), eq2]
    rw [if_neg (by rw [zle]; omega), if_pos (by rw [zlt, hmask, z254]; exact g2), if_pos (by show 0 ≤ _ ∧ _ < _; rw [eq3]; omega), zcl, eq3, show (1024 * (t : Int) + to.toInt).toNat = 1024 * t + to.toInt.toNat by omega]
    generalize tb (1024 * t + to.toInt.toNat) = J at u1
    have eJ : J.toNatClampNeg = 1500 * 1 + it.toInt.toNat := by rw [zcl]; omega
    have iJ : ix J 3000 := ⟨by omega, by omega⟩
    have hml : ml J.toNatClampNeg = lengths it.toInt.toNat := by rw [eJ]; exact b4
    have hms : (ms J.toNatClampNeg).toInt = 5000 + (starts it.toInt.toNat).toInt := by rw [eJ, b3]; omega
    obtain ⟨mp1, s1, s2⟩ := rplaced (mk := mk) (mn := mn) (ms := ms) (ml := ml) (mw := mw) (mp := mp) (mi := mi) (mb := mb) (mo := mo) (mm := mm) (md := md) (pl := pl) (first := first) tb tz (x := x) (i := J) (f2 := 0) (by omega) (by rw [hml]; omega) (by rw [hml]; omega) iJ (fun j hj => by
      rw [hml] at hj
      obtain ⟨w1, w2⟩ := hR.2.2.1 ((starts it.toInt.toNat).toInt.toNat + j) (by omega)
      rw [show (ms J.toNatClampNeg).toInt.toNat + j = 5000 * 1 + ((starts it.toInt.toNat).toInt.toNat + j) by omega, w1, w2]) (lengths it.toInt.toNat).toInt.toNat FU 0 mp (by unfold FU; omega) (by decide) (by rw [hml, z0]; omega) ⟨fun _ _ => rfl, fun j hj => by rw [z0] at hj; omega⟩
    rw [hml] at s1 s2
    rw [s2]
    obtain ⟨q, q1, q2⟩ := rmay1 hR (lengths it.toInt.toNat) 0 x b7 (by omega) ⟨fun h => absurd rfl h, fun h => absurd h n5⟩
    rw [q1, Option.bind_some]
    by_cases hr : roomR b_size size depth x (lengths it.toInt.toNat)
    · have hf0 : f' = 0 := e2.mpr ⟨itne, rfl, hr⟩
      subst hf0
      obtain ⟨L, C, p1, p2, p3, p4, p5, p6⟩ := cputold hR hx' u2 u3 hr
      have hbs : ∀ j : Nat, (j : Int) < (lengths it.toInt.toNat).toInt → mp1 (10000 + j) = b_cells ((starts it.toInt.toNat).toInt.toNat + j) := by
        intro j hj
        rw [s1.2 j hj]
        obtain ⟨w1, w2⟩ := hR.2.2.1 ((starts it.toInt.toNat).toInt.toNat + j) (by omega)
        rw [show (ms J.toNatClampNeg).toInt.toNat + j = 5000 * 1 + ((starts it.toInt.toNat).toInt.toNat + j) by omega, w1]
      obtain ⟨mp'', mo', mm', md', y0, y1, y2, -⟩ := got56_add (pl := pl) (first := first) (mp' := mp1) (tb := tb) (tz := tz) (x2 := 0) (flags := 0) (le := lengths it.toInt.toNat) hR hx3 hok ⟨b7, by omega⟩ hr p3 p4 p5 (fun j hj => by rw [p6 j hj, hbs j hj]) s1.1
      rw [if_neg (fun e => q2.mp e hr), y0, Option.bind_some]
      have eS : (size + 1).toInt = size.toInt + 1 := by have := hr.1; rw [zadd (by rw [z1]; omega) (by rw [z1]; omega), z1]
      have hkp : fX1_keepItem flags at_ 0 x 0 3 st (lengths it.toInt.toNat) it ni nc nh nz ti tc th tz0 lc ls kinds starts lengths depths numbers b_cells b_size b_tooLong openKinds size depth named = some (ni, nc, nh, nz, ti, tc, th, tz0, upd kinds size.toInt.toNat x, upd starts size.toInt.toNat b_size, L, upd depths size.toInt.toNat depth, vp_updL numbers size.toInt.toNat 0, C, b_size + lengths it.toInt.toNat, b_tooLong, openKinds, size + 1, depth, (if x = 10 then 1 else 0)) := by
        unfold fX1_keepItem bX1_keepItem_0
        rw [if_pos rfl, p1, Option.bind_some]
        dsimp only
        rw [p2]; rfl
      exact ⟨_, _, _, e1, hkp, rfl, y1, Or.inr ⟨rfl, rfl, rfl, h0, h1, y2, hN.more (by show _ ≤ (size + 1).toInt; omega), hT.more (by show _ ≤ (size + 1).toInt; omega), eS⟩⟩
    · have hne : f' ≠ 0 := fun h => hr (e2.mp h).2.2
      obtain ⟨v17, k1⟩ : ∃ r, fX1_keepItem flags at_ f' x 0 3 st (lengths it.toInt.toNat) it ni nc nh nz ti tc th tz0 lc ls kinds starts lengths depths numbers b_cells b_size b_tooLong openKinds size depth named = some r := kfault hne flags
      have hfail7 : fX7_fail 0 pl 7 first = some (7, first) := rfl
      rw [if_pos (q2.mpr hr), hfail7, Option.bind_some]
      exact ⟨_, _, _, e1, k1, rfl, frp s1.1, Or.inl ⟨hne, (show 0 < (7 : Int32).toInt by decide)⟩⟩
  · have hlen : fX0_lengthOf lengths size it = some (-1) := by
      unfold fX0_lengthOf bX0_lengthOf_0
      rw [chas0 a6 (by rw [g3, zm1]; omega)]; rfl
    obtain ⟨f', fa', e1, e2⟩ := jtold (fa := fa) (first := first) (kd := x) (st := st) (le := le) (to := to) (ov := 0) (ni := ni) (nz := nz) (ti := ti) (tz0 := tz0) (lc := lc) (ls := ls) hR hsel' hlen
    have hne : f' ≠ 0 := fun h => (e2.mp h).1 g3
    obtain ⟨v17, k1⟩ : ∃ r, fX1_keepItem flags at_ f' x 0 3 st (-1) it ni nc nh nz ti tc th tz0 lc ls kinds starts lengths depths numbers b_cells b_size b_tooLong openKinds size depth named = some r := kfault hne flags
    by_cases gg : sz ≤ to
    · rw [if_pos gg, hfail, Option.bind_some]
      exact ⟨_, _, _, e1, k1, rfl, FR.refl, Or.inl ⟨hne, (show 0 < (5 : Int32).toInt by decide)⟩⟩
    · rw [if_neg gg]
      rw [zle] at gg
      rw [if_neg (by rw [zlt, hmask, z254]; omega), hfail, Option.bind_some]
      exact ⟨_, _, _, e1, k1, rfl, FR.refl, Or.inl ⟨hne, (show 0 < (5 : Int32).toInt by decide)⟩⟩
end RT4
