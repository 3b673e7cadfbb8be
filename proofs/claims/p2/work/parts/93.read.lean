/-! read -/
section Re
variable {kinds starts lengths depths b_cells openKinds : Nat → Int32} {numbers : Nat → Int64} {b_size b_tooLong size depth named : Int32} {mk ms ml mw mp mi mb mo mm md : Nat → Int32} {mn : Nat → Int64} {skinds sstarts slengths sdepths sb_cells sopenKinds : Nat → Int32} {snumbers : Nat → Int64} {sb_size sb_tooLong ssize sdepth snamed : Int32} {ni nc nh ti tc th tb tz lc lm : Nat → Int32} {nz tz0 ls lt fl at_ ft fa first kd fm st le to ov : Int32} {nu : Int64} {rat rfl_ rft rpl rfirst rgt : Int32}
theorem tot_place (a b : Int32) : ∃ r r', fX6_place a = some r ∧ fX7_place b = some r' := ⟨_, _, rfl, rfl⟩
set_option maxHeartbeats 4000000 in
theorem sim_read (hD : DR 0 kinds starts lengths depths numbers b_cells b_size b_tooLong openKinds size depth named mk mn ms ml mw mp mi mb mo mm md) (hL : RR 6000 lc ls lt lm ls) : ∃ r r', fX6_read lc ls lt skinds sstarts slengths sdepths snumbers sb_cells sb_size sb_tooLong sopenKinds ssize sdepth snamed ni nc nh nz ti tc th tz0 fl at_ ft fa first kd nu fm st le to ov = some r ∧ fX7_read lm mk mn ms ml mw mp mi mb mo mm md tb tz ls rat rfl_ rft rpl rfirst rgt = some r' ∧ RR 6000 lc r.2.2.1 r.2.2.2.1 lm r'.2.2.2.2.2.2.2.2.2.2.2.2.2.2.1 ∧ ((r.2.1 = 0 ∧ DR 0 kinds starts lengths depths numbers b_cells b_size b_tooLong openKinds size depth named r'.2.1 r'.2.2.1 r'.2.2.2.1 r'.2.2.2.2.1 r'.2.2.2.2.2.1 r'.2.2.2.2.2.2.1 r'.2.2.2.2.2.2.2.1 r'.2.2.2.2.2.2.2.2.1 r'.2.2.2.2.2.2.2.2.2.1 r'.2.2.2.2.2.2.2.2.2.2.1 r'.2.2.2.2.2.2.2.2.2.2.2.1) ∨ (¬ r.2.1 = 0 ∧ DR 0 r.2.2.2.2.1 r.2.2.2.2.2.1 r.2.2.2.2.2.2.1 r.2.2.2.2.2.2.2.1 r.2.2.2.2.2.2.2.2.1 r.2.2.2.2.2.2.2.2.2.1 r.2.2.2.2.2.2.2.2.2.2.1 r.2.2.2.2.2.2.2.2.2.2.2.1 r.2.2.2.2.2.2.2.2.2.2.2.2.1 r.2.2.2.2.2.2.2.2.2.2.2.2.2.1 r.2.2.2.2.2.2.2.2.2.2.2.2.2.2.1 r.2.2.2.2.2.2.2.2.2.2.2.2.2.2.2.1 r'.2.1 r'.2.2.1 r'.2.2.2.1 r'.2.2.2.2.1 r'.2.2.2.2.2.1 r'.2.2.2.2.2.2.1 r'.2.2.2.2.2.2.2.1 r'.2.2.2.2.2.2.2.2.1 r'.2.2.2.2.2.2.2.2.2.1 r'.2.2.2.2.2.2.2.2.2.2.1 r'.2.2.2.2.2.2.2.2.2.2.2.1)) := by
  obtain ⟨l1, l2, l3, l4, l5⟩ := hL
  have c0 : Int32.toNatClampNeg 0 = 0 := by decide
  have c1 : Int32.toNatClampNeg 1 = 1 := by decide
  have ix1 : ix 1 2 := by decide
  have hE : RR 6000 lc 0 0 lm 0 := ⟨rfl, rfl, by decide, by decide, fun k hk => by rw [z0] at hk; omega⟩
  obtain ⟨nh', n1, n2⟩ := cclear (heads := nh) (sz := nz)
  obtain ⟨th', t1, t2⟩ := cclear (heads := th) (sz := tz0)
  have hK : fX0_clear sb_size sb_tooLong ssize sdepth snamed = some (0, 0, 0, 0, 0) := by
    unfold fX0_clear bX0_clear_0 fX2_clear bX2_clear_0; rfl
  have hM : fX7_clear mi mb md 1 = some (upd mi 1 0, upd mb 1 0, upd md 1 0) := by
    unfold fX7_clear bX7_clear_0
    rw [if_pos ix1, if_pos ix1, if_pos ix1, c1]
  have hF0 : FR mk mn ms ml mw mp mi mb mo mm md mk mn ms ml mw mp (upd mi 1 0) (upd mb 1 0) mo mm (upd md 1 0) := ⟨fun _ _ => ⟨rfl, rfl, rfl, rfl, rfl⟩, fun _ _ => rfl, upd_ne (by omega), upd_ne (by omega), upd_ne (by omega), fun _ _ => ⟨rfl, rfl⟩⟩
  have hR1 : DR 1 skinds sstarts slengths sdepths snumbers sb_cells 0 0 sopenKinds 0 0 0 mk mn ms ml mw mp (upd mi 1 0) (upd mb 1 0) mo mm (upd md 1 0) := DR.clear (d := 1) (by omega) (upd_same _ _ _) (upd_same _ _ _) (upd_same _ _ _)
  have hN : RT 0 0 ni 0 tb (upd (upd tz 0 0) 1 0) := RT.empty (by rw [upd_ne (by omega), upd_same])
  have hT : RT 1 0 ti 0 tb (upd (upd tz 0 0) 1 0) := RT.empty (upd_same _ _ _)
  obtain ⟨hf, hfa, h1, h2⟩ := chead (fl := fl) (at_ := at_) (lc := lc) l4
  obtain ⟨at', fl', f', pl', g1, g2⟩ := rhead (lm := lm) (fl := rfl_) l3 l4
  have key : ∃ v r', bX1_decode_47 FU (catv lc ls 3) 4 hf hfa first kd nu fm st le to ov ni nc nh' 0 ti tc th' 0 lc ls skinds sstarts slengths sdepths snumbers sb_cells 0 0 sopenKinds 0 0 0 0 = some v ∧ bX7_read_38 FU lm mk mn ms ml mw mp (upd mi 1 0) (upd mb 1 0) mo mm (upd md 1 0) tb (upd (upd tz 0 0) 1 0) ls at' fl' f' pl' rfirst rgt = some r' ∧ r'.2.2.2.2.2.2.2.2.2.2.2.2.2.2.1 = 0 ∧ ((v.1 ≠ 0 ∧ FR mk mn ms ml mw mp mi mb mo mm md r'.2.1 r'.2.2.1 r'.2.2.2.1 r'.2.2.2.2.1 r'.2.2.2.2.2.1 r'.2.2.2.2.2.2.1 r'.2.2.2.2.2.2.2.1 r'.2.2.2.2.2.2.2.2.1 r'.2.2.2.2.2.2.2.2.2.1 r'.2.2.2.2.2.2.2.2.2.2.1 r'.2.2.2.2.2.2.2.2.2.2.2.1) ∨ (v.1 = 0 ∧ DR 0 v.2.2.2.2.2.2.2.2.2.2.2.2.2.2.2.2.2.2.2.2.2.1 v.2.2.2.2.2.2.2.2.2.2.2.2.2.2.2.2.2.2.2.2.2.2.1 v.2.2.2.2.2.2.2.2.2.2.2.2.2.2.2.2.2.2.2.2.2.2.2.1 v.2.2.2.2.2.2.2.2.2.2.2.2.2.2.2.2.2.2.2.2.2.2.2.2.1 v.2.2.2.2.2.2.2.2.2.2.2.2.2.2.2.2.2.2.2.2.2.2.2.2.2.1 v.2.2.2.2.2.2.2.2.2.2.2.2.2.2.2.2.2.2.2.2.2.2.2.2.2.2.1 v.2.2.2.2.2.2.2.2.2.2.2.2.2.2.2.2.2.2.2.2.2.2.2.2.2.2.2.1 v.2.2.2.2.2.2.2.2.2.2.2.2.2.2.2.2.2.2.2.2.2.2.2.2.2.2.2.2.1 v.2.2.2.2.2.2.2.2.2.2.2.2.2.2.2.2.2.2.2.2.2.2.2.2.2.2.2.2.2.1 v.2.2.2.2.2.2.2.2.2.2.2.2.2.2.2.2.2.2.2.2.2.2.2.2.2.2.2.2.2.2.1 v.2.2.2.2.2.2.2.2.2.2.2.2.2.2.2.2.2.2.2.2.2.2.2.2.2.2.2.2.2.2.2.1 v.2.2.2.2.2.2.2.2.2.2.2.2.2.2.2.2.2.2.2.2.2.2.2.2.2.2.2.2.2.2.2.2 r'.2.1 r'.2.2.1 r'.2.2.2.1 r'.2.2.2.2.1 r'.2.2.2.2.2.1 r'.2.2.2.2.2.2.1 r'.2.2.2.2.2.2.2.1 r'.2.2.2.2.2.2.2.2.1 r'.2.2.2.2.2.2.2.2.2.1 r'.2.2.2.2.2.2.2.2.2.2.1 r'.2.2.2.2.2.2.2.2.2.2.2.1)) := by
    have hFU : FU = 999999 + 1 := rfl
    rcases g2 with ⟨⟨y0, y1, y2, y3, y4⟩, rfl, rfl, rfl, rfl⟩ | ⟨y, y5⟩
    · have z3 : (3 : Int32).toInt = 3 := by decide
      have z4 : (4 : Int32).toInt = 4 := by decide
      have b0 : catv lc ls 0 = lm 0 &&& 255 := by rw [catv_in (by decide) (by rw [z0]; omega), (l5 0 (by omega)).1]; rfl
      have b1 : catv lc ls 1 = lm 1 &&& 255 := by rw [catv_in (by decide) (by rw [z1]; omega), (l5 1 (by omega)).1]; rfl
      have b2 : catv lc ls 2 = lm 2 &&& 255 := by rw [catv_in (by decide) (by rw [z2]; omega), (l5 2 (by omega)).1]; rfl
      have b3 : catv lc ls 3 = lm 3 &&& 255 := by rw [catv_in (by decide) (by rw [z3]; omega), (l5 3 (by omega)).1]; rfl
      have e0 : hf = 0 := h2.mpr ⟨by rw [b0]; exact y1, by rw [b1]; exact y2, by rw [b2]; exact y3, by rw [b3]; exact y4⟩
      have yb := ih3 y4
      have ek : lm 3 &&& 255 = nI (lm 3 &&& 255).toInt.toNat := zNeg (by omega)
      rw [b3, e0]
      generalize hk : (lm 3 &&& 255).toInt.toNat = k at ek
      rw [ek]
      obtain ⟨v, r', e1, e2, e3, e4⟩ := rd_loop (k := k) (lc := lc) (lm := lm) (by omega) l4 l3 l5 (ls.toInt - 4).toNat FU FU 4 hfa first kd nu fm st le to ov ni nc nh' 0 ti tc th' 0 skinds sstarts slengths sdepths snumbers sb_cells 0 0 sopenKinds 0 0 0 0 mk mn ms ml mw mp (upd mi 1 0) (upd mb 1 0) mo mm (upd md 1 0) tb (upd (upd tz 0 0) 1 0) (-1) rfirst rgt (by unfold FU; omega) (by unfold FU; omega) hR1 hN hT (by decide) (by rw [z4]; omega) (by rw [z4]; omega) rfl
      refine ⟨v, r', e1, e2, e3, ?_⟩
      rcases e4 with ⟨x1, x2⟩ | ⟨x1, x2⟩
      · exact Or.inl ⟨x1, hF0.trans x2⟩
      · exact Or.inr ⟨x1, x2⟩
    · have hne : hf ≠ 0 := by
        intro h
        obtain ⟨q0, q1, q2, q3⟩ := h2.mp h
        have z3 : (3 : Int32).toInt = 3 := by decide
        have h4 : 4 ≤ ls.toInt := by
          by_cases c : 3 < ls.toInt
          · omega
          · exact absurd q3 (by rw [catv_out (by rw [z3]; omega)]; exact ihm1 3)
        apply y
        rw [catv_in (by decide) (by rw [z0]; omega)] at q0
        rw [catv_in (by decide) (by rw [z1]; omega)] at q1
        rw [catv_in (by decide) (by rw [z2]; omega)] at q2
        rw [catv_in (by decide) (by rw [z3]; omega)] at q3
        refine ⟨h4, ?_, ?_, ?_, ?_⟩
        · rw [(l5 0 (by omega)).1]; exact q0
        · rw [(l5 1 (by omega)).1]; exact q1
        · rw [(l5 2 (by omega)).1]; exact q2
        · rw [(l5 3 (by omega)).1]; exact q3
      rw [hFU]
      obtain ⟨v, e1, e2⟩ := d_fault (f := 999999) (flags := catv lc ls 3) (at_ := 4) (fl := hf) (fa := hfa) (first := first) (kd := kd) (nu := nu) (fm := fm) (st := st) (le := le) (to := to) (ov := ov) (lc := lc) (ls := ls) (ni := ni) (nc := nc) (nh := nh') (nz := 0) (ti := ti) (tc := tc) (th := th') (tz0 := 0) (kinds := skinds) (starts := sstarts) (lengths := slengths) (depths := sdepths) (numbers := snumbers) (b_cells := sb_cells) (b_size := 0) (b_tooLong := 0) (openKinds := sopenKinds) (size := 0) (depth := 0) (named := 0) (x3 := 0) hne
      have hf5 : f' ≠ 0 := fun h => by rw [h, z0] at y5; omega
      rw [e1, r_fault hf5]
      exact ⟨v, _, rfl, rfl, rfl, Or.inl ⟨by rw [e2]; exact hne, hF0⟩⟩
  obtain ⟨v, r', k1, k2, k3, k4⟩ := key
  have hr : fX7_read lm mk mn ms ml mw mp mi mb mo mm md tb tz ls rat rfl_ rft rpl rfirst rgt = some r' := by
    unfold fX7_read bX7_read_0
    rw [hM, Option.bind_some, if_pos i02, if_pos ix1, g1, Option.bind_some]
    exact k2
  have hc : fX1_decode fl at_ ft fa first kd nu fm st le to ov ni nc nh nz ti tc th tz0 lc ls skinds sstarts slengths sdepths snumbers sb_cells sb_size sb_tooLong sopenKinds ssize sdepth snamed = some v := by
    unfold fX1_decode bX1_decode_0
    rw [hK, Option.bind_some, n1, Option.bind_some, t1, Option.bind_some, h1, Option.bind_some]
    exact k1
  have hcl2 : fX2_clear ls lt = some (0, 0) := by unfold fX2_clear bX2_clear_0; rfl
  unfold fX6_read bX6_read_0
  rw [hc, Option.bind_some, hcl2, Option.bind_some]
  rcases k4 with ⟨x1, x2⟩ | ⟨x1, x2⟩
  · rw [if_neg x1]
    exact ⟨_, r', rfl, hr, by rw [k3]; exact hE, Or.inl ⟨rfl, hD.frame x2⟩⟩
  · rw [if_pos x1]
    exact ⟨_, r', rfl, hr, by rw [k3]; exact hE, Or.inr ⟨(show ¬ ((1 : Int32) = 0) by decide), x2⟩⟩
end Re
