/-! what an item comes to -/
abbrev T20 : Type := (Nat → Int32) × (Nat → Int32) × (Nat → Int32) × Int32 × (Nat → Int32) × (Nat → Int32) × (Nat → Int32) × Int32 × (Nat → Int32) × (Nat → Int32) × (Nat → Int32) × (Nat → Int32) × (Nat → Int64) × (Nat → Int32) × Int32 × Int32 × (Nat → Int32) × Int32 × Int32 × Int32
abbrev T17 : Type := (Nat → Int32) × (Nat → Int64) × (Nat → Int32) × (Nat → Int32) × (Nat → Int32) × (Nat → Int32) × (Nat → Int32) × (Nat → Int32) × (Nat → Int32) × (Nat → Int32) × (Nat → Int32) × (Nat → Int32) × (Nat → Int32) × Int32 × Int32 × Int32 × Int32
def ITM (ls at0 size : Int32) (mk : Nat → Int32) (mn : Nat → Int64) (ms ml mw mp mi mb mo mm md : Nat → Int32) (f at' : Int32) (v : T20) (r : T17) : Prop :=
  FR mk mn ms ml mw mp mi mb mo mm md r.1 r.2.1 r.2.2.1 r.2.2.2.1 r.2.2.2.2.1 r.2.2.2.2.2.1 r.2.2.2.2.2.2.1 r.2.2.2.2.2.2.2.1 r.2.2.2.2.2.2.2.2.1 r.2.2.2.2.2.2.2.2.2.1 r.2.2.2.2.2.2.2.2.2.2.1 ∧ ((f ≠ 0 ∧ 0 < (r.2.2.2.2.2.2.2.2.2.2.2.2.2.2.1).toInt) ∨ (f = 0 ∧ r.2.2.2.2.2.2.2.2.2.2.2.2.2.2.1 = 0 ∧ r.2.2.2.2.2.2.2.2.2.2.2.2.2.1 = at' ∧ at0.toInt < at'.toInt ∧ at'.toInt ≤ ls.toInt ∧ DR 1 v.2.2.2.2.2.2.2.2.1 v.2.2.2.2.2.2.2.2.2.1 v.2.2.2.2.2.2.2.2.2.2.1 v.2.2.2.2.2.2.2.2.2.2.2.1 v.2.2.2.2.2.2.2.2.2.2.2.2.1 v.2.2.2.2.2.2.2.2.2.2.2.2.2.1 v.2.2.2.2.2.2.2.2.2.2.2.2.2.2.1 v.2.2.2.2.2.2.2.2.2.2.2.2.2.2.2.1 v.2.2.2.2.2.2.2.2.2.2.2.2.2.2.2.2.1 v.2.2.2.2.2.2.2.2.2.2.2.2.2.2.2.2.2.1 v.2.2.2.2.2.2.2.2.2.2.2.2.2.2.2.2.2.2.1 v.2.2.2.2.2.2.2.2.2.2.2.2.2.2.2.2.2.2.2 r.1 r.2.1 r.2.2.1 r.2.2.2.1 r.2.2.2.2.1 r.2.2.2.2.2.1 r.2.2.2.2.2.2.1 r.2.2.2.2.2.2.2.1 r.2.2.2.2.2.2.2.2.1 r.2.2.2.2.2.2.2.2.2.1 r.2.2.2.2.2.2.2.2.2.2.1 ∧ RT 0 v.2.2.2.2.2.2.2.2.2.2.2.2.2.2.2.2.2.1 v.1 v.2.2.2.1 r.2.2.2.2.2.2.2.2.2.2.2.1 r.2.2.2.2.2.2.2.2.2.2.2.2.1 ∧ RT 1 v.2.2.2.2.2.2.2.2.2.2.2.2.2.2.2.2.2.1 v.2.2.2.2.1 v.2.2.2.2.2.2.2.1 r.2.2.2.2.2.2.2.2.2.2.2.1 r.2.2.2.2.2.2.2.2.2.2.2.2.1 ∧ (v.2.2.2.2.2.2.2.2.2.2.2.2.2.2.2.2.2.1).toInt = size.toInt + 1))
section RP
variable {kinds starts lengths depths b_cells openKinds : Nat → Int32} {numbers : Nat → Int64} {b_size b_tooLong size depth named : Int32} {mk ms ml mw mp mi mb mo mm md : Nat → Int32} {mn : Nat → Int64} {ni nc nh ti tc th tb tz lc lm : Nat → Int32} {nz tz0 ls fa pl first kd st le to ov fl at_ : Int32} {nu : Int64} {at0 gt : Int32}
theorem nI1 : nI 1 = (1 : Int32) := by decide
theorem rmay1 (hR : DR 1 kinds starts lengths depths numbers b_cells b_size b_tooLong openKinds size depth named mk mn ms ml mw mp mi mb mo mm md) (n o x : Int32) (hn : 0 ≤ n.toInt) (hn2 : n.toInt ≤ 100000) (ho : o ≠ 0 ↔ (x = 5 ∨ x = 6)) : ∃ q, fX7_mayBe mi mb md 1 n o = some q ∧ (q = 0 ↔ ¬ roomR b_size size depth x n) := by
  obtain ⟨a1, a2, a3, a4, a5, a6, a7, a8, a9, a10, a11, a12⟩ := id hR.1
  obtain ⟨q, q1, q2⟩ := rmay (mi := mi) (mb := mb) (md := md) (d := 1) (n := n) (o := o) (by omega) (by rw [a2]; exact a7) (by rw [a2]; exact a8) hn hn2
  rw [nI1] at q1
  rw [a1, a2, a3, ho] at q2
  exact ⟨q, q1, q2⟩
theorem FR.add {x v} {mo' mm' md' : Nat → Int32} {i n b s dd : Int32} {j : Nat} (hj : 1500 ≤ j) (h1 : ∀ k, k ≠ 1 → md' k = md k) (h2 : ∀ k, (k < 30 * 1 ∨ 30 * 1 + 30 ≤ k) → mo' k = mo k ∧ mm' k = mm k) {mp' : Nat → Int32} (h3 : ∀ k : Nat, k < 5000 → mp' k = mp k) : FR mk mn ms ml mw mp mi mb mo mm md (upd mk j x) (vp_updL mn j v) (upd ms j s) (upd ml j n) (upd mw j dd) mp' (upd mi 1 i) (upd mb 1 b) mo' mm' md' :=
  ⟨fun k hk => ⟨upd_ne (by omega), updL_ne (by omega), upd_ne (by omega), upd_ne (by omega), upd_ne (by omega)⟩, h3, upd_ne (by omega), upd_ne (by omega), h1 0 (by omega), fun k hk => h2 k (by omega)⟩
theorem kplain {flags x le' to' : Int32} {k1 k2 k3 k4 k6 : Nat → Int32} {k5 : Nat → Int64} {k7 k8 k9 : Int32} (hp : fX0_put kinds starts lengths depths numbers b_size openKinds size depth named x nu = some (k1, k2, k3, k4, k5, k6, k7, k8, k9)) : fX1_keepItem flags at_ 0 x nu 0 st le' to' ni nc nh nz ti tc th tz0 lc ls kinds starts lengths depths numbers b_cells b_size b_tooLong openKinds size depth named = some (ni, nc, nh, nz, ti, tc, th, tz0, k1, k2, k3, k4, k5, b_cells, b_size, b_tooLong, k6, k7, k8, k9) := by
  unfold fX1_keepItem bX1_keepItem_0
  rw [if_pos rfl, hp]; rfl
/-- a plain item: judged, kept; added -/
theorem rd_plain (hR : DR 1 kinds starts lengths depths numbers b_cells b_size b_tooLong openKinds size depth named mk mn ms ml mw mp mi mb mo mm md) (hN : RT 0 size ni nz tb tz) (hT : RT 1 size ti tz0 tb tz) (flags : Int32) {x o f2 : Int32} (hx : ((0 ≤ x.toInt ∧ x.toInt ≤ 9) ∧ ¬ (0 < size.toInt ∧ depth.toInt = 0)) ∨ (x = 11 ∧ 0 < depth.toInt)) (ho : o ≠ 0 ↔ (x = 5 ∨ x = 6)) (hs : (ov = 1 ∧ 0 < f2.toInt) ∨ (ov = 0 ∧ f2 = 0)) (h0 : at0.toInt < at_.toInt) (h1 : at_.toInt ≤ ls.toInt) : ∃ v16 v17 r2, fX1_judgeItem 0 fa first x 0 st 0 to ov ni nz ti tz0 lc ls lengths b_size size depth = some v16 ∧ fX1_keepItem flags at_ v16.1 x nu 0 st v16.2.2.1 v16.2.2.2 ni nc nh nz ti tc th tz0 lc ls kinds starts lengths depths numbers b_cells b_size b_tooLong openKinds size depth named = some v17 ∧ fX7_addPlain mk mn ms ml mw mi mb mo mm md f2 pl first x nu o = some r2 ∧ ITM ls at0 size mk mn ms ml mw mp mi mb mo mm md v16.1 at_ v17 (r2.1, r2.2.1, r2.2.2.1, r2.2.2.2.1, r2.2.2.2.2.1, mp, r2.2.2.2.2.2.1, r2.2.2.2.2.2.2.1, r2.2.2.2.2.2.2.2.1, r2.2.2.2.2.2.2.2.2.1, r2.2.2.2.2.2.2.2.2.2.1, tb, tz, at_, r2.2.2.2.2.2.2.2.2.2.2.1, r2.2.2.2.2.2.2.2.2.2.2.2, gt) := by
  obtain ⟨a1, a2, a3, a4, a5, a6, a7, a8, a9, a10, a11, a12⟩ := id hR.1
  obtain ⟨f', fa', e1, e2⟩ := jplain (fa := fa) (first := first) (kd := x) (st := st) (le := 0) (to := to) (ov := ov) (ni := ni) (nz := nz) (ti := ti) (tz0 := tz0) (lc := lc) (ls := ls) (fm := 0) hR (Or.inl rfl)
  obtain ⟨q, q1, q2⟩ := rmay1 hR 0 o x (by decide) (by decide) ho
  unfold fX7_addPlain bX7_addPlain_0 bX7_addPlain_28
  rw [q1, Option.bind_some]
  have hf9 : ∀ f2 : Int32, 0 < f2.toInt → ¬ f2 = 0 := fun f2 h e => by rw [e, z0] at h; omega
  have hfail : fX7_fail 0 pl 7 first = some (7, first) := rfl
  rcases hs with ⟨rfl, hf2⟩ | ⟨rfl, rfl⟩
  · have hne : f' ≠ 0 := fun h => absurd (e2.mp h).1 (by decide)
    obtain ⟨v17, k1⟩ := kfault (fl := f') (at_ := at_) (kd := x) (nu := nu) (fm := 0) (st := st) (le := 0) (to := to) (ni := ni) (nc := nc) (nh := nh) (nz := nz) (ti := ti) (tc := tc) (th := th) (tz0 := tz0) (lc := lc) (ls := ls) (kinds := kinds) (starts := starts) (lengths := lengths) (depths := depths) (numbers := numbers) (b_cells := b_cells) (b_size := b_size) (b_tooLong := b_tooLong) (openKinds := openKinds) (size := size) (depth := depth) (named := named) hne flags
    rw [if_neg (hf9 f2 hf2), if_neg (hf9 f2 hf2)]
    exact ⟨_, _, _, e1, k1, rfl, FR.refl, Or.inl ⟨hne, hf2⟩⟩
  · by_cases hr : roomR b_size size depth x 0
    · have hf0 : f' = 0 := e2.mpr ⟨rfl, hr⟩
      subst hf0
      rw [if_pos rfl, if_neg (fun e => q2.mp e hr), if_pos rfl]
      have eS : (size + 1).toInt = size.toInt + 1 := by have := hr.1; rw [zadd (by rw [z1]; omega) (by rw [z1]; omega), z1]
      rcases hx with ⟨⟨x0, x9⟩, hw⟩ | ⟨rfl, hw⟩
      · have n10 : x ≠ 10 := fun h => by rw [h, z10] at x9; omega
        have n11 : x ≠ 11 := fun h => by rw [h, z11] at x9; omega
        obtain ⟨mo', mm', md', g1, g2, g3, g4⟩ := pair_value (v := nu) (x := x) (n := 0) (L := upd lengths size.toInt.toNat 0) (C := b_cells) (mp' := mp) hR (by omega) hw hr.1 (by decide) hr.2.1 hr.2.2 x0 x9 (upd_same _ _ _) (fun i hi => upd_ne (by omega)) (by rw [Int32.add_zero]; exact hR.2.2.1)
        rw [Int32.add_zero] at g4
        rw [nI1] at g1 g4
        rw [g1, Option.bind_some]
        have hp := cput (kinds := kinds) (starts := starts) (lengths := lengths) (depths := depths) (numbers := numbers) (b_size := b_size) (openKinds := openKinds) (named := named) (v := nu) a5 hr.1 a9 a10 hr.2.2 (fun e => absurd e n11)
        simp only [if_neg n10, if_neg n11] at hp
        exact ⟨_, _, _, e1, kplain hp, rfl, FR.add (by omega) g2 g3 (fun _ _ => rfl), Or.inr ⟨rfl, rfl, rfl, h0, h1, g4, hN.more (by show _ ≤ (size + 1).toInt; omega), hT.more (by show _ ≤ (size + 1).toInt; omega), eS⟩⟩
      · obtain ⟨g1, g4⟩ := pair_end (v := nu) hR (by omega) hw hr.1
        rw [nI1] at g1 g4
        rw [g1, Option.bind_some]
        have hp := cput (kinds := kinds) (starts := starts) (lengths := lengths) (depths := depths) (numbers := numbers) (b_size := b_size) (openKinds := openKinds) (named := named) (v := nu) a5 hr.1 a9 a10 hr.2.2 (fun _ => hw)
        exact ⟨_, _, _, e1, kplain hp, rfl, FR.add (by omega) (fun k hk => upd_ne hk) (fun _ _ => ⟨rfl, rfl⟩) (fun _ _ => rfl), Or.inr ⟨rfl, rfl, rfl, h0, h1, g4, hN.more (by show _ ≤ (size + 1).toInt; omega), hT.more (by show _ ≤ (size + 1).toInt; omega), eS⟩⟩
    · have hne : f' ≠ 0 := fun h => hr (e2.mp h).2
      obtain ⟨v17, k1⟩ := kfault (fl := f') (at_ := at_) (kd := x) (nu := nu) (fm := 0) (st := st) (le := 0) (to := to) (ni := ni) (nc := nc) (nh := nh) (nz := nz) (ti := ti) (tc := tc) (th := th) (tz0 := tz0) (lc := lc) (ls := ls) (kinds := kinds) (starts := starts) (lengths := lengths) (depths := depths) (numbers := numbers) (b_cells := b_cells) (b_size := b_size) (b_tooLong := b_tooLong) (openKinds := openKinds) (size := size) (depth := depth) (named := named) hne flags
      rw [if_pos rfl, if_pos (q2.mpr hr), hfail, Option.bind_some, if_neg (show ¬ ((7 : Int32) = 0) by decide)]
      exact ⟨_, _, _, e1, k1, rfl, FR.refl, Or.inl ⟨hne, (show 0 < (7 : Int32).toInt by decide)⟩⟩
end RP
