/-! a text or a name that is read in full -/
section RTx
variable {kinds starts lengths depths b_cells openKinds : Nat → Int32} {numbers : Nat → Int64} {b_size b_tooLong size depth named : Int32} {mk ms ml mw mp mi mb mo mm md : Nat → Int32} {mn : Nat → Int64} {ni nc nh ti tc th tb tz lc lm : Nat → Int32} {nz tz0 ls fa pl first kd st le to ov fl at_ : Int32} {nu : Int64} {at0 : Int32} {mp' : Nat → Int32}
theorem shared0 : ∀ k : Nat, k < 8 → fX1_isShared (nI k) 10 = some (if nI k &&& 1 = 1 then 1 else 0) := by decide
theorem shared1 : ∀ k : Nat, k < 8 → fX1_isShared (nI k) 3 = some (if nI k &&& 2 = 2 then 1 else 0) := by decide
/-- the reference: taken, added -/
theorem radd1 (hR : DR 1 kinds starts lengths depths numbers b_cells b_size b_tooLong openKinds size depth named mk mn ms ml mw mp mi mb mo mm md) {x : Int32} (hx : x = 3 ∨ x = 4 ∨ x = 10) (hok : (x = 10 → nmc openKinds depth named) ∧ (x ≠ 10 → ¬ (0 < size.toInt ∧ depth.toInt = 0))) (hr : roomR b_size size depth x le) (h0 : 0 ≤ le.toInt) {L C : Nat → Int32} (hL : L size.toInt.toNat = le) (hL2 : ∀ i : Nat, (i : Int) < size.toInt → L i = lengths i) {mp'' : Nat → Int32} (hB : DB 1 C (b_size + le) mp'') : ∃ mo' mm' md', fX7_add mk mn ms ml mw mi mb mo mm md 1 x 0 le = some (upd mk (1500 * 1 + size.toInt.toNat) x, vp_updL mn (1500 * 1 + size.toInt.toNat) 0, upd ms (1500 * 1 + size.toInt.toNat) (5000 * 1 + b_size), upd ml (1500 * 1 + size.toInt.toNat) le, upd mw (1500 * 1 + size.toInt.toNat) depth, upd mi 1 (mi 1 + 1), upd mb 1 (mb 1 + le), mo', mm', md') ∧ (∀ j, j ≠ 1 → md' j = md j) ∧ (∀ j, (j < 30 * 1 ∨ 30 * 1 + 30 ≤ j) → mo' j = mo j ∧ mm' j = mm j) ∧ DR 1 (upd kinds size.toInt.toNat x) (upd starts size.toInt.toNat b_size) L (upd depths size.toInt.toNat depth) (vp_updL numbers size.toInt.toNat 0) C (b_size + le) b_tooLong openKinds (size + 1) depth (if x = 10 then 1 else 0) (upd mk (1500 * 1 + size.toInt.toNat) x) (vp_updL mn (1500 * 1 + size.toInt.toNat) 0) (upd ms (1500 * 1 + size.toInt.toNat) (5000 * 1 + b_size)) (upd ml (1500 * 1 + size.toInt.toNat) le) (upd mw (1500 * 1 + size.toInt.toNat) depth) mp'' (upd mi 1 (mi 1 + 1)) (upd mb 1 (mb 1 + le)) mo' mm' md' := by
  by_cases hx10 : x = 10
  · subst hx10
    obtain ⟨mm', e1, e2, e3⟩ := pair_name (v := 0) (n := le) (L := L) (C := C) (mp' := mp'') hR (by omega) (hok.1 rfl) hr.1 h0 hr.2.1 hL hL2 hB
    rw [nI1] at e1 e3
    rw [if_pos rfl]
    exact ⟨_, _, _, e1, fun _ _ => rfl, fun j hj => ⟨rfl, e2 j hj⟩, e3⟩
  · have n5 : ¬ (x = 5 ∨ x = 6) := by rcases hx with rfl | rfl | rfl <;> decide
    have x0 : 0 ≤ x.toInt := by rcases hx with rfl | rfl | rfl <;> decide
    have x9 : x.toInt ≤ 9 := by rcases hx with rfl | rfl | h; decide; decide; exact absurd h hx10
    obtain ⟨mo', mm', md', e1, e2, e3, e4⟩ := pair_value (v := 0) (x := x) (n := le) (L := L) (C := C) (mp' := mp'') hR (by omega) (hok.2 hx10) hr.1 h0 hr.2.1 (fun h => absurd h n5) x0 x9 hL hL2 hB
    rw [nI1] at e1 e4
    rw [if_neg n5, if_neg n5] at e4
    rw [if_neg hx10]
    exact ⟨_, _, _, e1, e2, e3, e4⟩
/-- class: put, then the bytes of the row -/
theorem cputrow (hR : DR 1 kinds starts lengths depths numbers b_cells b_size b_tooLong openKinds size depth named mk mn ms ml mw mp mi mb mo mm md) {x : Int32} (hx : x = 3 ∨ x = 4 ∨ x = 10) (hr : roomR b_size size depth x le) (h0 : 0 ≤ le.toInt) (hs0 : 0 ≤ st.toInt) (hs1 : st.toInt + le.toInt ≤ ls.toInt) (h2 : ls.toInt ≤ 6000) : ∃ L C, fX0_put kinds starts lengths depths numbers b_size openKinds size depth named x 0 = some (upd kinds size.toInt.toNat x, upd starts size.toInt.toNat b_size, upd lengths size.toInt.toNat 0, upd depths size.toInt.toNat depth, vp_updL numbers size.toInt.toNat 0, openKinds, size + 1, depth, (if x = 10 then 1 else 0)) ∧ fX0_extendBy (upd starts size.toInt.toNat b_size) (upd lengths size.toInt.toNat 0) b_cells b_size b_tooLong (size + 1) 6000 lc ls st le = some (L, C, b_size + le, b_tooLong) ∧ L size.toInt.toNat = le ∧ (∀ i : Nat, (i : Int) < size.toInt → L i = lengths i) ∧ (∀ k : Nat, (k : Int) < b_size.toInt → C k = b_cells k) ∧ ∀ j : Nat, (j : Int) < le.toInt → C (b_size.toInt.toNat + j) = b8 (lc (st.toInt.toNat + j)) := by
  obtain ⟨a1, a2, a3, a4, a5, a6, a7, a8, a9, a10, a11, a12⟩ := id hR.1
  have n11 : x ≠ 11 := by rcases hx with rfl | rfl | rfl <;> decide
  have n5 : ¬ (x = 5 ∨ x = 6) := by rcases hx with rfl | rfl | rfl <;> decide
  have hp := cput (kinds := kinds) (starts := starts) (lengths := lengths) (depths := depths) (numbers := numbers) (b_size := b_size) (openKinds := openKinds) (named := named) (v := 0) (x := x) a5 hr.1 a9 a10 (fun h => absurd h n5) (fun h => absurd h n11)
  simp only [if_neg n11, if_neg n5] at hp
  subst a4
  obtain ⟨L, C, g1, g2, g3, g4, g5⟩ := cextq (starts := starts) (lengths := lengths) (b_cells := b_cells) (f_cap := 6000) (f_cells := lc) (f_size := ls) (p := st) (q := le) a5 hr.1 h2 hs0 h0 (by omega) a7 hr.2.1
  refine ⟨L, C, hp, g1, g2, fun i hi => g3 i (by omega), g4, fun j hj => ?_⟩
  have e : (st + nI j).toInt = st.toInt + j := by rw [zadd (by rw [znI (by omega)]; omega) (by rw [znI (by omega)]; omega), znI (by omega)]
  rw [g5 j hj, catv_in (by omega) (by omega), zcl, e, b8_and]
  congr 2; omega
end RTx
