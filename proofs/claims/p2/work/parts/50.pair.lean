/-! the two documents; an item more in both -/
def DR (d : Nat) (kinds starts lengths depths : Nat → Int32) (numbers : Nat → Int64) (b_cells : Nat → Int32) (b_size b_tooLong : Int32) (openKinds : Nat → Int32) (size depth named : Int32) (mk : Nat → Int32) (mn : Nat → Int64) (ms ml mw mp mi mb mo mm md : Nat → Int32) : Prop :=
  DZ d b_size b_tooLong size depth named mi mb md ∧ DI d kinds starts lengths depths numbers b_size size mk mn ms ml mw ∧ DB d b_cells b_size mp ∧ DO d openKinds depth named mo mm ∧ DX kinds depths size depth
section Pair
variable {kinds starts lengths depths b_cells openKinds L C : Nat → Int32} {numbers : Nat → Int64} {b_size b_tooLong size depth named : Int32} {mk ms ml mw mp mi mb mo mm md mp' : Nat → Int32} {mn : Nat → Int64} {d : Nat} {x n : Int32} {v : Int64}
theorem nmc_ref (hO : DO d openKinds depth named mo mm) (h0 : 0 ≤ depth.toInt) (h1 : depth.toInt ≤ 30) : nmc openKinds depth named ↔ (0 < depth.toInt ∧ mo (30 * d + (depth.toInt.toNat - 1)) ≠ 0 ∧ mm (30 * d + (depth.toInt.toNat - 1)) = 0) := by
  unfold nmc
  by_cases g : 0 < depth.toInt
  · have e : (depth - 1).toNatClampNeg = depth.toInt.toNat - 1 := by rw [zcl, zsub (by rw [z1]; omega) (by rw [z1]; omega), z1]; omega
    obtain ⟨b1, b2, b3⟩ := hO.1 (depth.toInt.toNat - 1) (by omega)
    obtain ⟨c1, c2⟩ := b3 (by omega)
    rw [e, c1]
    rcases b1 with ⟨d1, d2⟩ | ⟨d1, d2⟩
    · rw [d1, d2]; simp
    · rw [d1, d2]; simp
  · simp [g]
theorem radd_value (hd : d ≤ 1) (h0 : 0 ≤ (md d).toInt) (h1 : (md d).toInt ≤ 30) (hx : x ≠ 10) (hx2 : x ≠ 11) : ∃ mm1 : Nat → Int32, (∀ j, j ≠ 30 * d + ((md d).toInt.toNat - 1) → mm1 j = mm j) ∧ (0 < (md d).toInt → mo (30 * d + ((md d).toInt.toNat - 1)) ≠ 0 → mm1 (30 * d + ((md d).toInt.toNat - 1)) = 0) ∧ (mo (30 * d + ((md d).toInt.toNat - 1)) = 0 → mm1 (30 * d + ((md d).toInt.toNat - 1)) = mm (30 * d + ((md d).toInt.toNat - 1))) ∧ fX7_add mk mn ms ml mw mi mb mo mm md (nI d) x v n = bX7_add_58 mk mn ms ml mw mi mb mo mm1 md (nI d) x v n := by
  unfold fX7_add bX7_add_0
  rw [if_neg hx2, if_neg hx]
  obtain ⟨r, r1, r2⟩ := rinobj (mo := mo) (md := md) hd h0 h1
  rw [r1, Option.bind_some]
  by_cases g : r = 0
  · rw [if_pos g]
    have g2 := r2.mp g
    exact ⟨mm, fun _ _ => rfl, fun a b => absurd ⟨a, b⟩ g2, fun _ => rfl, rfl⟩
  · rw [if_neg g]
    have g2 : 0 < (md d).toInt ∧ mo (30 * d + ((md d).toInt.toNat - 1)) ≠ 0 := Classical.byContradiction fun h => g (r2.mpr h)
    obtain ⟨t, t1, t2, t3, t4⟩ := rtop (md := md) hd g2.1 h1
    rw [t1, Option.bind_some, if_pos t3, t4]
    have n0 : vp_nar .boolean 0 = 0 := by decide
    rw [n0]
    exact ⟨_, fun j hj => upd_ne hj, fun _ _ => upd_same _ _ _, fun a => absurd a g2.2, rfl⟩
theorem pair_value (hR : DR d kinds starts lengths depths numbers b_cells b_size b_tooLong openKinds size depth named mk mn ms ml mw mp mi mb mo mm md) (hd : d ≤ 1) (hw : ¬ (0 < size.toInt ∧ depth.toInt = 0)) (hs : size.toInt < 1500) (hn : 0 ≤ n.toInt) (hb : b_size.toInt + n.toInt ≤ 5000) (hc : x = 5 ∨ x = 6 → depth.toInt < 30) (hx0 : 0 ≤ x.toInt) (hx1 : x.toInt ≤ 9) (hL : L size.toInt.toNat = n) (hL2 : ∀ i : Nat, (i : Int) < size.toInt → L i = lengths i) (hB : DB d C (b_size + n) mp') : ∃ mo' mm' md', fX7_add mk mn ms ml mw mi mb mo mm md (nI d) x v n = some (upd mk (1500 * d + size.toInt.toNat) x, vp_updL mn (1500 * d + size.toInt.toNat) v, upd ms (1500 * d + size.toInt.toNat) (5000 * nI d + b_size), upd ml (1500 * d + size.toInt.toNat) n, upd mw (1500 * d + size.toInt.toNat) depth, upd mi d (mi d + 1), upd mb d (mb d + n), mo', mm', md') ∧ (∀ j, j ≠ d → md' j = md j) ∧ (∀ j, (j < 30 * d ∨ 30 * d + 30 ≤ j) → mo' j = mo j ∧ mm' j = mm j) ∧ DR d (upd kinds size.toInt.toNat x) (upd starts size.toInt.toNat b_size) L (upd depths size.toInt.toNat depth) (vp_updL numbers size.toInt.toNat v) C (b_size + n) b_tooLong (if x = 5 ∨ x = 6 then upd openKinds depth.toInt.toNat x else openKinds) (size + 1) (if x = 5 ∨ x = 6 then depth + 1 else depth) 0 (upd mk (1500 * d + size.toInt.toNat) x) (vp_updL mn (1500 * d + size.toInt.toNat) v) (upd ms (1500 * d + size.toInt.toNat) (5000 * nI d + b_size)) (upd ml (1500 * d + size.toInt.toNat) n) (upd mw (1500 * d + size.toInt.toNat) depth) mp' (upd mi d (mi d + 1)) (upd mb d (mb d + n)) mo' mm' md' := by
  obtain ⟨hZ, hI, hBo, hO, hX⟩ := hR
  obtain ⟨a1, a2, a3, a4, a5, a6, a7, a8, a9, a10, a11, a12⟩ := id hZ
  have hx10 : x ≠ 10 := fun h => by rw [h, z10] at hx1; omega
  have hx11 : x ≠ 11 := fun h => by rw [h, z11] at hx1; omega
  have e2 : (depth + 1).toInt = depth.toInt + 1 := by rw [zadd (by rw [z1]; omega) (by rw [z1]; omega), z1]
  obtain ⟨mm1, m1, m2, m3, m4⟩ := radd_value (mk := mk) (mn := mn) (ms := ms) (ml := ml) (mw := mw) (mi := mi) (mb := mb) (mo := mo) (mm := mm) (md := md) (v := v) (n := n) hd (by rw [a3]; exact a9) (by rw [a3]; exact a10) hx10 hx11
  rw [a3] at m1 m2 m3
  have hO1 : DO d openKinds depth 0 mo mm1 := hO.value a9 m1 m2 m3
  have hIn := hI.add (v := v) (x := x) (n := n) (dd := depth) (lengths' := L) (b_size' := b_size + n) hd a5 hs a7 hn hb rfl hL hL2 a9 a10 hx0 (by omega)
  have hXn := hX.add (x := x) a5 hs a9 a10 (fun _ => hw) (fun h => absurd h hx11)
  rw [if_neg hx11, if_neg hx11] at hXn
  rw [m4, r58 hd (by rw [a1]; exact a5) (by rw [a1]; exact hs), a1, a2, a3]
  by_cases g : x = 5 ∨ x = 6
  · have hdep := hc g
    rw [if_pos g, if_pos g, if_pos g, r161 hd (by rw [a3]; exact a9) (by rw [a3]; exact hdep) g, a3]
    rw [if_pos g] at hXn
    refine ⟨_, _, _, rfl, fun j hj => upd_ne hj, fun j hj => ⟨upd_ne (by omega), ?_⟩, ?_, ?_, hB, hO1.open_ a9 hdep g, hXn⟩
    · rw [upd_ne (by omega), m1 j (by omega)]
    · have := hZ.add (b_size' := b_size + n) (n := n) (depth' := depth + 1) (named' := 0) (md' := upd md d (depth + 1)) hs hn hb rfl (upd_same _ _ _) (by omega) (by omega) (by omega) (Or.inl rfl)
      rw [a1, a2] at this
      exact this
    · exact hIn
  · rw [if_neg g, if_neg g, if_neg g]
    rw [if_neg g] at hXn
    refine ⟨_, _, _, rfl, fun j hj => rfl, fun j hj => ⟨rfl, m1 j (by omega)⟩, ?_, ?_, hB, hO1, hXn⟩
    · have := hZ.add (b_size' := b_size + n) (n := n) (depth' := depth) (named' := 0) (md' := md) hs hn hb rfl a3 (by omega) (by omega) (by omega) (Or.inl rfl)
      rw [a1, a2] at this
      exact this
    · exact hIn
end Pair
