/-! one item more on both sides -/
theorem updL_same (f : Nat → Int64) (k : Nat) (x : Int64) : vp_updL f k x k = x := if_pos rfl
theorem updL_ne {f : Nat → Int64} {k j : Nat} {x : Int64} (h : j ≠ k) : vp_updL f k x j = f j := if_neg h
section DocAdd
variable {kinds starts lengths depths b_cells openKinds lengths' b_cells' : Nat → Int32} {numbers : Nat → Int64} {b_size b_tooLong size depth named b_size' : Int32} {mk ms ml mw mp mi mb mo mm md mp' : Nat → Int32} {mn : Nat → Int64} {d : Nat} {x n dd : Int32} {v : Int64}
theorem DZ.add (h : DZ d b_size b_tooLong size depth named mi mb md) (hs : size.toInt < 1500) (hn : 0 ≤ n.toInt) (hb : b_size.toInt + n.toInt ≤ 5000) (hb' : b_size' = b_size + n) {depth' named' : Int32} {md' : Nat → Int32} (hm : md' d = depth') (h0 : 0 ≤ depth'.toInt) (h1 : depth'.toInt ≤ 30) (h2 : depth'.toInt ≤ depth.toInt + 1) (hnm : named' = 0 ∨ named' = 1) : DZ d b_size' b_tooLong (size + 1) depth' named' (upd mi d (mi d + 1)) (upd mb d (mb d + n)) md' := by
  obtain ⟨a1, a2, a3, a4, a5, a6, a7, a8, a9, a10, a11, a12⟩ := h
  have e1 : (size + 1).toInt = size.toInt + 1 := by rw [zadd (by rw [z1]; omega) (by rw [z1]; omega), z1]
  have e2 : (b_size + n).toInt = b_size.toInt + n.toInt := zadd (by omega) (by omega)
  subst hb'
  refine ⟨by rw [upd_same, a1], by rw [upd_same, a2], hm, a4, by omega, by omega, by omega, by omega, h0, h1, by omega, hnm⟩
theorem DI.add (h : DI d kinds starts lengths depths numbers b_size size mk mn ms ml mw) (hd : d ≤ 1) (hs0 : 0 ≤ size.toInt) (hs : size.toInt < 1500) (hb0 : 0 ≤ b_size.toInt) (hn : 0 ≤ n.toInt) (hb : b_size.toInt + n.toInt ≤ 5000) (hb' : b_size' = b_size + n) (hL : lengths' size.toInt.toNat = n) (hL2 : ∀ i : Nat, (i : Int) < size.toInt → lengths' i = lengths i) (hd0 : 0 ≤ dd.toInt) (hd1 : dd.toInt ≤ 30) (hx0 : 0 ≤ x.toInt) (hx1 : x.toInt ≤ 11) : DI d (upd kinds size.toInt.toNat x) (upd starts size.toInt.toNat b_size) lengths' (upd depths size.toInt.toNat dd) (vp_updL numbers size.toInt.toNat v) b_size' (size + 1) (upd mk (1500 * d + size.toInt.toNat) x) (vp_updL mn (1500 * d + size.toInt.toNat) v) (upd ms (1500 * d + size.toInt.toNat) (5000 * nI d + b_size)) (upd ml (1500 * d + size.toInt.toNat) n) (upd mw (1500 * d + size.toInt.toNat) dd) := by
  have e1 : (size + 1).toInt = size.toInt + 1 := by rw [zadd (by rw [z1]; omega) (by rw [z1]; omega), z1]
  have e2 : (b_size + n).toInt = b_size.toInt + n.toInt := zadd (by omega) (by omega)
  have e3 : (5000 * nI d).toInt = 5000 * d := by rw [zmul (by rw [z5000, znI (by omega)]; omega) (by rw [z5000, znI (by omega)]; omega), z5000, znI (by omega)]
  have e4 : (5000 * nI d + b_size).toInt = 5000 * d + b_size.toInt := by rw [zadd (by rw [e3]; omega) (by rw [e3]; omega), e3]
  subst hb'
  intro i hi
  rw [e1] at hi
  by_cases g : i = size.toInt.toNat
  · subst g
    simp only [upd_same, updL_same]
    refine ⟨trivial, trivial, e4, hL.symm, trivial, hb0, ?_, ?_, hd0, hd1, hx0, hx1⟩
    · rw [hL]; exact hn
    · rw [hL, e2]; omega
  · have g2 : 1500 * d + i ≠ 1500 * d + size.toInt.toNat := by omega
    rw [upd_ne g, upd_ne g, upd_ne g, updL_ne g, upd_ne g2, updL_ne g2, upd_ne g2, upd_ne g2, upd_ne g2, hL2 i (by omega), e2]
    obtain ⟨a1, a2, a3, a4, a5, a6, a7, a8, a9, a10, a11, a12⟩ := h i (by omega)
    exact ⟨a1, a2, a3, a4, a5, a6, a7, by omega, a9, a10, a11, a12⟩
theorem DX.add (h : DX kinds depths size depth) (hs0 : 0 ≤ size.toInt) (hs : size.toInt < 1500) (h0 : 0 ≤ depth.toInt) (h1 : depth.toInt ≤ 30) (hw : x ≠ 11 → ¬ (0 < size.toInt ∧ depth.toInt = 0)) (he : x = 11 → 0 < depth.toInt) : DX (upd kinds size.toInt.toNat x) (upd depths size.toInt.toNat (if x = 11 then depth - 1 else depth)) (size + 1) (if x = 11 then depth - 1 else if x = 5 ∨ x = 6 then depth + 1 else depth) := by
  obtain ⟨a1, a2, a3⟩ := h
  have e1 : (size + 1).toInt = size.toInt + 1 := by rw [zadd (by rw [z1]; omega) (by rw [z1]; omega), z1]
  have e2 : (depth + 1).toInt = depth.toInt + 1 := by rw [zadd (by rw [z1]; omega) (by rw [z1]; omega), z1]
  have e3 : x = 11 → (depth - 1).toInt = depth.toInt - 1 := fun h => by have := he h; rw [zsub (by rw [z1]; omega) (by rw [z1]; omega), z1]
  refine ⟨?_, ?_, ?_⟩
  · intro i hi0 hi hd
    rw [e1] at hi
    by_cases g : i = size.toInt.toNat
    · subst g
      rw [upd_same] at hd ⊢
      by_cases g2 : x = 11
      · exact g2
      · rw [if_neg g2] at hd
        exact absurd ⟨by omega, hd⟩ (hw g2)
    · rw [upd_ne g] at hd ⊢
      exact a1 i hi0 (by omega) hd
  · intro e he2
    by_cases g2 : x = 11
    · rw [if_pos g2, e3 g2] at he2
      obtain ⟨j, j1, j2, j3⟩ := a2 e (by omega)
      refine ⟨j, by omega, ?_, ?_⟩
      · rw [upd_ne (by omega)]; exact j2
      · rw [upd_ne (by omega)]; exact j3
    · rw [if_neg g2] at he2
      by_cases g3 : (e : Int) < depth.toInt
      · obtain ⟨j, j1, j2, j3⟩ := a2 e g3
        refine ⟨j, by omega, ?_, ?_⟩
        · rw [upd_ne (by omega)]; exact j2
        · rw [upd_ne (by omega)]; exact j3
      · by_cases g4 : x = 5 ∨ x = 6
        · rw [if_pos g4, e2] at he2
          refine ⟨size.toInt.toNat, by omega, ?_, ?_⟩
          · rw [upd_same]; exact g4
          · rw [upd_same, if_neg g2]; omega
        · rw [if_neg g4] at he2; omega
  · intro i hi hk
    rw [e1] at hi
    by_cases g : i = size.toInt.toNat
    · subst g
      rw [upd_same] at hk
      have hp := he hk
      obtain ⟨j, j1, j2, j3⟩ := a2 (depth.toInt.toNat - 1) (by omega)
      refine ⟨by rw [upd_same, if_pos hk, e3 hk]; omega, j, by omega, ?_, ?_⟩
      · rw [upd_ne (by omega)]; exact j2
      · rw [upd_ne (by omega), upd_same, if_pos hk, zeq, e3 hk]; omega
    · rw [upd_ne g] at hk
      obtain ⟨j0, j, j1, j2, j3⟩ := a3 i (by omega) hk
      refine ⟨by rw [upd_ne g]; exact j0, j, j1, ?_, ?_⟩
      · rw [upd_ne (by omega)]; exact j2
      · rw [upd_ne (by omega), upd_ne g]; exact j3
/-- the open ones: behind a value that opens nothing -/
theorem DO.value (h : DO d openKinds depth named mo mm) (h0 : 0 ≤ depth.toInt) {mm' : Nat → Int32} (h1 : ∀ j, j ≠ 30 * d + (depth.toInt.toNat - 1) → mm' j = mm j) (h2 : 0 < depth.toInt → mo (30 * d + (depth.toInt.toNat - 1)) ≠ 0 → mm' (30 * d + (depth.toInt.toNat - 1)) = 0) (h3 : mo (30 * d + (depth.toInt.toNat - 1)) = 0 → mm' (30 * d + (depth.toInt.toNat - 1)) = mm (30 * d + (depth.toInt.toNat - 1))) : DO d openKinds depth 0 mo mm' := by
  obtain ⟨a1, a2⟩ := h
  refine ⟨fun j hj => ?_, fun _ => rfl⟩
  obtain ⟨b1, b2, b3⟩ := a1 j hj
  refine ⟨b1, fun g => ?_, fun g => ?_⟩
  · rw [h1 _ (by omega)]; exact b2 g
  · have e : j = depth.toInt.toNat - 1 := by omega
    subst e
    refine ⟨?_, fun _ => rfl⟩
    rcases b1 with ⟨c1, c2⟩ | ⟨c1, c2⟩
    · rw [h3 c2]
      obtain ⟨d1, d2⟩ := b3 g
      rw [d1]; exact d2 c1
    · exact h2 (by omega) (by rw [c2]; decide)
theorem DO.name (h : DO d openKinds depth named mo mm) (h0 : 0 < depth.toInt) (hk : openKinds (depth.toInt.toNat - 1) = 6) : DO d openKinds depth 1 mo (upd mm (30 * d + (depth.toInt.toNat - 1)) 1) := by
  obtain ⟨a1, a2⟩ := h
  refine ⟨fun j hj => ?_, fun g => by omega⟩
  obtain ⟨b1, b2, b3⟩ := a1 j hj
  refine ⟨b1, fun g => ?_, fun g => ?_⟩
  · rw [upd_ne (by omega)]; exact b2 g
  · have e : j = depth.toInt.toNat - 1 := by omega
    subst e
    rw [upd_same]
    exact ⟨rfl, fun g5 => by rw [hk] at g5; exact absurd g5 (by decide)⟩
theorem DO.end_ (h : DO d openKinds depth named mo mm) (h0 : 0 < depth.toInt) (h1 : depth.toInt ≤ 30) : DO d openKinds (depth - 1) 0 mo mm := by
  obtain ⟨a1, a2⟩ := h
  have e : (depth - 1).toInt = depth.toInt - 1 := by rw [zsub (by rw [z1]; omega) (by rw [z1]; omega), z1]
  refine ⟨fun j hj => ?_, fun _ => rfl⟩
  rw [e] at hj ⊢
  obtain ⟨b1, b2, b3⟩ := a1 j (by omega)
  exact ⟨b1, fun g => b2 (by omega), fun g => ⟨b2 (by omega), fun _ => rfl⟩⟩
theorem DO.open_ (h : DO d openKinds depth 0 mo mm) (h0 : 0 ≤ depth.toInt) (h1 : depth.toInt < 30) (hx : x = 5 ∨ x = 6) : DO d (upd openKinds depth.toInt.toNat x) (depth + 1) 0 (upd mo (30 * d + depth.toInt.toNat) (if x = 6 then 1 else 0)) (upd mm (30 * d + depth.toInt.toNat) 0) := by
  obtain ⟨a1, a2⟩ := h
  have e : (depth + 1).toInt = depth.toInt + 1 := by rw [zadd (by rw [z1]; omega) (by rw [z1]; omega), z1]
  refine ⟨fun j hj => ?_, fun _ => rfl⟩
  rw [e] at hj ⊢
  by_cases g : j = depth.toInt.toNat
  · subst g
    rw [upd_same, upd_same, upd_same]
    refine ⟨?_, fun _ => rfl, fun _ => ⟨rfl, fun _ => rfl⟩⟩
    rcases hx with rfl | rfl
    · exact Or.inl ⟨rfl, rfl⟩
    · exact Or.inr ⟨rfl, rfl⟩
  · obtain ⟨b1, b2, b3⟩ := a1 j (by omega)
    rw [upd_ne g, upd_ne (by omega), upd_ne (by omega)]
    refine ⟨b1, fun g2 => ?_, fun g2 => by omega⟩
    by_cases g3 : (j : Int) + 1 < depth.toInt
    · exact b2 g3
    · exact (b3 (by omega)).1
end DocAdd
