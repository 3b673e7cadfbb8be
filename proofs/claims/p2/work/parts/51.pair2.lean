/-! a name more, an end more, in both -/
section Pair2
variable {kinds starts lengths depths b_cells openKinds L C : Nat → Int32} {numbers : Nat → Int64} {b_size b_tooLong size depth named : Int32} {mk ms ml mw mp mi mb mo mm md mp' : Nat → Int32} {mn : Nat → Int64} {d : Nat} {x n : Int32} {v : Int64}
theorem pair_name (hR : DR d kinds starts lengths depths numbers b_cells b_size b_tooLong openKinds size depth named mk mn ms ml mw mp mi mb mo mm md) (hd : d ≤ 1) (hw : nmc openKinds depth named) (hs : size.toInt < 1500) (hn : 0 ≤ n.toInt) (hb : b_size.toInt + n.toInt ≤ 5000) (hL : L size.toInt.toNat = n) (hL2 : ∀ i : Nat, (i : Int) < size.toInt → L i = lengths i) (hB : DB d C (b_size + n) mp') : ∃ mm', fX7_add mk mn ms ml mw mi mb mo mm md (nI d) 10 v n = some (upd mk (1500 * d + size.toInt.toNat) 10, vp_updL mn (1500 * d + size.toInt.toNat) v, upd ms (1500 * d + size.toInt.toNat) (5000 * nI d + b_size), upd ml (1500 * d + size.toInt.toNat) n, upd mw (1500 * d + size.toInt.toNat) depth, upd mi d (mi d + 1), upd mb d (mb d + n), mo, mm', md) ∧ (∀ j, (j < 30 * d ∨ 30 * d + 30 ≤ j) → mm' j = mm j) ∧ DR d (upd kinds size.toInt.toNat 10) (upd starts size.toInt.toNat b_size) L (upd depths size.toInt.toNat depth) (vp_updL numbers size.toInt.toNat v) C (b_size + n) b_tooLong openKinds (size + 1) depth 1 (upd mk (1500 * d + size.toInt.toNat) 10) (vp_updL mn (1500 * d + size.toInt.toNat) v) (upd ms (1500 * d + size.toInt.toNat) (5000 * nI d + b_size)) (upd ml (1500 * d + size.toInt.toNat) n) (upd mw (1500 * d + size.toInt.toNat) depth) mp' (upd mi d (mi d + 1)) (upd mb d (mb d + n)) mo mm' md := by
  obtain ⟨hZ, hI, hBo, hO, hX⟩ := hR
  obtain ⟨a1, a2, a3, a4, a5, a6, a7, a8, a9, a10, a11, a12⟩ := id hZ
  have hw0 := hw.1
  have hk : openKinds (depth.toInt.toNat - 1) = 6 := by
    have := hw.2.1
    rw [zcl, zsub (by rw [z1]; omega) (by rw [z1]; omega), z1, show (depth.toInt - 1).toNat = depth.toInt.toNat - 1 by omega] at this
    exact this
  have hIn := hI.add (v := v) (x := 10) (n := n) (dd := depth) (lengths' := L) (b_size' := b_size + n) hd a5 hs a7 hn hb rfl hL hL2 a9 a10 (by decide) (by decide)
  have hXn := hX.add (x := 10) a5 hs a9 a10 (fun _ h => by omega) (fun h => absurd h (by decide))
  rw [if_neg (by decide), if_neg (by decide), if_neg (by decide)] at hXn
  obtain ⟨t, t1, t2, t3, t4⟩ := rtop (md := md) hd (by rw [a3]; exact hw0) (by rw [a3]; exact a10)
  rw [a3] at t4
  have n1 : vp_nar .boolean 1 = 1 := by decide
  unfold fX7_add bX7_add_0
  rw [if_neg (by decide), if_pos rfl, t1, Option.bind_some, if_pos t3, t4, n1, r58 hd (by rw [a1]; exact a5) (by rw [a1]; exact hs), if_neg (by decide), a1, a2, a3]
  refine ⟨_, rfl, fun j hj => upd_ne (by omega), ?_, hIn, hB, hO.name hw0 hk, hXn⟩
  have := hZ.add (b_size' := b_size + n) (n := n) (depth' := depth) (named' := 1) (md' := md) hs hn hb rfl a3 (by omega) (by omega) (by omega) (Or.inr rfl)
  rw [a1, a2] at this
  exact this
theorem pair_end (hR : DR d kinds starts lengths depths numbers b_cells b_size b_tooLong openKinds size depth named mk mn ms ml mw mp mi mb mo mm md) (hd : d ≤ 1) (hw : 0 < depth.toInt) (hs : size.toInt < 1500) : fX7_add mk mn ms ml mw mi mb mo mm md (nI d) 11 v 0 = some (upd mk (1500 * d + size.toInt.toNat) 11, vp_updL mn (1500 * d + size.toInt.toNat) v, upd ms (1500 * d + size.toInt.toNat) (5000 * nI d + b_size), upd ml (1500 * d + size.toInt.toNat) 0, upd mw (1500 * d + size.toInt.toNat) (depth - 1), upd mi d (mi d + 1), upd mb d (mb d + 0), mo, mm, upd md d (depth - 1)) ∧ DR d (upd kinds size.toInt.toNat 11) (upd starts size.toInt.toNat b_size) (upd lengths size.toInt.toNat 0) (upd depths size.toInt.toNat (depth - 1)) (vp_updL numbers size.toInt.toNat v) b_cells b_size b_tooLong openKinds (size + 1) (depth - 1) 0 (upd mk (1500 * d + size.toInt.toNat) 11) (vp_updL mn (1500 * d + size.toInt.toNat) v) (upd ms (1500 * d + size.toInt.toNat) (5000 * nI d + b_size)) (upd ml (1500 * d + size.toInt.toNat) 0) (upd mw (1500 * d + size.toInt.toNat) (depth - 1)) mp (upd mi d (mi d + 1)) (upd mb d (mb d + 0)) mo mm (upd md d (depth - 1)) := by
  obtain ⟨hZ, hI, hBo, hO, hX⟩ := hR
  obtain ⟨a1, a2, a3, a4, a5, a6, a7, a8, a9, a10, a11, a12⟩ := id hZ
  obtain ⟨a, b⟩ := rdd hd
  have e : (depth - 1).toInt = depth.toInt - 1 := by rw [zsub (by rw [z1]; omega) (by rw [z1]; omega), z1]
  have hIn := hI.add (v := v) (x := 11) (n := 0) (dd := depth - 1) (lengths' := upd lengths size.toInt.toNat 0) (b_size' := b_size) hd a5 hs a7 (by decide) (by rw [z0]; omega) (Int32.add_zero _).symm (upd_same _ _ _) (fun i hi => upd_ne (by omega)) (by omega) (by omega) (by decide) (by decide)
  have hXn := hX.add (x := 11) a5 hs a9 a10 (fun h => absurd rfl h) (fun _ => hw)
  rw [if_pos rfl, if_pos rfl] at hXn
  unfold fX7_add bX7_add_0
  rw [if_pos rfl, if_pos a, if_pos a, b, r58 hd (by rw [a1]; exact a5) (by rw [a1]; exact hs), if_neg (by decide), a1, a2, a3, upd_same]
  refine ⟨rfl, ?_, hIn, hBo, hO.end_ hw a10, hXn⟩
  have := hZ.add (b_size' := b_size) (n := 0) (depth' := depth - 1) (named' := 0) (md' := upd md d (depth - 1)) hs (by decide) (by rw [z0]; omega) (Int32.add_zero _).symm (upd_same _ _ _) (by omega) (by omega) (by omega) (Or.inl rfl)
  rw [a1, a2] at this
  exact this
/-- what is plain: a value without bytes -/
def okV (n : Int) (openKinds : Nat → Int32) (b_size size depth named x : Int32) : Prop := (¬ (0 < size.toInt ∧ depth.toInt = 0) ∧ ¬ nmc openKinds depth named) ∧ (size.toInt < 1500 ∧ b_size.toInt + n ≤ 5000 ∧ ((x = 5 ∨ x = 6) → depth.toInt < 30))
theorem cplain_ok (h0 : 0 ≤ size.toInt) (hd : 0 ≤ depth.toInt) (hd2 : depth.toInt ≤ 30) (hb : 0 ≤ b_size.toInt) (hb2 : b_size.toInt ≤ 5000) (hx : x ≠ 10) (hx2 : x ≠ 11) (h : okV 0 openKinds b_size size depth named x) : fX6_addPlain kinds starts lengths depths numbers b_size openKinds size depth named x v = some (size + 1, upd kinds size.toInt.toNat x, upd starts size.toInt.toNat b_size, upd lengths size.toInt.toNat 0, upd depths size.toInt.toNat depth, vp_updL numbers size.toInt.toNat v, (if x = 5 ∨ x = 6 then upd openKinds depth.toInt.toNat x else openKinds), size + 1, (if x = 5 ∨ x = 6 then depth + 1 else depth), 0) := by
  obtain ⟨r, r1, r2⟩ := cacc_value (openKinds := openKinds) (size := size) (named := named) hd hd2 hx hx2
  obtain ⟨q, q1, q2⟩ := croom (size := size) (depth := depth) (x := x) (n := 0) hb hb2
  rw [z0] at q2
  unfold fX6_addPlain bX6_addPlain_0
  rw [r1, Option.bind_some, if_neg (fun e => (r2.mp e) h.1), q1, Option.bind_some, if_neg (fun e => (q2.mp e) h.2), cput h0 h.2.1 hd hd2 h.2.2.2 (fun e => absurd e hx2), Option.bind_some]
  simp only [if_neg hx, if_neg hx2]
  rfl
theorem cplain_no (hd : 0 ≤ depth.toInt) (hd2 : depth.toInt ≤ 30) (hb : 0 ≤ b_size.toInt) (hb2 : b_size.toInt ≤ 5000) (hx : x ≠ 10) (hx2 : x ≠ 11) (h : ¬ okV 0 openKinds b_size size depth named x) : fX6_addPlain kinds starts lengths depths numbers b_size openKinds size depth named x v = some (-1, kinds, starts, lengths, depths, numbers, openKinds, size, depth, named) := by
  obtain ⟨r, r1, r2⟩ := cacc_value (openKinds := openKinds) (size := size) (named := named) hd hd2 hx hx2
  obtain ⟨q, q1, q2⟩ := croom (size := size) (depth := depth) (x := x) (n := 0) hb hb2
  rw [z0] at q2
  unfold fX6_addPlain bX6_addPlain_0
  rw [r1, Option.bind_some]
  by_cases g : r = 0
  · rw [if_pos g]
  · rw [if_neg g, q1, Option.bind_some]
    have g1 := Classical.byContradiction fun e => g (r2.mpr e)
    rw [if_pos (q2.mpr fun e => h ⟨g1, e⟩)]
theorem cend_ok (h0 : 0 ≤ size.toInt) (hd2 : depth.toInt ≤ 30) (hb : 0 ≤ b_size.toInt) (hb2 : b_size.toInt ≤ 5000) (h1 : 0 < depth.toInt) (h2 : named = 0) (h3 : size.toInt < 1500) : fX6_addPlain kinds starts lengths depths numbers b_size openKinds size depth named 11 v = some (size + 1, upd kinds size.toInt.toNat 11, upd starts size.toInt.toNat b_size, upd lengths size.toInt.toNat 0, upd depths size.toInt.toNat (depth - 1), vp_updL numbers size.toInt.toNat v, openKinds, size + 1, depth - 1, 0) := by
  obtain ⟨r, r1, r2⟩ := cacc_end (openKinds := openKinds) (size := size) (depth := depth) (named := named) (by omega) hd2
  obtain ⟨q, q1, q2⟩ := croom (size := size) (depth := depth) (x := 11) (n := 0) hb hb2
  rw [z0] at q2
  unfold fX6_addPlain bX6_addPlain_0
  rw [r1, Option.bind_some, if_neg (fun e => (r2.mp e) ⟨h1, h2⟩), q1, Option.bind_some, if_neg (fun e => (q2.mp e) ⟨h3, by omega, fun g => absurd g (by decide)⟩), cput h0 h3 (by omega) hd2 (fun g => absurd g (by decide)) (fun _ => h1), Option.bind_some]
  rfl
theorem cend_no (hd : 0 ≤ depth.toInt) (hd2 : depth.toInt ≤ 30) (hb : 0 ≤ b_size.toInt) (hb2 : b_size.toInt ≤ 5000) (h : ¬ (0 < depth.toInt ∧ named = 0 ∧ size.toInt < 1500)) : fX6_addPlain kinds starts lengths depths numbers b_size openKinds size depth named 11 v = some (-1, kinds, starts, lengths, depths, numbers, openKinds, size, depth, named) := by
  obtain ⟨r, r1, r2⟩ := cacc_end (openKinds := openKinds) (size := size) (named := named) hd hd2
  obtain ⟨q, q1, q2⟩ := croom (size := size) (depth := depth) (x := 11) (n := 0) hb hb2
  rw [z0] at q2
  unfold fX6_addPlain bX6_addPlain_0
  rw [r1, Option.bind_some]
  by_cases g : r = 0
  · rw [if_pos g]
  · rw [if_neg g, q1, Option.bind_some]
    have g1 := Classical.byContradiction fun e => g (r2.mpr e)
    rw [if_pos (q2.mpr fun e => h ⟨g1.1, g1.2, e.1⟩)]
/-- the reference's takesValue -/
theorem rtakes (hR : DR 0 kinds starts lengths depths numbers b_cells b_size b_tooLong openKinds size depth named mk mn ms ml mw mp mi mb mo mm md) : ∃ r, fX7_takesValue mi mo mm md = some r ∧ (r = 0 ↔ ¬ (¬ (0 < size.toInt ∧ depth.toInt = 0) ∧ ¬ nmc openKinds depth named)) := by
  obtain ⟨hZ, hI, hBo, hO, hX⟩ := hR
  obtain ⟨a1, a2, a3, a4, a5, a6, a7, a8, a9, a10, a11, a12⟩ := id hZ
  have w := rwhole (mi := mi) (md := md) (d := 0) (by omega)
  obtain ⟨r, r1, r2⟩ := rwants (mo := mo) (mm := mm) (md := md) (d := 0) (by omega) (by rw [a3]; exact a9) (by rw [a3]; exact a10)
  rw [a3, ← nmc_ref hO a9 a10] at r2
  rw [nI_0] at w r1
  rw [a1, a3] at w
  unfold fX7_takesValue bX7_takesValue_0
  rw [w, Option.bind_some]
  by_cases g : 0 < size.toInt ∧ depth.toInt = 0
  · rw [if_pos g, if_neg (by decide)]; exact ⟨0, rfl, if0 (fun h => h.1 g)⟩
  · rw [if_neg g, if_pos rfl, r1, Option.bind_some]
    by_cases g2 : r = 0
    · rw [if_pos g2]; exact ⟨1, rfl, if1 ⟨g, r2.mp g2⟩⟩
    · rw [if_neg g2]; exact ⟨0, rfl, if0 (fun h => g2 (r2.mpr h.2))⟩
end Pair2
