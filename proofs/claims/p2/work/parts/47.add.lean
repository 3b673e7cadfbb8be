/-! the reference's add -/
theorem if0 {p : Prop} (h : ¬ p) : ((0 : Int32) = 0 ↔ ¬ p) := ⟨fun _ => h, fun _ => rfl⟩
theorem if1 {p : Prop} (h : p) : ((1 : Int32) = 0 ↔ ¬ p) := ⟨fun e => absurd e (by decide), fun n => absurd h n⟩
section Add
variable {kinds starts lengths depths b_cells openKinds : Nat → Int32} {numbers : Nat → Int64} {b_size b_tooLong size depth named : Int32} {mk ms ml mw mp mi mb mo mm md : Nat → Int32} {mn : Nat → Int64} {d : Nat}
theorem rdd (hd : d ≤ 1) : ix (nI d) 2 ∧ (nI d).toNatClampNeg = d := by
  constructor
  · show 0 ≤ (nI d).toInt ∧ (nI d).toInt < _
    rw [znI (by omega)]; omega
  · rw [zcl, znI (by omega)]; omega
theorem rtop (hd : d ≤ 1) (h0 : 0 < (md d).toInt) (h1 : (md d).toInt ≤ 30) : ∃ t, fX7_top md (nI d) = some t ∧ t.toInt = 30 * d + (md d).toInt - 1 ∧ ix t 60 ∧ t.toNatClampNeg = 30 * d + ((md d).toInt.toNat - 1) := by
  obtain ⟨a, b⟩ := rdd hd
  unfold fX7_top bX7_top_0
  rw [if_pos a, b]
  have e : ((30 * nI d) + md d - 1).toInt = 30 * d + (md d).toInt - 1 := by
    have e1 : (30 * nI d).toInt = 30 * d := by rw [zmul (by rw [z30, znI (by omega)]; omega) (by rw [z30, znI (by omega)]; omega), z30, znI (by omega)]
    have e2 : (30 * nI d + md d).toInt = 30 * d + (md d).toInt := by rw [zadd (by rw [e1]; omega) (by rw [e1]; omega), e1]
    rw [zsub (by rw [e2, z1]; omega) (by rw [e2, z1]; omega), e2, z1]
  refine ⟨_, rfl, e, ?_, ?_⟩
  · show 0 ≤ _ ∧ _ < _
    rw [e]; omega
  · rw [zcl, e]; omega
theorem rwhole (hd : d ≤ 1) : fX7_isWhole mi md (nI d) = some (if 0 < (mi d).toInt ∧ (md d).toInt = 0 then 1 else 0) := by
  obtain ⟨a, b⟩ := rdd hd
  unfold fX7_isWhole bX7_isWhole_0
  rw [if_pos a, if_pos a, b]
  by_cases g : 0 < (mi d).toInt
  · rw [if_neg (by rw [zle, z0]; omega)]
    by_cases g2 : (md d).toInt = 0
    · rw [if_pos (by rw [zeq, z0]; omega), if_pos ⟨g, g2⟩]
    · rw [if_neg (by rw [zeq, z0]; omega), if_neg (by omega)]
  · rw [if_pos (by rw [zle, z0]; omega), if_neg (by omega)]
theorem rinobj (hd : d ≤ 1) (h0 : 0 ≤ (md d).toInt) (h1 : (md d).toInt ≤ 30) : ∃ r, fX7_inObject mo md (nI d) = some r ∧ (r = 0 ↔ ¬ (0 < (md d).toInt ∧ mo (30 * d + ((md d).toInt.toNat - 1)) ≠ 0)) := by
  obtain ⟨a, b⟩ := rdd hd
  unfold fX7_inObject bX7_inObject_0
  rw [if_pos a, b]
  by_cases g : 0 < (md d).toInt
  · rw [if_neg (by rw [zle, z0]; omega)]
    obtain ⟨t, t1, t2, t3, t4⟩ := rtop (md := md) hd g h1
    rw [t1, Option.bind_some, if_pos t3, t4]
    by_cases g2 : mo (30 * d + ((md d).toInt.toNat - 1)) = 0
    · rw [if_pos g2]; exact ⟨0, rfl, if0 (fun h => h.2 g2)⟩
    · rw [if_neg g2]; exact ⟨1, rfl, if1 ⟨g, g2⟩⟩
  · rw [if_pos (by rw [zle, z0]; omega)]; exact ⟨0, rfl, by simp [g]⟩
theorem rwants (hd : d ≤ 1) (h0 : 0 ≤ (md d).toInt) (h1 : (md d).toInt ≤ 30) : ∃ r, fX7_wantsName mo mm md (nI d) = some r ∧ (r = 0 ↔ ¬ (0 < (md d).toInt ∧ mo (30 * d + ((md d).toInt.toNat - 1)) ≠ 0 ∧ mm (30 * d + ((md d).toInt.toNat - 1)) = 0)) := by
  unfold fX7_wantsName bX7_wantsName_0
  obtain ⟨r, r1, r2⟩ := rinobj (mo := mo) (md := md) hd h0 h1
  rw [r1, Option.bind_some]
  by_cases g : r = 0
  · rw [if_pos g]; have := r2.mp g; exact ⟨0, rfl, by simp; intro a b; exact absurd ⟨a, b⟩ this⟩
  · rw [if_neg g]
    have g2 : 0 < (md d).toInt ∧ mo (30 * d + ((md d).toInt.toNat - 1)) ≠ 0 := Classical.byContradiction fun h => g (r2.mpr h)
    obtain ⟨t, t1, t2, t3, t4⟩ := rtop (md := md) hd g2.1 h1
    rw [t1, Option.bind_some, if_pos t3, t4]
    by_cases g3 : mm (30 * d + ((md d).toInt.toNat - 1)) = 0
    · rw [if_pos g3]; exact ⟨1, rfl, if1 ⟨g2.1, g2.2, g3⟩⟩
    · rw [if_neg g3]; exact ⟨0, rfl, if0 (fun h => g3 h.2.2)⟩
theorem rmay (hd : d ≤ 1) {n o : Int32} (hb : 0 ≤ (mb d).toInt) (hb2 : (mb d).toInt ≤ 5000) (hn : 0 ≤ n.toInt) (hn2 : n.toInt ≤ 100000) : ∃ r, fX7_mayBe mi mb md (nI d) n o = some r ∧ (r = 0 ↔ ¬ ((mi d).toInt < 1500 ∧ (mb d).toInt + n.toInt ≤ 5000 ∧ (o ≠ 0 → (md d).toInt < 30))) := by
  obtain ⟨a, b⟩ := rdd hd
  unfold fX7_mayBe bX7_mayBe_0
  rw [if_pos a, if_pos a, if_pos a, b]
  have e : (mb d + n).toInt = (mb d).toInt + n.toInt := zadd (by omega) (by omega)
  by_cases g : (mi d).toInt < 1500
  · rw [if_neg (by rw [zle, z1500]; omega)]
    by_cases g2 : (mb d).toInt + n.toInt ≤ 5000
    · rw [if_neg (by rw [zlt, e, z5000]; omega)]
      by_cases g3 : o = 0
      · rw [if_pos g3]; exact ⟨1, rfl, by simp [g, g2, g3]⟩
      · rw [if_neg g3]
        by_cases g4 : (md d).toInt < 30
        · rw [if_neg (by rw [zle, z30]; omega)]; exact ⟨1, rfl, by simp [g, g2, g4]⟩
        · rw [if_pos (by rw [zle, z30]; omega)]; exact ⟨0, rfl, by simp [g3, g4]⟩
    · rw [if_pos (by rw [zlt, e, z5000]; omega)]; exact ⟨0, rfl, by simp [g2]⟩
  · rw [if_pos (by rw [zle, z1500]; omega)]; exact ⟨0, rfl, by simp [g]⟩
end Add
section Add2
variable {mk ms ml mw mp mi mb mo mm md : Nat → Int32} {mn : Nat → Int64} {d : Nat} {x n : Int32} {v : Int64}
theorem r58 (hd : d ≤ 1) (h0 : 0 ≤ (mi d).toInt) (h1 : (mi d).toInt < 1500) : bX7_add_58 mk mn ms ml mw mi mb mo mm md (nI d) x v n = if x = 5 ∨ x = 6 then bX7_add_161 (upd mk (1500 * d + (mi d).toInt.toNat) x) (vp_updL mn (1500 * d + (mi d).toInt.toNat) v) (upd ms (1500 * d + (mi d).toInt.toNat) (5000 * nI d + mb d)) (upd ml (1500 * d + (mi d).toInt.toNat) n) (upd mw (1500 * d + (mi d).toInt.toNat) (md d)) (upd mi d (mi d + 1)) (upd mb d (mb d + n)) mo mm md (nI d) x else some (upd mk (1500 * d + (mi d).toInt.toNat) x, vp_updL mn (1500 * d + (mi d).toInt.toNat) v, upd ms (1500 * d + (mi d).toInt.toNat) (5000 * nI d + mb d), upd ml (1500 * d + (mi d).toInt.toNat) n, upd mw (1500 * d + (mi d).toInt.toNat) (md d), upd mi d (mi d + 1), upd mb d (mb d + n), mo, mm, md) := by
  obtain ⟨a, b⟩ := rdd hd
  have e1 : (1500 * nI d).toInt = 1500 * d := by rw [zmul (by rw [z1500, znI (by omega)]; omega) (by rw [z1500, znI (by omega)]; omega), z1500, znI (by omega)]
  have e2 : (1500 * nI d + mi d).toInt = 1500 * d + (mi d).toInt := by rw [zadd (by rw [e1]; omega) (by rw [e1]; omega), e1]
  have e3 : (1500 * nI d + mi d).toNatClampNeg = 1500 * d + (mi d).toInt.toNat := by rw [zcl, e2]; omega
  have hI : ix (1500 * nI d + mi d) 3000 := by
    show 0 ≤ _ ∧ _ < _
    rw [e2]; omega
  unfold bX7_add_58
  rw [b, e3, if_pos a, if_pos hI, if_pos hI, if_pos a, if_pos hI, if_pos hI, if_pos a, if_pos hI, if_pos a, if_pos a, if_pos a, if_pos a]
  by_cases g : x = 5
  · rw [if_pos g, if_pos (Or.inl g)]
  · rw [if_neg g]
    by_cases g2 : x = 6
    · rw [if_pos g2, if_pos (Or.inr g2)]
    · rw [if_neg g2, if_neg (by simp [g, g2])]
theorem r161 (hd : d ≤ 1) (h0 : 0 ≤ (md d).toInt) (h1 : (md d).toInt < 30) (hx : x = 5 ∨ x = 6) : bX7_add_161 mk mn ms ml mw mi mb mo mm md (nI d) x = some (mk, mn, ms, ml, mw, mi, mb, upd mo (30 * d + (md d).toInt.toNat) (if x = 6 then 1 else 0), upd mm (30 * d + (md d).toInt.toNat) 0, upd md d (md d + 1)) := by
  obtain ⟨a, b⟩ := rdd hd
  have e : (md d + 1).toInt = (md d).toInt + 1 := by rw [zadd (by rw [z1]; omega) (by rw [z1]; omega), z1]
  obtain ⟨t, t1, t2, t3, t4⟩ := rtop (md := upd md d (md d + 1)) hd (by rw [upd_same, e]; omega) (by rw [upd_same, e]; omega)
  rw [upd_same, e] at t4
  have t5 : t.toNatClampNeg = 30 * d + (md d).toInt.toNat := by rw [t4]; omega
  have n1 : vp_nar .boolean 1 = 1 := by decide
  have n0 : vp_nar .boolean 0 = 0 := by decide
  unfold bX7_add_161
  rw [b, if_pos a, if_pos a, t1, Option.bind_some]
  unfold bX7_add_191
  rcases hx with rfl | rfl
  · rw [if_neg (by decide), if_pos t3, t1, Option.bind_some, if_pos t3, t5, n0, if_neg (by decide)]
  · rw [if_pos rfl, if_pos t3, t1, Option.bind_some, if_pos t3, t5, n0, n1, if_pos rfl]
end Add2
