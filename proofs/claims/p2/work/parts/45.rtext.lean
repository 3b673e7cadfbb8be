/-! the reference's characters -/
theorem rbyt {pool : Nat → Int32} {q x : Int32} {j : Nat} (hx : x.toInt = j) (hq : 0 ≤ q.toInt) (hq2 : q.toInt + j < 16000) (hj : j ≤ 3) : (pool (Int32.toNatClampNeg (q + x)) &&& 255).toInt = byt pool q j ∧ ix (q + x) 16000 := by
  have e : (q + x).toInt = q.toInt + j := by rw [zadd (by omega) (by omega), hx]
  constructor
  · rw [zand255, zcl, e]; unfold byt; rw [show (q.toInt + j).toNat = q.toInt.toNat + j by omega]
  · show 0 ≤ (q + x).toInt ∧ (q + x).toInt < _
    rw [e]; constructor <;> omega
theorem rstep {pool : Nat → Int32} {q n v x : Int32} {j : Nat} (hx : x.toInt = j) (hj : j ≤ 3) (hq : 0 ≤ q.toInt) (hq2 : q.toInt + j < 16000) (hn : ¬ n ≤ x) (nn : Nat) : bX7_character_129 (nn + 1) pool q n v x = if 128 ≤ byt pool q j ∧ byt pool q j ≤ 191 then bX7_character_129 nn pool q n ((64 * v) + ((pool (Int32.toNatClampNeg (q + x)) &&& 255) &&& 63)) (x + 1) else some 0 := by
  obtain ⟨e1, e2⟩ := rbyt (pool := pool) hx hq hq2 hj
  rw [bX7_character_129, if_neg hn, if_pos e2]
  have z1 : (128 : Int32).toInt = 128 := by decide
  have z2 : (191 : Int32).toInt = 191 := by decide
  by_cases g : 128 ≤ byt pool q j
  · rw [if_neg (by rw [zlt, e1, z1]; omega)]
    by_cases g2 : byt pool q j ≤ 191
    · rw [if_pos (by rw [zle, e1, z2]; omega), if_pos ⟨g, g2⟩]
    · rw [if_neg (by rw [zle, e1, z2]; omega), if_neg (by omega)]
  · rw [if_pos (by rw [zlt, e1, z1]; omega), if_neg (by omega)]
theorem r224 {pool : Nat → Int32} {n v s : Int32} : bX7_character_224 pool n v s = some (if s.toInt ≤ v.toInt ∧ v.toInt ≤ 1114111 ∧ (v.toInt < 55296 ∨ 57343 < v.toInt) then n else 0) := by
  unfold bX7_character_224
  have z1 : (1114111 : Int32).toInt = 1114111 := by decide
  have z2 : (55296 : Int32).toInt = 55296 := by decide
  have z3 : (57343 : Int32).toInt = 57343 := by decide
  by_cases g1 : v < s
  · rw [if_pos g1, if_neg (by rw [zlt] at g1; omega)]
  rw [if_neg g1]
  by_cases g2 : 1114111 < v
  · rw [if_pos g2, if_neg (by rw [zlt, z1] at g2; omega)]
  rw [if_neg g2]
  rw [zlt] at g1; rw [zlt, z1] at g2
  by_cases g3 : v < 55296
  · rw [if_pos g3, if_pos (by rw [zlt, z2] at g3; omega)]
  rw [if_neg g3]
  rw [zlt, z2] at g3
  by_cases g4 : 57343 < v
  · rw [if_pos g4, if_pos (by rw [zlt, z3] at g4; omega)]
  · rw [if_neg g4, if_neg (by rw [zlt, z3] at g4; omega)]
set_option maxHeartbeats 4000000 in
theorem rchar {pool : Nat → Int32} {q e : Int32} {r : Int} (h0 : 0 ≤ q.toInt) (he : q.toInt + r = e.toInt) (hr : 1 ≤ r) (h2 : e.toInt ≤ 16000) : ∃ w : Int32, fX7_character pool q e = some w ∧ w.toInt = chw (byt pool q 0) (byt pool q 1) (byt pool q 2) (byt pool q 3) r := by
  have l0 := byt_lo pool q 0
  have a0 : (pool (Int32.toNatClampNeg q) &&& 255).toInt = byt pool q 0 := by rw [zand255]; rfl
  have z0 : (0 : Int32).toInt = 0 := by decide
  have z1 : (1 : Int32).toInt = 1 := by decide
  have z2 : (2 : Int32).toInt = 2 := by decide
  have z3 : (3 : Int32).toInt = 3 := by decide
  have z4 : (4 : Int32).toInt = 4 := by decide
  have z11 : ((1 : Int32) + 1).toInt = (2 : Nat) := by decide
  have z12 : ((1 : Int32) + 1 + 1).toInt = (3 : Nat) := by decide
  have z64 : (64 : Int32).toInt = 64 := by decide
  have f1 : FU = 999996 + 1 + 1 + 1 + 1 := rfl
  have leaf0 : chw (byt pool q 0) (byt pool q 1) (byt pool q 2) (byt pool q 3) r = 0 → ∃ w : Int32, some (0 : Int32) = some w ∧ w.toInt = chw (byt pool q 0) (byt pool q 1) (byt pool q 2) (byt pool q 3) r := fun h => ⟨0, rfl, by rw [h, z0]⟩
  unfold fX7_character bX7_character_0
  rw [if_pos (show ix q 16000 from ⟨h0, by omega⟩)]
  by_cases g1 : 128 ≤ byt pool q 0
  rotate_left
  · rw [if_neg (by rw [zle, a0]; exact g1)]
    unfold bX7_character_67
    rw [if_neg (by decide), if_pos (by rw [zle, zadd (by rw [z1]; omega) (by rw [z1]; omega), z1]; omega), if_pos rfl]
    unfold bX7_character_124
    rw [f1, bX7_character_129, if_pos (by decide), if_pos rfl, r224, a0, z0, if_pos (by omega)]
    refine ⟨1, rfl, ?_⟩
    unfold chw; rw [if_pos (by omega), z1]
  rw [if_pos (by rw [zle, a0]; exact g1)]
  by_cases g2 : 192 ≤ byt pool q 0
  rotate_left
  · rw [if_neg (by rw [zle, a0]; exact g2)]
    unfold bX7_character_67
    rw [if_pos rfl]
    exact leaf0 (chw0 g1 (Or.inl (by omega)))
  rw [if_pos (by rw [zle, a0]; exact g2)]
  by_cases g3 : 224 ≤ byt pool q 0
  rotate_left
  · rw [if_neg (by rw [zle, a0]; exact g3)]
    unfold bX7_character_67
    rw [if_neg (by decide)]
    by_cases gr : 2 ≤ r
    rotate_left
    · rw [if_neg (by rw [zle, zadd (by rw [z2]; omega) (by rw [z2]; omega), z2]; omega)]
      refine leaf0 ?_
      unfold chw; rw [if_neg (by omega)]; (repeat' split) <;> omega
    rw [if_pos (by rw [zle, zadd (by rw [z2]; omega) (by rw [z2]; omega), z2]; omega), if_neg (by decide), if_pos rfl]
    unfold bX7_character_124
    rw [f1, rstep (j := 1) z1 (by omega) h0 (by omega) (by decide)]
    have c1 := rbyt (pool := pool) (q := q) (x := 1) (j := 1) z1 h0 (by omega) (by omega)
    by_cases b1 : 128 ≤ byt pool q 1 ∧ byt pool q 1 ≤ 191
    rotate_left
    · rw [if_neg b1]; refine leaf0 ?_
      unfold chw; rw [if_neg (by omega)]; (repeat' split) <;> omega
    rw [if_pos b1, bX7_character_129, if_pos (by decide), if_neg (by decide), if_pos rfl, r224]
    have v0 : (pool (Int32.toNatClampNeg q) &&& 255 &&& 31).toInt = byt pool q 0 % 32 := by rw [zand31, a0]
    have v1 : (pool (Int32.toNatClampNeg (q + 1)) &&& 255 &&& 63).toInt = byt pool q 1 % 64 := by rw [zand63, c1.1]
    have m1 : (64 * (pool (Int32.toNatClampNeg q) &&& 255 &&& 31)).toInt = 64 * (byt pool q 0 % 32) := by rw [zmul (by rw [z64, v0]; omega) (by rw [z64, v0]; omega), z64, v0]
    rw [zadd (by rw [m1, v1]; omega) (by rw [m1, v1]; omega), m1, v1, show (128 : Int32).toInt = 128 by decide]
    refine ⟨_, rfl, ?_⟩
    unfold chw
    (repeat' split) <;> omega
  rw [if_pos (by rw [zle, a0]; exact g3)]
  by_cases g4 : 240 ≤ byt pool q 0
  rotate_left
  · rw [if_neg (by rw [zle, a0]; exact g4)]
    unfold bX7_character_67
    rw [if_neg (by decide)]
    by_cases gr : 3 ≤ r
    rotate_left
    · rw [if_neg (by rw [zle, zadd (by rw [z3]; omega) (by rw [z3]; omega), z3]; omega)]
      refine leaf0 ?_
      unfold chw; rw [if_neg (by omega)]; (repeat' split) <;> omega
    rw [if_pos (by rw [zle, zadd (by rw [z3]; omega) (by rw [z3]; omega), z3]; omega), if_neg (by decide), if_neg (by decide), if_pos rfl]
    unfold bX7_character_124
    rw [f1, rstep (j := 1) z1 (by omega) h0 (by omega) (by decide)]
    have c1 := rbyt (pool := pool) (q := q) (x := 1) (j := 1) z1 h0 (by omega) (by omega)
    have c2 := rbyt (pool := pool) (q := q) (x := 1 + 1) (j := 2) z11 h0 (by omega) (by omega)
    by_cases b1 : 128 ≤ byt pool q 1 ∧ byt pool q 1 ≤ 191
    rotate_left
    · rw [if_neg b1]; refine leaf0 ?_
      unfold chw; rw [if_neg (by omega)]; (repeat' split) <;> omega
    rw [if_pos b1, rstep (j := 2) z11 (by omega) h0 (by omega) (by decide)]
    by_cases b2 : 128 ≤ byt pool q 2 ∧ byt pool q 2 ≤ 191
    rotate_left
    · rw [if_neg b2]; refine leaf0 ?_
      unfold chw; rw [if_neg (by omega)]; (repeat' split) <;> omega
    rw [if_pos b2, bX7_character_129, if_pos (by decide), if_neg (by decide), if_neg (by decide), if_pos rfl, r224]
    have v0 : (pool (Int32.toNatClampNeg q) &&& 255 &&& 15).toInt = byt pool q 0 % 16 := by rw [zand15, a0]
    have v1 : (pool (Int32.toNatClampNeg (q + 1)) &&& 255 &&& 63).toInt = byt pool q 1 % 64 := by rw [zand63, c1.1]
    have v2 : (pool (Int32.toNatClampNeg (q + (1 + 1))) &&& 255 &&& 63).toInt = byt pool q 2 % 64 := by rw [zand63, c2.1]
    have m1 : (64 * (pool (Int32.toNatClampNeg q) &&& 255 &&& 15)).toInt = 64 * (byt pool q 0 % 16) := by rw [zmul (by rw [z64, v0]; omega) (by rw [z64, v0]; omega), z64, v0]
    have s1 : (64 * (pool (Int32.toNatClampNeg q) &&& 255 &&& 15) + (pool (Int32.toNatClampNeg (q + 1)) &&& 255 &&& 63)).toInt = 64 * (byt pool q 0 % 16) + byt pool q 1 % 64 := by rw [zadd (by rw [m1, v1]; omega) (by rw [m1, v1]; omega), m1, v1]
    have m2 : (64 * (64 * (pool (Int32.toNatClampNeg q) &&& 255 &&& 15) + (pool (Int32.toNatClampNeg (q + 1)) &&& 255 &&& 63))).toInt = 64 * (64 * (byt pool q 0 % 16) + byt pool q 1 % 64) := by rw [zmul (by rw [z64, s1]; omega) (by rw [z64, s1]; omega), z64, s1]
    rw [zadd (by rw [m2, v2]; omega) (by rw [m2, v2]; omega), m2, v2, show (2048 : Int32).toInt = 2048 by decide]
    refine ⟨_, rfl, ?_⟩
    unfold chw
    (repeat' split) <;> omega
  rw [if_pos (by rw [zle, a0]; exact g4)]
  by_cases g5 : 248 ≤ byt pool q 0
  · rw [if_pos (by rw [zle, a0]; exact g5)]
    unfold bX7_character_67
    rw [if_pos rfl]
    refine leaf0 ?_
    unfold chw; (repeat' split) <;> omega
  rw [if_neg (by rw [zle, a0]; exact g5)]
  unfold bX7_character_67
  rw [if_neg (by decide)]
  by_cases gr : 4 ≤ r
  rotate_left
  · rw [if_neg (by rw [zle, zadd (by rw [z4]; omega) (by rw [z4]; omega), z4]; omega)]
    refine leaf0 ?_
    unfold chw; rw [if_neg (by omega)]; (repeat' split) <;> omega
  rw [if_pos (by rw [zle, zadd (by rw [z4]; omega) (by rw [z4]; omega), z4]; omega), if_neg (by decide), if_neg (by decide), if_neg (by decide)]
  unfold bX7_character_124
  rw [f1, rstep (j := 1) z1 (by omega) h0 (by omega) (by decide)]
  have c1 := rbyt (pool := pool) (q := q) (x := 1) (j := 1) z1 h0 (by omega) (by omega)
  have c2 := rbyt (pool := pool) (q := q) (x := 1 + 1) (j := 2) z11 h0 (by omega) (by omega)
  have c3 := rbyt (pool := pool) (q := q) (x := 1 + 1 + 1) (j := 3) z12 h0 (by omega) (by omega)
  by_cases b1 : 128 ≤ byt pool q 1 ∧ byt pool q 1 ≤ 191
  rotate_left
  · rw [if_neg b1]; refine leaf0 ?_
    unfold chw; rw [if_neg (by omega)]; (repeat' split) <;> omega
  rw [if_pos b1, rstep (j := 2) z11 (by omega) h0 (by omega) (by decide)]
  by_cases b2 : 128 ≤ byt pool q 2 ∧ byt pool q 2 ≤ 191
  rotate_left
  · rw [if_neg b2]; refine leaf0 ?_
    unfold chw; rw [if_neg (by omega)]; (repeat' split) <;> omega
  rw [if_pos b2, rstep (j := 3) z12 (by omega) h0 (by omega) (by decide)]
  by_cases b3 : 128 ≤ byt pool q 3 ∧ byt pool q 3 ≤ 191
  rotate_left
  · rw [if_neg b3]; refine leaf0 ?_
    unfold chw; rw [if_neg (by omega)]; (repeat' split) <;> omega
  rw [if_pos b3, bX7_character_129, if_pos (by decide), if_neg (by decide), if_neg (by decide), if_neg (by decide), r224]
  have v0 : (pool (Int32.toNatClampNeg q) &&& 255 &&& 7).toInt = byt pool q 0 % 8 := by rw [zand7, a0]
  have v1 : (pool (Int32.toNatClampNeg (q + 1)) &&& 255 &&& 63).toInt = byt pool q 1 % 64 := by rw [zand63, c1.1]
  have v2 : (pool (Int32.toNatClampNeg (q + (1 + 1))) &&& 255 &&& 63).toInt = byt pool q 2 % 64 := by rw [zand63, c2.1]
  have v3 : (pool (Int32.toNatClampNeg (q + (1 + 1 + 1))) &&& 255 &&& 63).toInt = byt pool q 3 % 64 := by rw [zand63, c3.1]
  have m1 : (64 * (pool (Int32.toNatClampNeg q) &&& 255 &&& 7)).toInt = 64 * (byt pool q 0 % 8) := by rw [zmul (by rw [z64, v0]; omega) (by rw [z64, v0]; omega), z64, v0]
  have s1 : (64 * (pool (Int32.toNatClampNeg q) &&& 255 &&& 7) + (pool (Int32.toNatClampNeg (q + 1)) &&& 255 &&& 63)).toInt = 64 * (byt pool q 0 % 8) + byt pool q 1 % 64 := by rw [zadd (by rw [m1, v1]; omega) (by rw [m1, v1]; omega), m1, v1]
  have m2 : (64 * (64 * (pool (Int32.toNatClampNeg q) &&& 255 &&& 7) + (pool (Int32.toNatClampNeg (q + 1)) &&& 255 &&& 63))).toInt = 64 * (64 * (byt pool q 0 % 8) + byt pool q 1 % 64) := by rw [zmul (by rw [z64, s1]; omega) (by rw [z64, s1]; omega), z64, s1]
  have s2 : (64 * (64 * (pool (Int32.toNatClampNeg q) &&& 255 &&& 7) + (pool (Int32.toNatClampNeg (q + 1)) &&& 255 &&& 63)) + (pool (Int32.toNatClampNeg (q + (1 + 1))) &&& 255 &&& 63)).toInt = 64 * (64 * (byt pool q 0 % 8) + byt pool q 1 % 64) + byt pool q 2 % 64 := by rw [zadd (by rw [m2, v2]; omega) (by rw [m2, v2]; omega), m2, v2]
  have m3 : (64 * (64 * (64 * (pool (Int32.toNatClampNeg q) &&& 255 &&& 7) + (pool (Int32.toNatClampNeg (q + 1)) &&& 255 &&& 63)) + (pool (Int32.toNatClampNeg (q + (1 + 1))) &&& 255 &&& 63))).toInt = 64 * (64 * (64 * (byt pool q 0 % 8) + byt pool q 1 % 64) + byt pool q 2 % 64) := by rw [zmul (by rw [z64, s2]; omega) (by rw [z64, s2]; omega), z64, s2]
  rw [zadd (by rw [m3, v3]; omega) (by rw [m3, v3]; omega), m3, v3, show (65536 : Int32).toInt = 65536 by decide]
  refine ⟨_, rfl, ?_⟩
  unfold chw
  (repeat' split) <;> omega
/-- text or not: the same on both sides -/
theorem text_eq {cap : Nat} {c pool : Nat → Int32} {s : Int32} (h2 : s.toInt ≤ cap) (hc : cap ≤ 6000) (e : Int32) (he : e.toInt ≤ s.toInt) (x1 x2 : Int32) (h3 : (x1 + x2).toInt ≤ 16000) : ∀ (n fuel : Nat) (x q : Int32), n < fuel → 0 ≤ x.toInt → 0 ≤ q.toInt → x.toInt + n = e.toInt → q.toInt + n = (x1 + x2).toInt → (∀ j : Nat, j < n → (c (x.toInt.toNat + j)).toInt % 256 = (pool (q.toInt.toNat + j)).toInt % 256) → ∃ b : Int32, bX4_isText_7 fuel cap c s e x = some b ∧ bX7_isText_2 fuel pool x1 x2 q = some b ∧ (b = 0 ∨ b = 1) := by
  intro n
  induction n using Nat.strongRecOn with
  | ind n ih =>
    intro fuel x q hf hx hq hxe hqe hb
    obtain ⟨f, rfl⟩ : ∃ f, fuel = f + 1 := ⟨fuel - 1, by omega⟩
    rw [bX4_isText_7, bX7_isText_2]
    by_cases hn : n = 0
    · refine ⟨1, if_pos ?_, if_pos ?_, Or.inr rfl⟩
      · rw [zle]; omega
      · rw [zle]; omega
    rw [if_neg (by rw [zle]; omega), if_neg (by rw [zle]; omega)]
    obtain ⟨w, w1, w2, w3, w4⟩ := cwidth (c := c) hx (show x.toInt < s.toInt by omega) h2 hc (r := n) (by omega) (by omega)
    obtain ⟨w', u1, u2⟩ := rchar (pool := pool) (q := q) (e := x1 + x2) (r := n) hq (by omega) (by omega) h3
    have hB : chw (byt c x 0) (byt c x 1) (byt c x 2) (byt c x 3) n = chw (byt pool q 0) (byt pool q 1) (byt pool q 2) (byt pool q 3) n := by
      have b0 : byt c x 0 = byt pool q 0 := hb 0 (by omega)
      have b1 : (2 : Int) ≤ n → byt c x 1 = byt pool q 1 := fun h => hb 1 (by omega)
      have b2 : (3 : Int) ≤ n → byt c x 2 = byt pool q 2 := fun h => hb 2 (by omega)
      have b3 : (4 : Int) ≤ n → byt c x 3 = byt pool q 3 := fun h => hb 3 (by omega)
      unfold chw
      rw [b0]
      (repeat' split) <;> first | rfl | omega
    rw [w1, u1, Option.bind_some, Option.bind_some]
    rw [hB, ← u2] at w4
    have z0 : (0 : Int32).toInt = 0 := by decide
    by_cases g0 : w' = 0
    · rw [if_pos g0]
      rw [g0, z0] at w4
      refine ⟨0, ?_, rfl, Or.inl rfl⟩
      by_cases g1 : w = 0
      · rw [if_pos g1]
      · rw [if_neg g1, if_neg]
        rw [zle, zsub (by omega) (by omega)]
        have g2 : w.toInt ≠ 0 := fun h => g1 (by rw [zeq, h, z0])
        split at w4 <;> omega
    · rw [if_neg g0]
      have g2 : w'.toInt ≠ 0 := fun h => g0 (by rw [zeq, h, z0])
      have g3 : w.toInt ≤ n := by
        refine Classical.byContradiction fun h => ?_
        rw [if_neg h] at w4; omega
      rw [if_pos g3] at w4
      have g4 : w = w' := zeq.mpr w4
      subst g4
      rw [if_neg g0, if_pos (by rw [zle, zsub (by omega) (by omega)]; omega)]
      have e1 : (x + w).toInt = x.toInt + w.toInt := zadd (by omega) (by omega)
      have e2 : (q + w).toInt = q.toInt + w.toInt := zadd (by omega) (by omega)
      refine ih (n - w.toInt.toNat) (by omega) f (x + w) (q + w) (by omega) (by omega) (by omega) (by omega) (by omega) (fun j hj => ?_)
      have := hb (w.toInt.toNat + j) (by omega)
      rw [e1, e2, show (x.toInt + w.toInt).toNat + j = x.toInt.toNat + (w.toInt.toNat + j) by omega, show (q.toInt + w.toInt).toNat + j = q.toInt.toNat + (w.toInt.toNat + j) by omega]
      exact this
