/-! which bytes are texts: class and reference by one measure -/
def byt (c : Nat → Int32) (p : Int32) (j : Nat) : Int := (c (p.toInt.toNat + j)).toInt % 256
theorem byt_lo (c : Nat → Int32) (p : Int32) (j : Nat) : 0 ≤ byt c p j ∧ byt c p j < 256 := by unfold byt; omega
set_option maxHeartbeats 4000000 in
theorem cw78 {cap : Nat} {c : Nat → Int32} {s p w : Int32} (h0 : 0 ≤ p.toInt) (h2 : s.toInt ≤ cap) (hc : cap ≤ 6000) (hp : p.toInt < s.toInt) (hw : w = 2 ∨ w = 3 ∨ w = 4) : ∃ r : Int32, bX4_widthAt_74 cap c s p w = some r ∧ (r = 0 ∨ r = w) ∧ (r = w ↔ ((w.toInt < 3 ∨ p.toInt + 2 < s.toInt ∧ 128 ≤ byt c p 2 ∧ byt c p 2 ≤ 191) ∧ (w.toInt < 4 ∨ p.toInt + 3 < s.toInt ∧ 128 ≤ byt c p 3 ∧ byt c p 3 ≤ 191))) := by
  unfold bX4_widthAt_74
  rw [show FU = 999997 + 1 + 1 + 1 from rfl]
  have e2 : (catv c s (p + 2)).toInt = if p.toInt + 2 < s.toInt then byt c p 2 else -1 := by
    rw [catv_toInt, show (p + 2).toInt = p.toInt + 2 by ((try simp (disch := ((try simp (disch := ((try simp only [zm1, zm2, Int32.reduceToInt]); omega)) only [zle, zlt, zeq, zadd, zsub, zmul, zcl, znI, zm1, zm2, Int32.reduceToInt]); omega)) only [zle, zlt, zeq, zadd, zsub, zmul, zcl, znI, zm1, zm2, Int32.reduceToInt]) <;> omega)]
    unfold byt
    rw [show (p.toInt + 2).toNat = p.toInt.toNat + 2 by omega]
    by_cases h : p.toInt + 2 < s.toInt
    · rw [if_pos h, if_pos ⟨by omega, h⟩]
    · rw [if_neg h, if_neg (by omega)]
  have e3 : (catv c s (p + (2 + 1))).toInt = if p.toInt + 3 < s.toInt then byt c p 3 else -1 := by
    rw [catv_toInt, show (p + (2 + 1)).toInt = p.toInt + 3 by ((try simp (disch := ((try simp (disch := ((try simp only [zm1, zm2, Int32.reduceToInt]); omega)) only [zle, zlt, zeq, zadd, zsub, zmul, zcl, znI, zm1, zm2, Int32.reduceToInt]); omega)) only [zle, zlt, zeq, zadd, zsub, zmul, zcl, znI, zm1, zm2, Int32.reduceToInt]) <;> omega)]
    unfold byt
    rw [show (p.toInt + 3).toNat = p.toInt.toNat + 3 by omega]
    by_cases h : p.toInt + 3 < s.toInt
    · rw [if_pos h, if_pos ⟨by omega, h⟩]
    · rw [if_neg h, if_neg (by omega)]
  have l2 := byt_lo c p 2
  have l3 := byt_lo c p 3
  have two : ∀ nn, w = 2 → bX4_widthAt_78 (nn + 1) cap c s p w 2 = some 2 := by
    intro nn hw
    unfold bX4_widthAt_78
    rw [if_pos (by rw [hw]; decide), hw]
  have three : ∀ nn, ¬ w = 2 → bX4_widthAt_78 (nn + 1) cap c s p w 2 = if p.toInt + 2 < s.toInt ∧ 128 ≤ byt c p 2 ∧ byt c p 2 ≤ 191 then bX4_widthAt_78 nn cap c s p w (2 + 1) else some 0 := by
    intro nn h
    rw [bX4_widthAt_78, if_neg (by rcases hw with rfl | rfl | rfl <;> first | exact absurd rfl h | decide), cat h2, Option.bind_some, cbetween, Option.bind_some, e2]
    have a : (128 : Int32).toInt = 128 := by decide
    have b : (191 : Int32).toInt = 191 := by decide
    rw [a, b]
    by_cases g : p.toInt + 2 < s.toInt ∧ 128 ≤ byt c p 2 ∧ byt c p 2 ≤ 191
    · rw [if_pos g.1, if_pos g.2, if_neg (by decide), if_pos g]
    · rw [if_neg g, if_neg (show ¬ (128 ≤ (if p.toInt + 2 < s.toInt then byt c p 2 else -1) ∧ (if p.toInt + 2 < s.toInt then byt c p 2 else -1) ≤ 191) by split <;> omega), if_pos rfl]
  have four : ∀ nn, w = 4 → bX4_widthAt_78 (nn + 1) cap c s p w (2 + 1) = if p.toInt + 3 < s.toInt ∧ 128 ≤ byt c p 3 ∧ byt c p 3 ≤ 191 then bX4_widthAt_78 nn cap c s p w (2 + 1 + 1) else some 0 := by
    intro nn h
    rw [bX4_widthAt_78, if_neg (by rw [h]; decide), cat h2, Option.bind_some, cbetween, Option.bind_some, e3]
    have a : (128 : Int32).toInt = 128 := by decide
    have b : (191 : Int32).toInt = 191 := by decide
    rw [a, b]
    by_cases g : p.toInt + 3 < s.toInt ∧ 128 ≤ byt c p 3 ∧ byt c p 3 ≤ 191
    · rw [if_pos g.1, if_pos g.2, if_neg (by decide), if_pos g]
    · rw [if_neg g, if_neg (show ¬ (128 ≤ (if p.toInt + 3 < s.toInt then byt c p 3 else -1) ∧ (if p.toInt + 3 < s.toInt then byt c p 3 else -1) ≤ 191) by split <;> omega), if_pos rfl]
  rcases hw with rfl | rfl | rfl
  · rw [two _ rfl]
    exact ⟨2, rfl, Or.inr rfl, by simp⟩
  · rw [three _ (by decide)]
    have k : ∀ nn, bX4_widthAt_78 (nn + 1) cap c s p 3 (2 + 1) = some 3 := by intro nn; rw [bX4_widthAt_78, if_pos (by decide)]
    rw [k]
    by_cases g : p.toInt + 2 < s.toInt ∧ 128 ≤ byt c p 2 ∧ byt c p 2 ≤ 191
    · rw [if_pos g]; exact ⟨3, rfl, Or.inr rfl, by simp [g]⟩
    · rw [if_neg g]; exact ⟨0, rfl, Or.inl rfl, by simp [g]⟩
  · rw [three _ (by decide), four _ rfl]
    have k : ∀ nn, bX4_widthAt_78 (nn + 1) cap c s p 4 (2 + 1 + 1) = some 4 := by intro nn; rw [bX4_widthAt_78, if_pos (by decide)]
    rw [k]
    by_cases g : p.toInt + 2 < s.toInt ∧ 128 ≤ byt c p 2 ∧ byt c p 2 ≤ 191
    · rw [if_pos g]
      by_cases g3 : p.toInt + 3 < s.toInt ∧ 128 ≤ byt c p 3 ∧ byt c p 3 ≤ 191
      · rw [if_pos g3]; exact ⟨4, rfl, Or.inr rfl, by simp [g, g3]⟩
      · rw [if_neg g3]; exact ⟨0, rfl, Or.inl rfl, by simp [g, g3]⟩
    · rw [if_neg g]; exact ⟨0, rfl, Or.inl rfl, by simp [g]⟩
set_option maxHeartbeats 4000000 in
theorem cwidth {cap : Nat} {c : Nat → Int32} {s p : Int32} (h0 : 0 ≤ p.toInt) (hp : p.toInt < s.toInt) (h2 : s.toInt ≤ cap) (hc : cap ≤ 6000) {r : Int} (hr1 : 1 ≤ r) (hr : p.toInt + r ≤ s.toInt) : ∃ w : Int32, fX4_widthAt cap c s p = some w ∧ 0 ≤ w.toInt ∧ w.toInt ≤ 4 ∧ (if w.toInt ≤ r then w.toInt else 0) = chw (byt c p 0) (byt c p 1) (byt c p 2) (byt c p 3) r := by
  unfold fX4_widthAt bX4_widthAt_0
  rw [cat h2, Option.bind_some]
  have l0 := byt_lo c p 0
  have l1 := byt_lo c p 1
  have a0 : (catv c s p).toInt = byt c p 0 := by
    rw [catv_toInt, if_pos ⟨h0, hp⟩]; rfl
  have a1 : (catv c s (p + 1)).toInt = if p.toInt + 1 < s.toInt then byt c p 1 else -1 := by
    rw [catv_toInt, show (p + 1).toInt = p.toInt + 1 by ((try simp (disch := ((try simp (disch := ((try simp only [zm1, zm2, Int32.reduceToInt]); omega)) only [zle, zlt, zeq, zadd, zsub, zmul, zcl, znI, zm1, zm2, Int32.reduceToInt]); omega)) only [zle, zlt, zeq, zadd, zsub, zmul, zcl, znI, zm1, zm2, Int32.reduceToInt]) <;> omega)]
    unfold byt
    rw [show (p.toInt + 1).toNat = p.toInt.toNat + 1 by omega]
    by_cases h : p.toInt + 1 < s.toInt
    · rw [if_pos h, if_pos ⟨by omega, h⟩]
    · rw [if_neg h, if_neg (by omega)]
  have z0 : (0 : Int32).toInt = 0 := by decide
  have z1 : (1 : Int32).toInt = 1 := by decide
  have z2 : (2 : Int32).toInt = 2 := by decide
  have z3 : (3 : Int32).toInt = 3 := by decide
  have z4 : (4 : Int32).toInt = 4 := by decide
  have leaf0 : chw (byt c p 0) (byt c p 1) (byt c p 2) (byt c p 3) r = 0 → ∃ w : Int32, some (0 : Int32) = some w ∧ 0 ≤ w.toInt ∧ w.toInt ≤ 4 ∧ (if w.toInt ≤ r then w.toInt else 0) = chw (byt c p 0) (byt c p 1) (byt c p 2) (byt c p 3) r := by
    intro h
    refine ⟨0, rfl, by decide, by decide, ?_⟩
    rw [h, z0]; split <;> rfl
  rw [if_pos (show (0 : Int32) ≤ catv c s p by rw [zle, z0, a0]; omega)]
  by_cases g1 : 128 ≤ byt c p 0
  · rw [if_pos (show (128 : Int32) ≤ catv c s p by rw [zle, a0]; exact g1)]
    by_cases g2 : byt c p 0 < 194
    · rw [if_pos (show catv c s p < 194 by rw [zlt, a0]; exact g2)]
      refine leaf0 ?_
      exact chw0 g1 (Or.inl g2)
    rw [if_neg (show ¬ catv c s p < 194 by rw [zlt, a0]; exact g2)]
    by_cases g3 : 244 < byt c p 0
    · rw [if_pos (show 244 < catv c s p by rw [zlt, a0]; exact g3)]
      refine leaf0 ?_
      exact chw0 g1 (Or.inr g3)
    rw [if_neg (show ¬ 244 < catv c s p by rw [zlt, a0]; exact g3), cat h2, Option.bind_some]
    obtain ⟨q, e1, e2, e3⟩ := csecond (catv c s p) (catv c s (p + 1))
    rw [e1, Option.bind_some]
    rw [a0, a1] at e3
    by_cases g4 : q = 0
    · rw [if_pos g4]
      refine leaf0 ?_
      have g5 := e3.mp g4
      unfold snd at g5
      unfold chw
      revert g5
      split <;> intro g5 <;> (repeat' split) <;> omega
    rw [if_neg g4]
    have g5 : snd (byt c p 0) (if p.toInt + 1 < s.toInt then byt c p 1 else -1) := Classical.byContradiction fun h => g4 (e3.mpr h)
    have g6 : p.toInt + 1 < s.toInt := by
      refine Classical.byContradiction fun h => ?_
      rw [if_neg h] at g5
      have := g5.1
      omega
    rw [if_pos g6] at g5
    unfold snd at g5
    by_cases g7 : 224 ≤ byt c p 0
    · rw [if_pos (show (224 : Int32) ≤ catv c s p by rw [zle, a0]; exact g7)]
      by_cases g8 : 240 ≤ byt c p 0
      · rw [if_pos (show (240 : Int32) ≤ catv c s p by rw [zle, a0]; exact g8)]
        obtain ⟨w, f1, f2, f3⟩ := cw78 h0 h2 hc hp (w := 4) (by decide)
        refine ⟨w, f1, ?_, ?_, ?_⟩
        · rcases f2 with rfl | rfl <;> decide
        · rcases f2 with rfl | rfl <;> decide
        · rw [z4] at f3
          rw [chw4 g8 (by omega)]
          rcases f2 with rfl | rfl
          · have f4 := mt f3.mpr (by decide)
            rw [z0]; (repeat' split) <;> omega
          · have f4 := f3.mp rfl
            rw [z4]; (repeat' split) <;> omega
      · rw [if_neg (show ¬ (240 : Int32) ≤ catv c s p by rw [zle, a0]; exact g8)]
        obtain ⟨w, f1, f2, f3⟩ := cw78 h0 h2 hc hp (w := 3) (by decide)
        refine ⟨w, f1, ?_, ?_, ?_⟩
        · rcases f2 with rfl | rfl <;> decide
        · rcases f2 with rfl | rfl <;> decide
        · rw [z3] at f3
          rw [chw3 g7 (by omega)]
          rcases f2 with rfl | rfl
          · have f4 := mt f3.mpr (by decide)
            rw [z0]; (repeat' split) <;> omega
          · have f4 := f3.mp rfl
            rw [z3]; (repeat' split) <;> omega
    · rw [if_neg (show ¬ (224 : Int32) ≤ catv c s p by rw [zle, a0]; exact g7)]
      obtain ⟨w, f1, f2, f3⟩ := cw78 h0 h2 hc hp (w := 2) (by decide)
      refine ⟨w, f1, ?_, ?_, ?_⟩
      · rcases f2 with rfl | rfl <;> decide
      · rcases f2 with rfl | rfl <;> decide
      · rw [z2] at f3
        have f4 : w = 2 := f3.mpr (by omega)
        subst f4
        rw [chw2 (by omega) (by omega), z2]
        (repeat' split) <;> omega
  · rw [if_neg (show ¬ (128 : Int32) ≤ catv c s p by rw [zle, a0]; exact g1)]
    refine ⟨1, rfl, by decide, by decide, ?_⟩
    rw [z1, if_pos hr1]
    unfold chw; rw [if_pos (by omega)]
