/-! a row's bytes; which bytes are texts -/
def catv (c : Nat → Int32) (s p : Int32) : Int32 := if p < 0 then -1 else if s ≤ p then -1 else c p.toNatClampNeg &&& 255
theorem cat {cap : Nat} {c : Nat → Int32} {s p : Int32} (hs : s.toInt ≤ cap) : fX2_at cap c s p = some (catv c s p) := by
  unfold fX2_at bX2_at_0 catv
  by_cases h0 : p < 0
  · rw [if_pos h0, if_pos h0]
  by_cases h1 : s ≤ p
  · rw [if_neg h0, if_neg h0, if_pos h1, if_pos h1]
  · rw [if_neg h0, if_neg h0, if_neg h1, if_neg h1, if_pos]
    revert h0 h1; ((try simp (disch := ((try simp (disch := ((try simp only [zm1, zm2, Int32.reduceToInt]); omega)) only [zle, zlt, zeq, zadd, zsub, zmul, zcl, znI, zm1, zm2, Int32.reduceToInt]); omega)) only [zle, zlt, zeq, zadd, zsub, zmul, zcl, znI, zm1, zm2, Int32.reduceToInt]) <;> omega)
theorem catv_in {c : Nat → Int32} {s p : Int32} (h0 : 0 ≤ p.toInt) (h1 : p.toInt < s.toInt) : catv c s p = c p.toNatClampNeg &&& 255 := by
  unfold catv
  rw [if_neg (by ((try simp (disch := ((try simp (disch := ((try simp only [zm1, zm2, Int32.reduceToInt]); omega)) only [zle, zlt, zeq, zadd, zsub, zmul, zcl, znI, zm1, zm2, Int32.reduceToInt]); omega)) only [zle, zlt, zeq, zadd, zsub, zmul, zcl, znI, zm1, zm2, Int32.reduceToInt]) <;> omega)), if_neg (by ((try simp (disch := ((try simp (disch := ((try simp only [zm1, zm2, Int32.reduceToInt]); omega)) only [zle, zlt, zeq, zadd, zsub, zmul, zcl, znI, zm1, zm2, Int32.reduceToInt]); omega)) only [zle, zlt, zeq, zadd, zsub, zmul, zcl, znI, zm1, zm2, Int32.reduceToInt]) <;> omega))]
theorem catv_out {c : Nat → Int32} {s p : Int32} (h1 : s.toInt ≤ p.toInt) : catv c s p = -1 := by
  unfold catv
  by_cases h0 : p < 0
  · rw [if_pos h0]
  · rw [if_neg h0, if_pos (by ((try simp (disch := ((try simp (disch := ((try simp only [zm1, zm2, Int32.reduceToInt]); omega)) only [zle, zlt, zeq, zadd, zsub, zmul, zcl, znI, zm1, zm2, Int32.reduceToInt]); omega)) only [zle, zlt, zeq, zadd, zsub, zmul, zcl, znI, zm1, zm2, Int32.reduceToInt]) <;> omega))]
theorem catv_toInt {c : Nat → Int32} {s p : Int32} : (catv c s p).toInt = if 0 ≤ p.toInt ∧ p.toInt < s.toInt then (c p.toInt.toNat).toInt % 256 else -1 := by
  by_cases h0 : 0 ≤ p.toInt
  · by_cases h1 : p.toInt < s.toInt
    · rw [catv_in h0 h1, zand255, if_pos ⟨h0, h1⟩]; rfl
    · rw [catv_out (by omega), zm1, if_neg (by omega)]
  · unfold catv
    rw [if_pos (by ((try simp (disch := ((try simp (disch := ((try simp only [zm1, zm2, Int32.reduceToInt]); omega)) only [zle, zlt, zeq, zadd, zsub, zmul, zcl, znI, zm1, zm2, Int32.reduceToInt]); omega)) only [zle, zlt, zeq, zadd, zsub, zmul, zcl, znI, zm1, zm2, Int32.reduceToInt]) <;> omega)), zm1, if_neg (by omega)]
/-- how many bytes a character has, of which r may be taken; 0: none is there -/
def chw (b0 b1 b2 b3 r : Int) : Int :=
  if b0 < 128 then 1 else if b0 < 194 then 0 else if b0 < 224 then (if 2 ≤ r ∧ 128 ≤ b1 ∧ b1 ≤ 191 then 2 else 0)
  else if b0 < 240 then (if 3 ≤ r ∧ 128 ≤ b1 ∧ b1 ≤ 191 ∧ (b0 ≠ 224 ∨ 160 ≤ b1) ∧ (b0 ≠ 237 ∨ b1 ≤ 159) ∧ 128 ≤ b2 ∧ b2 ≤ 191 then 3 else 0)
  else if b0 ≤ 244 then (if 4 ≤ r ∧ 128 ≤ b1 ∧ b1 ≤ 191 ∧ (b0 ≠ 240 ∨ 144 ≤ b1) ∧ (b0 ≠ 244 ∨ b1 ≤ 143) ∧ 128 ≤ b2 ∧ b2 ≤ 191 ∧ 128 ≤ b3 ∧ b3 ≤ 191 then 4 else 0) else 0
theorem chw2 {b0 b1 b2 b3 r : Int} (h : 194 ≤ b0) (h2 : b0 < 224) : chw b0 b1 b2 b3 r = if 2 ≤ r ∧ 128 ≤ b1 ∧ b1 ≤ 191 then 2 else 0 := by
  unfold chw; rw [if_neg (by omega), if_neg (by omega), if_pos h2]
theorem chw3 {b0 b1 b2 b3 r : Int} (h : 224 ≤ b0) (h2 : b0 < 240) : chw b0 b1 b2 b3 r = if 3 ≤ r ∧ 128 ≤ b1 ∧ b1 ≤ 191 ∧ (b0 ≠ 224 ∨ 160 ≤ b1) ∧ (b0 ≠ 237 ∨ b1 ≤ 159) ∧ 128 ≤ b2 ∧ b2 ≤ 191 then 3 else 0 := by
  unfold chw; rw [if_neg (by omega), if_neg (by omega), if_neg (by omega), if_pos h2]
theorem chw4 {b0 b1 b2 b3 r : Int} (h : 240 ≤ b0) (h2 : b0 ≤ 244) : chw b0 b1 b2 b3 r = if 4 ≤ r ∧ 128 ≤ b1 ∧ b1 ≤ 191 ∧ (b0 ≠ 240 ∨ 144 ≤ b1) ∧ (b0 ≠ 244 ∨ b1 ≤ 143) ∧ 128 ≤ b2 ∧ b2 ≤ 191 ∧ 128 ≤ b3 ∧ b3 ≤ 191 then 4 else 0 := by
  unfold chw; rw [if_neg (by omega), if_neg (by omega), if_neg (by omega), if_neg (by omega), if_pos h2]
theorem chw0 {b0 b1 b2 b3 r : Int} (h : 128 ≤ b0) (h2 : b0 < 194 ∨ 244 < b0) : chw b0 b1 b2 b3 r = 0 := by
  unfold chw; (repeat' split) <;> omega
theorem cbetween (x a b : Int32) : fX4_isBetween x a b = some (if a.toInt ≤ x.toInt ∧ x.toInt ≤ b.toInt then 1 else 0) := by
  unfold fX4_isBetween bX4_isBetween_0
  by_cases h0 : x < a
  · rw [if_pos h0, if_neg (by revert h0; ((try simp (disch := ((try simp (disch := ((try simp only [zm1, zm2, Int32.reduceToInt]); omega)) only [zle, zlt, zeq, zadd, zsub, zmul, zcl, znI, zm1, zm2, Int32.reduceToInt]); omega)) only [zle, zlt, zeq, zadd, zsub, zmul, zcl, znI, zm1, zm2, Int32.reduceToInt]) <;> omega))]
  by_cases h1 : b < x
  · rw [if_neg h0, if_pos h1, if_neg (by revert h0 h1; ((try simp (disch := ((try simp (disch := ((try simp only [zm1, zm2, Int32.reduceToInt]); omega)) only [zle, zlt, zeq, zadd, zsub, zmul, zcl, znI, zm1, zm2, Int32.reduceToInt]); omega)) only [zle, zlt, zeq, zadd, zsub, zmul, zcl, znI, zm1, zm2, Int32.reduceToInt]) <;> omega))]
  · rw [if_neg h0, if_neg h1, if_pos (by revert h0 h1; ((try simp (disch := ((try simp (disch := ((try simp only [zm1, zm2, Int32.reduceToInt]); omega)) only [zle, zlt, zeq, zadd, zsub, zmul, zcl, znI, zm1, zm2, Int32.reduceToInt]); omega)) only [zle, zlt, zeq, zadd, zsub, zmul, zcl, znI, zm1, zm2, Int32.reduceToInt]) <;> omega))]
/-- the class's second byte -/
def snd (a b : Int) : Prop := 128 ≤ b ∧ b ≤ 191 ∧ (a ≠ 224 ∨ 160 ≤ b) ∧ (a ≠ 237 ∨ b ≤ 159) ∧ (a ≠ 240 ∨ 144 ≤ b) ∧ (a ≠ 244 ∨ b ≤ 143)
theorem csecond (x y : Int32) : ∃ r, fX4_isSecond x y = some r ∧ (r = 0 ∨ r = 1) ∧ (r = 0 ↔ ¬ snd x.toInt y.toInt) := by
  unfold fX4_isSecond bX4_isSecond_0 snd
  simp only [cbetween, Option.bind_some]
  have e : ∀ (p q : Prop) [Decidable p], (p ↔ q) → ∃ r : Int32, (if (if p then (1 : Int32) else 0) = 0 ∨ (if p then (1 : Int32) else 0) = 1 then some (if p then (1 : Int32) else 0) else none) = some r ∧ (r = 0 ∨ r = 1) ∧ (r = 0 ↔ ¬ q) := by
    intro p q _ h
    by_cases hp : p
    · simp [hp, ← h]
    · simp [hp, ← h]
  by_cases h1 : x = 224
  · rw [if_pos h1]; refine e _ _ ?_; subst h1; ((try simp (disch := ((try simp (disch := ((try simp only [zm1, zm2, Int32.reduceToInt]); omega)) only [zle, zlt, zeq, zadd, zsub, zmul, zcl, znI, zm1, zm2, Int32.reduceToInt]); omega)) only [zle, zlt, zeq, zadd, zsub, zmul, zcl, znI, zm1, zm2, Int32.reduceToInt]) <;> omega)
  rw [if_neg h1]
  by_cases h2 : x = 237
  · rw [if_pos h2]; refine e _ _ ?_; subst h2; ((try simp (disch := ((try simp (disch := ((try simp only [zm1, zm2, Int32.reduceToInt]); omega)) only [zle, zlt, zeq, zadd, zsub, zmul, zcl, znI, zm1, zm2, Int32.reduceToInt]); omega)) only [zle, zlt, zeq, zadd, zsub, zmul, zcl, znI, zm1, zm2, Int32.reduceToInt]) <;> omega)
  rw [if_neg h2]
  by_cases h3 : x = 240
  · rw [if_pos h3]; refine e _ _ ?_; subst h3; ((try simp (disch := ((try simp (disch := ((try simp only [zm1, zm2, Int32.reduceToInt]); omega)) only [zle, zlt, zeq, zadd, zsub, zmul, zcl, znI, zm1, zm2, Int32.reduceToInt]); omega)) only [zle, zlt, zeq, zadd, zsub, zmul, zcl, znI, zm1, zm2, Int32.reduceToInt]) <;> omega)
  rw [if_neg h3]
  by_cases h4 : x = 244
  · rw [if_pos h4]; refine e _ _ ?_; subst h4; ((try simp (disch := ((try simp (disch := ((try simp only [zm1, zm2, Int32.reduceToInt]); omega)) only [zle, zlt, zeq, zadd, zsub, zmul, zcl, znI, zm1, zm2, Int32.reduceToInt]); omega)) only [zle, zlt, zeq, zadd, zsub, zmul, zcl, znI, zm1, zm2, Int32.reduceToInt]) <;> omega)
  rw [if_neg h4]
  refine e _ _ ?_
  revert h1 h2 h3 h4; ((try simp (disch := ((try simp (disch := ((try simp only [zm1, zm2, Int32.reduceToInt]); omega)) only [zle, zlt, zeq, zadd, zsub, zmul, zcl, znI, zm1, zm2, Int32.reduceToInt]); omega)) only [zle, zlt, zeq, zadd, zsub, zmul, zcl, znI, zm1, zm2, Int32.reduceToInt]) <;> omega)
