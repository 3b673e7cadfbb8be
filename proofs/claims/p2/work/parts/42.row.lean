/-! rows: the class's row beside the reference's array and size -/
def RR (cap : Nat) (c : Nat → Int32) (s t : Int32) (m : Nat → Int32) (ms : Int32) : Prop :=
  ms = s ∧ t = 0 ∧ 0 ≤ s.toInt ∧ s.toInt ≤ cap ∧ ∀ k : Nat, (k : Int) < s.toInt → m k = c k ∧ b8 (c k) = c k
theorem RR.push {cap : Nat} {c m : Nat → Int32} {s t ms x y : Int32} (hc : cap < 2147483648) (h : RR cap c s t m ms) (hs : s.toInt < cap) (hx : b8 x = b8 y) : RR cap (upd c s.toNatClampNeg (b8 (b8 x))) (s + 1) t (upd m ms.toNatClampNeg (b8 (b8 y))) (ms + 1) := by
  obtain ⟨h1, h2, h3, h4, h5⟩ := h
  subst h1
  have e : (ms + 1).toInt = ms.toInt + 1 := by ((try simp (disch := ((try simp (disch := ((try simp only [zm1, zm2, Int32.reduceToInt]); omega)) only [zle, zlt, zeq, zadd, zsub, zmul, zcl, znI, zm1, zm2, Int32.reduceToInt]); omega)) only [zle, zlt, zeq, zadd, zsub, zmul, zcl, znI, zm1, zm2, Int32.reduceToInt]) <;> omega)
  refine ⟨rfl, h2, by omega, by omega, fun k hk => ?_⟩
  rw [e] at hk
  by_cases hkk : k = ms.toNatClampNeg
  · subst hkk
    rw [upd_same, upd_same, hx, b8_b8, b8_b8]
    exact ⟨rfl, rfl⟩
  · rw [upd_ne hkk, upd_ne hkk]
    rw [zcl] at hkk
    exact h5 k (by omega)
/-- class: push with room -/
theorem cpush {cap : Nat} {c : Nat → Int32} {s t x : Int32} (hc : cap < 2147483648) (h0 : 0 ≤ s.toInt) (hs : s.toInt < cap) : fX2_push cap c s t x = some (upd c s.toNatClampNeg (b8 (b8 x)), s + 1, t) := by
  unfold fX2_push bX2_push_0
  rw [if_neg (by ((try simp (disch := ((try simp (disch := ((try simp only [zm1, zm2, Int32.reduceToInt]); omega)) only [zle, zlt, zeq, zadd, zsub, zmul, zcl, znI, zm1, zm2, Int32.reduceToInt]); omega)) only [zle, zlt, zeq, zadd, zsub, zmul, zcl, znI, zm1, zm2, Int32.reduceToInt]) <;> omega)), if_pos ⟨h0, hs⟩]
  rfl
theorem shb (v : Int64) (k : Nat) (hk : k < 8) : b8 (Int64.toInt32 ((Int64.toUInt64 v >>> ((Int32.toInt64 (8 * nI k)).toUInt64 &&& Int64.toUInt64 63)).toInt64)) = b8 (Int64.toInt32 (v >>> (Int32.toInt64 (8 * nI k) &&& 63))) := by
  apply b8_eq
  rw [Int64.toInt_toInt32, Int64.toInt_toInt32]
  have key : ∀ a b : Int, a % 256 = b % 256 → (a.bmod (2 ^ 32)) % 256 = (b.bmod (2 ^ 32)) % 256 := by
    intro a b h
    simp only [Int.bmod_def]
    split <;> split <;> omega
  apply key
  have hu : ∀ n : UInt64, n.toNat = 8 * k → (Int64.toUInt64 v >>> n).toInt64.toInt % 256 = (v.toBitVec.toNat / 2 ^ (8 * k) : Nat) % 256 := by
    intro n hn
    have h1 : (Int64.toUInt64 v >>> n).toNat = v.toBitVec.toNat / 2 ^ (8 * k) := by
      rw [UInt64.toNat_shiftRight, hn, Nat.mod_eq_of_lt (by omega), Nat.shiftRight_eq_div_pow]; rfl
    have h2 : (Int64.toUInt64 v >>> n).toInt64.toInt = ((Int64.toUInt64 v >>> n).toNat : Int).bmod (2 ^ 64) := by
      show (Int64.toUInt64 v >>> n).toBitVec.toInt = _
      rw [BitVec.toInt_eq_toNat_bmod]; rfl
    rw [h2, h1]
    simp only [Int.bmod_def]
    split <;> omega
  have hi : v.toInt = if 2 * v.toBitVec.toNat < 2 ^ 64 then (v.toBitVec.toNat : Int) else v.toBitVec.toNat - 2 ^ 64 := BitVec.toInt_eq_toNat_cond v.toBitVec
  have hb := v.toBitVec.isLt
  rcases (show k = 0 ∨ k = 1 ∨ k = 2 ∨ k = 3 ∨ k = 4 ∨ k = 5 ∨ k = 6 ∨ k = 7 by omega) with rfl | rfl | rfl | rfl | rfl | rfl | rfl | rfl
  · rw [hu _ (by decide), lshr v _ (k := 0) (by decide), hi]; split <;> omega
  · rw [hu _ (by decide), lshr v _ (k := 8) (by decide), hi]; split <;> omega
  · rw [hu _ (by decide), lshr v _ (k := 16) (by decide), hi]; split <;> omega
  · rw [hu _ (by decide), lshr v _ (k := 24) (by decide), hi]; split <;> omega
  · rw [hu _ (by decide), lshr v _ (k := 32) (by decide), hi]; split <;> omega
  · rw [hu _ (by decide), lshr v _ (k := 40) (by decide), hi]; split <;> omega
  · rw [hu _ (by decide), lshr v _ (k := 48) (by decide), hi]; split <;> omega
  · rw [hu _ (by decide), lshr v _ (k := 56) (by decide), hi]; split <;> omega
/-- type and load: n bytes more on both sides -/
theorem ctype (v : Int64) : ∀ (k fuel : Nat) (c m : Nat → Int32) (s : Int32), k < fuel → k ≤ 8 → s.toInt + k ≤ 1000 → RR 1000 c s 0 m s → ∃ c' s' m', bX2_pushLowest_32 fuel 1000 c s 0 v (nI k - 1) = some (s', c', s', 0) ∧ bX7_type_30 fuel m s v (nI k - 1) = some (s', m', s') ∧ RR 1000 c' s' 0 m' s' := by
  intro k
  induction k with
  | zero =>
    intro fuel c m s hf _ hs h
    obtain ⟨f, rfl⟩ : ∃ f, fuel = f + 1 := ⟨fuel - 1, by omega⟩
    refine ⟨c, s, m, ?_, ?_, h⟩
    · unfold bX2_pushLowest_32; exact if_pos (by decide)
    · unfold bX7_type_30; exact if_pos (by decide)
  | succ k ih =>
    intro fuel c m s hf h8 hs h
    obtain ⟨f, rfl⟩ : ∃ f, fuel = f + 1 := ⟨fuel - 1, by omega⟩
    have h0 := h.2.2.1
    rw [nI_pred]
    have hp := h.push (x := Int64.toInt32 ((Int64.toUInt64 v >>> ((Int32.toInt64 (8 * nI k)).toUInt64 &&& Int64.toUInt64 63)).toInt64)) (y := Int64.toInt32 (v >>> (Int32.toInt64 (8 * nI k) &&& 63))) (by omega) (by omega) (shb v k (by omega))
    have e : (s + 1).toInt = s.toInt + 1 := by ((try simp (disch := ((try simp (disch := ((try simp only [zm1, zm2, Int32.reduceToInt]); omega)) only [zle, zlt, zeq, zadd, zsub, zmul, zcl, znI, zm1, zm2, Int32.reduceToInt]); omega)) only [zle, zlt, zeq, zadd, zsub, zmul, zcl, znI, zm1, zm2, Int32.reduceToInt]) <;> omega)
    obtain ⟨c', s', m', g1, g2, g3⟩ := ih f _ _ (s + 1) (by omega) (by omega) (by omega) hp
    refine ⟨c', s', m', ?_, ?_, g3⟩
    · unfold bX2_pushLowest_32
      rw [if_neg (nI_pos (by omega)), cpush (by omega) h0 (by omega), Option.bind_some, zpm]
      exact g1
    · unfold bX7_type_30
      rw [if_neg (nI_pos (by omega)), if_pos ⟨h0, by omega⟩, zpm]
      exact g2
/-- type and load: n bytes more on both sides -/
theorem cload (v : Int64) : ∀ (k fuel : Nat) (c m : Nat → Int32) (s : Int32), k < fuel → k ≤ 8 → s.toInt + k ≤ 6000 → RR 6000 c s 0 m s → ∃ c' s' m', bX2_pushLowest_32 fuel 6000 c s 0 v (nI k - 1) = some (s', c', s', 0) ∧ bX7_load_30 fuel m s v (nI k - 1) = some (s', m', s') ∧ RR 6000 c' s' 0 m' s' := by
  intro k
  induction k with
  | zero =>
    intro fuel c m s hf _ hs h
    obtain ⟨f, rfl⟩ : ∃ f, fuel = f + 1 := ⟨fuel - 1, by omega⟩
    refine ⟨c, s, m, ?_, ?_, h⟩
    · unfold bX2_pushLowest_32; exact if_pos (by decide)
    · unfold bX7_load_30; exact if_pos (by decide)
  | succ k ih =>
    intro fuel c m s hf h8 hs h
    obtain ⟨f, rfl⟩ : ∃ f, fuel = f + 1 := ⟨fuel - 1, by omega⟩
    have h0 := h.2.2.1
    rw [nI_pred]
    have hp := h.push (x := Int64.toInt32 ((Int64.toUInt64 v >>> ((Int32.toInt64 (8 * nI k)).toUInt64 &&& Int64.toUInt64 63)).toInt64)) (y := Int64.toInt32 (v >>> (Int32.toInt64 (8 * nI k) &&& 63))) (by omega) (by omega) (shb v k (by omega))
    have e : (s + 1).toInt = s.toInt + 1 := by ((try simp (disch := ((try simp (disch := ((try simp only [zm1, zm2, Int32.reduceToInt]); omega)) only [zle, zlt, zeq, zadd, zsub, zmul, zcl, znI, zm1, zm2, Int32.reduceToInt]); omega)) only [zle, zlt, zeq, zadd, zsub, zmul, zcl, znI, zm1, zm2, Int32.reduceToInt]) <;> omega)
    obtain ⟨c', s', m', g1, g2, g3⟩ := ih f _ _ (s + 1) (by omega) (by omega) (by omega) hp
    refine ⟨c', s', m', ?_, ?_, g3⟩
    · unfold bX2_pushLowest_32
      rw [if_neg (nI_pos (by omega)), cpush (by omega) h0 (by omega), Option.bind_some, zpm]
      exact g1
    · unfold bX7_load_30
      rw [if_neg (nI_pos (by omega)), if_pos ⟨h0, by omega⟩, zpm]
      exact g2
