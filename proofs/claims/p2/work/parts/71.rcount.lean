/-! a byte, a count: class and reference -/
section RC
variable {lc lm : Nat → Int32} {ls at_ fa pl : Int32}
theorem ctake_ok {f : Int32} (h0 : 0 ≤ at_.toInt) (h1 : at_.toInt < ls.toInt) (h2 : ls.toInt ≤ 6000) : fX1_take at_ f fa lc ls = some (lc at_.toInt.toNat &&& 255, at_ + 1, f, fa) := by
  unfold fX1_take bX1_take_0
  rw [cat h2, Option.bind_some, catv_in h0 h1, zcl, if_neg]
  rw [zeq, zand255, zm1]; omega
theorem ctake_end (h1 : at_ = ls) (h0 : 0 ≤ ls.toInt) (h2 : ls.toInt ≤ 6000) : fX1_take at_ 0 fa lc ls = some (-1, at_, 2, at_) := by
  unfold fX1_take bX1_take_0 fX1_fail bX1_fail_0
  rw [cat h2, Option.bind_some, catv_out (by rw [h1]; omega), if_pos rfl, if_pos rfl]; rfl
theorem rnext_ok (h0 : 0 ≤ at_.toInt) (h1 : at_.toInt < ls.toInt) (h2 : ls.toInt ≤ 6000) : fX7_next lm ls at_ 0 pl = some (lm at_.toInt.toNat &&& 255, at_ + 1, 0, pl) := by
  have e : at_ + 1 - 1 = at_ := Int32.add_sub_cancel at_ 1
  unfold fX7_next bX7_next_0
  rw [if_pos (by decide), if_neg (by rw [zeq]; omega), e, if_pos ⟨h0, by omega⟩]; rfl
theorem rnext_end (h1 : at_ = ls) : fX7_next lm ls at_ 0 pl = some (-1, at_, 2, at_) := by
  unfold fX7_next bX7_next_0 fX7_fail bX7_fail_0
  rw [if_pos (by decide), if_pos h1, if_pos rfl]; rfl
/-- a byte's number -/
theorem byv (x : Int32) : 0 ≤ (x &&& 255).toInt ∧ (x &&& 255).toInt < 256 := by rw [zand255]; omega
theorem capp {v : Int64} {over b w bits : Int32} (ho : over = 0 ∨ over = 1) : fX1_append over v b w bits = some ((v <<< (Int32.toInt64 w &&& 63)) ||| Int32.toInt64 b, if over = 0 ∧ (Int64.toUInt64 v >>> ((Int32.toInt64 (bits - w)).toUInt64 &&& Int64.toUInt64 63)).toInt64 = 0 then 0 else 1) := by
  unfold fX1_append bX1_append_0 bX1_append_20 bX1_append_25
  by_cases g : over = 0
  · rw [if_pos g]
    by_cases g2 : (Int64.toUInt64 v >>> ((Int32.toInt64 (bits - w)).toUInt64 &&& Int64.toUInt64 63)).toInt64 = 0
    · rw [if_pos ((lg_cmp_eq _ _).mpr g2), if_pos (Or.inl rfl), if_pos ⟨g, g2⟩]
    · rw [if_neg (fun h => g2 ((lg_cmp_eq _ _).mp h)), if_pos (Or.inr rfl), if_neg (fun h => g2 h.2)]
  · rw [if_neg g, if_pos (Or.inr rfl), if_neg (fun h => g h.1)]
theorem lshlor {v : Int64} {b w : Int32} {k : Nat} (hk : ((Int32.toInt64 w &&& 63).toBitVec.smod 64).toNat = k) (hk2 : k ≤ 7) (hv : v.toBitVec.toNat < 2 ^ 50) (hb0 : 0 ≤ b.toInt) (hb1 : b.toInt < 2 ^ k) : ((v <<< (Int32.toInt64 w &&& 63)) ||| Int32.toInt64 b).toBitVec.toNat = v.toBitVec.toNat * 2 ^ k + b.toInt.toNat := by
  have p1 : 2 ^ k ≤ 2 ^ 7 := Nat.pow_le_pow_right (by omega) hk2
  have hb2 : b.toInt.toNat < 2 ^ k := by
    have : (b.toInt.toNat : Int) < ((2 ^ k : Nat) : Int) := by rw [Int.toNat_of_nonneg hb0]; simpa using hb1
    omega
  rw [Int64.toBitVec_or, Int64.toBitVec_shiftLeft, BitVec.toNat_or]
  have e1 : (v.toBitVec <<< ((Int32.toInt64 w &&& 63).toBitVec.smod 64)).toNat = 2 ^ k * v.toBitVec.toNat := by
    show (v.toBitVec <<< ((Int32.toInt64 w &&& 63).toBitVec.smod 64).toNat).toNat = _
    rw [hk, BitVec.toNat_shiftLeft, Nat.shiftLeft_eq, Nat.mod_eq_of_lt, Nat.mul_comm]
    calc v.toBitVec.toNat * 2 ^ k < 2 ^ 50 * 2 ^ 7 := Nat.mul_lt_mul_of_lt_of_le hv p1 (by decide)
      _ ≤ 2 ^ 64 := by decide
  have e2 : (Int32.toInt64 b).toBitVec.toNat = b.toInt.toNat := by
    have h1 := lnat (Int32.toInt64 b)
    rw [Int32.toInt_toInt64] at h1
    have h3 := (Int32.toInt64 b).toBitVec.isLt
    split at h1 <;> omega
  rw [e1, e2, ← Nat.two_pow_add_eq_or_of_lt hb2, Nat.mul_comm]
/-- what a count comes to, on both sides -/
def CNT (bits : Int32) (at_ ls : Int32) (a : Option (Int64 × Int32 × Int32 × Int32 × Int32)) (b : Option (Int64 × Int32 × Int32 × Int32)) : Prop :=
  ∃ c at' f fa' over v at2 f2 pl', a = some (c, at', f, fa', over) ∧ b = some (v, at2, f2, pl') ∧ (over = 0 ∨ over = 1) ∧ ((f ≠ 0 ∧ 0 < f2.toInt) ∨ (f = 0 ∧ at_.toInt < at'.toInt ∧ at'.toInt ≤ ls.toInt ∧ (bits = 32 → c.toBitVec.toNat < 2 ^ 34) ∧ ((over = 1 ∧ 0 < f2.toInt) ∨ (over = 0 ∧ f2 = 0 ∧ at2 = at' ∧ v = c ∧ (bits = 32 → c.toBitVec.toNat < 2 ^ 32)))))
section CStep
variable {most bits first co ro x : Int32} {v : Int64} {f : Nat}
theorem cc_end (hx : ¬ most < x) (he : at_ = ls) (h0 : 0 ≤ ls.toInt) (h2 : ls.toInt ≤ 6000) : bX1_takeCount_5 (f + 1) at_ 0 fa co lc ls most bits v x = some (0, at_, 2, at_, co) := by
  rw [bX1_takeCount_5, if_neg hx, ctake_end he h0 h2, Option.bind_some]
  dsimp only
  rw [if_pos (by decide)]
  unfold bX1_takeCount_47 bX1_takeCount_70
  rw [if_neg (by decide), if_pos (by decide), if_neg (by decide)]
theorem cc_bad (hx : ¬ most < x) (h0 : 0 ≤ at_.toInt) (h1 : at_.toInt < ls.toInt) (h2 : ls.toInt ≤ 6000) (hb : 192 ≤ (lc at_.toInt.toNat &&& 255).toInt ∨ ((lc at_.toInt.toNat &&& 255).toInt < 128 ∧ x = most)) : bX1_takeCount_5 (f + 1) at_ 0 fa co lc ls most bits v x = some (0, at_ + 1, 3, at_ + 1 - 1, co) := by
  have z128 : (128 : Int32).toInt = 128 := by decide
  have z192 : (192 : Int32).toInt = 192 := by decide
  have hv := byv (lc at_.toInt.toNat)
  rw [bX1_takeCount_5, if_neg hx, ctake_ok h0 h1 h2, Option.bind_some]
  dsimp only
  unfold bX1_takeCount_47 bX1_takeCount_66 bX1_takeCount_70 fX1_refuseByte bX1_refuseByte_0 fX1_fail bX1_fail_0
  rcases hb with hb | ⟨hb, hb2⟩
  · rw [if_neg (by rw [zlt, z128]; omega), if_pos (by rw [zle, z192]; omega), if_pos (by rw [zle, z192]; omega), if_pos rfl, Option.bind_some, Option.bind_some]
    dsimp only
    rw [if_neg (by decide)]
  · rw [if_pos (by rw [zlt, z128]; omega), if_neg (by rw [zle, z192]; omega), if_neg (by rw [zlt, z0]; omega), if_pos hb2, if_pos rfl, Option.bind_some, Option.bind_some]
    dsimp only
    rw [if_neg (by decide)]
theorem cc_last (hx : ¬ most < x) (h0 : 0 ≤ at_.toInt) (h1 : at_.toInt < ls.toInt) (h2 : ls.toInt ≤ 6000) (hb : 128 ≤ (lc at_.toInt.toNat &&& 255).toInt) (hb2 : (lc at_.toInt.toNat &&& 255).toInt < 192) (ho : co = 0 ∨ co = 1) : bX1_takeCount_5 (f + 1) at_ 0 fa co lc ls most bits v x = some ((v <<< (Int32.toInt64 6 &&& 63)) ||| Int32.toInt64 (lc at_.toInt.toNat &&& 255 &&& 63), at_ + 1, 0, fa, if co = 0 ∧ (Int64.toUInt64 v >>> ((Int32.toInt64 (bits - 6)).toUInt64 &&& Int64.toUInt64 63)).toInt64 = 0 then 0 else 1) := by
  have z128 : (128 : Int32).toInt = 128 := by decide
  have z192 : (192 : Int32).toInt = 192 := by decide
  rw [bX1_takeCount_5, if_neg hx, ctake_ok h0 h1 h2, Option.bind_some]
  dsimp only
  rw [if_neg (by rw [zlt, z128]; omega), if_neg (by rw [zle, z192]; omega), capp ho]
  rfl
theorem cc_more (hx : ¬ most < x) (h0 : 0 ≤ at_.toInt) (h1 : at_.toInt < ls.toInt) (h2 : ls.toInt ≤ 6000) (hb : (lc at_.toInt.toNat &&& 255).toInt < 128) (hxm : x ≠ most) (ho : co = 0 ∨ co = 1) : bX1_takeCount_5 (f + 1) at_ 0 fa co lc ls most bits v x = bX1_takeCount_5 f (at_ + 1) 0 fa (if co = 0 ∧ (Int64.toUInt64 v >>> ((Int32.toInt64 (bits - 7)).toUInt64 &&& Int64.toUInt64 63)).toInt64 = 0 then 0 else 1) lc ls most bits ((v <<< (Int32.toInt64 7 &&& 63)) ||| Int32.toInt64 (lc at_.toInt.toNat &&& 255)) (x + 1) := by
  have z128 : (128 : Int32).toInt = 128 := by decide
  have z192 : (192 : Int32).toInt = 192 := by decide
  have hv := byv (lc at_.toInt.toNat)
  rw [bX1_takeCount_5, if_neg hx, ctake_ok h0 h1 h2, Option.bind_some]
  dsimp only
  rw [if_pos (by rw [zlt, z128]; omega)]
  unfold bX1_takeCount_47 bX1_takeCount_70
  rw [if_neg (by rw [zle, z192]; omega), if_neg (by rw [zlt, z0]; omega), if_neg hxm, if_pos rfl, capp ho]
  rfl
theorem rc_fault {fl : Int32} (h : fl ≠ 0) : bX7_readCount_8 (f + 1) lm ls at_ fl pl first most bits v ro x = some (0, at_, fl, pl) := by
  rw [bX7_readCount_8, if_neg h]
theorem rc_end (he : at_ = ls) : bX7_readCount_8 (f + 1 + 1) lm ls at_ 0 pl first most bits v ro x = some (0, at_, 2, at_) := by
  rw [bX7_readCount_8, if_pos rfl, rnext_end he, Option.bind_some]
  dsimp only
  rw [if_neg (by decide)]
  unfold bX7_readCount_64 bX7_readCount_112 bX7_readCount_184
  rw [if_neg (by decide), if_neg (by decide)]
  exact rc_fault (fl := 2) (by decide)
theorem rc_bad (h0 : 0 ≤ at_.toInt) (h1 : at_.toInt < ls.toInt) (h2 : ls.toInt ≤ 6000) (hb : 192 ≤ (lm at_.toInt.toNat &&& 255).toInt ∨ ((lm at_.toInt.toNat &&& 255).toInt < 128 ∧ x = most)) : bX7_readCount_8 (f + 1 + 1) lm ls at_ 0 pl first most bits v ro x = some (0, at_ + 1, 3, at_ + 1 - 1) := by
  have z128 : (128 : Int32).toInt = 128 := by decide
  have z192 : (192 : Int32).toInt = 192 := by decide
  rw [bX7_readCount_8, if_pos rfl, rnext_ok h0 h1 h2, Option.bind_some]
  dsimp only
  rw [if_pos rfl]
  unfold bX7_readCount_50 bX7_readCount_184 fX7_fail bX7_fail_0
  rcases hb with hb | ⟨hb, hb2⟩
  · rw [if_pos (by rw [zle, z192]; omega), if_pos rfl, Option.bind_some]
    exact rc_fault (fl := 3) (by decide)
  · rw [if_neg (by rw [zle, z192]; omega), if_neg (by rw [zle, z128]; omega), if_pos hb2, if_pos rfl, Option.bind_some]
    exact rc_fault (fl := 3) (by decide)
theorem rc_more (h0 : 0 ≤ at_.toInt) (h1 : at_.toInt < ls.toInt) (h2 : ls.toInt ≤ 6000) (hb : (lm at_.toInt.toNat &&& 255).toInt < 128) (hxm : x ≠ most) : bX7_readCount_8 (f + 1) lm ls at_ 0 pl first most bits v ro x = bX7_readCount_8 f lm ls (at_ + 1) 0 pl first most bits ((v <<< (Int32.toInt64 7 &&& 63)) ||| Int32.toInt64 (lm at_.toInt.toNat &&& 255)) (if ro = 0 ∧ (Int64.toUInt64 v >>> ((Int32.toInt64 57).toUInt64 &&& Int64.toUInt64 63)).toInt64 = 0 then 0 else 1) (x + 1) := by
  have z128 : (128 : Int32).toInt = 128 := by decide
  have z192 : (192 : Int32).toInt = 192 := by decide
  rw [bX7_readCount_8, if_pos rfl, rnext_ok h0 h1 h2, Option.bind_some]
  dsimp only
  rw [if_pos rfl, if_neg (by rw [zle, z192]; omega), if_neg (by rw [zle, z128]; omega), if_neg hxm]
  unfold bX7_readCount_64 bX7_readCount_93 bX7_readCount_98 bX7_readCount_184
  rw [if_pos rfl, if_neg (by rw [zle, z128]; omega)]
  by_cases g : ro = 0
  · rw [if_pos g]
    by_cases g2 : (Int64.toUInt64 v >>> ((Int32.toInt64 57).toUInt64 &&& Int64.toUInt64 63)).toInt64 = 0
    · rw [if_pos ((lg_cmp_eq _ _).mpr g2), if_pos ⟨g, g2⟩]
    · rw [if_neg (fun h => g2 ((lg_cmp_eq _ _).mp h)), if_neg (fun h => g2 h.2)]
  · rw [if_neg g, if_neg (fun h => g h.1)]
theorem rc_last (h0 : 0 ≤ at_.toInt) (h1 : at_.toInt < ls.toInt) (h2 : ls.toInt ≤ 6000) (hb : 128 ≤ (lm at_.toInt.toNat &&& 255).toInt) (hb2 : (lm at_.toInt.toNat &&& 255).toInt < 192) : ∃ f2 pl', bX7_readCount_8 (f + 1) lm ls at_ 0 pl first most bits v ro x = some ((v <<< (Int32.toInt64 6 &&& 63)) ||| Int32.toInt64 (lm at_.toInt.toNat &&& 255 &&& 63), at_ + 1, f2, pl') ∧ (((ro = 0 ∧ (Int64.toUInt64 v >>> ((Int32.toInt64 58).toUInt64 &&& Int64.toUInt64 63)).toInt64 = 0 ∧ (bits = 32 → (Int64.toUInt64 ((v <<< (Int32.toInt64 6 &&& 63)) ||| Int32.toInt64 (lm at_.toInt.toNat &&& 255 &&& 63)) >>> ((Int32.toInt64 32).toUInt64 &&& Int64.toUInt64 63)).toInt64 = 0)) ∧ f2 = 0) ∨ (¬ (ro = 0 ∧ (Int64.toUInt64 v >>> ((Int32.toInt64 58).toUInt64 &&& Int64.toUInt64 63)).toInt64 = 0 ∧ (bits = 32 → (Int64.toUInt64 ((v <<< (Int32.toInt64 6 &&& 63)) ||| Int32.toInt64 (lm at_.toInt.toNat &&& 255 &&& 63)) >>> ((Int32.toInt64 32).toUInt64 &&& Int64.toUInt64 63)).toInt64 = 0)) ∧ 0 < f2.toInt)) := by
  have z128 : (128 : Int32).toInt = 128 := by decide
  have z192 : (192 : Int32).toInt = 192 := by decide
  rw [bX7_readCount_8, if_pos rfl, rnext_ok h0 h1 h2, Option.bind_some]
  dsimp only
  rw [if_pos rfl, if_neg (by rw [zle, z192]; omega), if_pos (by rw [zle, z128]; omega)]
  unfold bX7_readCount_64 bX7_readCount_112 bX7_readCount_133 bX7_readCount_138 bX7_readCount_172 fX7_fail bX7_fail_0
  have h10 : ¬ ((1 : Int32) = 0) := by decide
  rw [if_pos rfl, if_pos (by rw [zle, z128]; omega), if_pos rfl]
  by_cases g : ro = 0
  · rw [if_pos g]
    by_cases g2 : (Int64.toUInt64 v >>> ((Int32.toInt64 58).toUInt64 &&& Int64.toUInt64 63)).toInt64 = 0
    · rw [if_pos ((lg_cmp_eq _ _).mpr g2), if_pos rfl]
      by_cases g3 : bits = 32
      · rw [if_pos g3]
        by_cases g4 : (Int64.toUInt64 ((v <<< (Int32.toInt64 6 &&& 63)) ||| Int32.toInt64 (lm at_.toInt.toNat &&& 255 &&& 63)) >>> ((Int32.toInt64 32).toUInt64 &&& Int64.toUInt64 63)).toInt64 = 0
        · rw [if_pos ((lg_cmp_eq _ _).mpr g4)]
          exact ⟨_, _, rfl, Or.inl ⟨⟨g, g2, fun _ => g4⟩, rfl⟩⟩
        · rw [if_neg (fun h => g4 ((lg_cmp_eq _ _).mp h)), if_pos rfl]
          exact ⟨6, first, rfl, Or.inr ⟨fun h => g4 (h.2.2 g3), by decide⟩⟩
      · rw [if_neg g3]
        exact ⟨_, _, rfl, Or.inl ⟨⟨g, g2, fun h => absurd h g3⟩, rfl⟩⟩
    · rw [if_neg (fun h => g2 ((lg_cmp_eq _ _).mp h)), if_neg h10, if_pos rfl]
      exact ⟨6, first, rfl, Or.inr ⟨fun h => g2 h.2.1, by decide⟩⟩
  · rw [if_neg g, if_neg h10, if_pos rfl]
    exact ⟨6, first, rfl, Or.inr ⟨fun h => g h.1, by decide⟩⟩
end CStep
theorem cnt_loop (h2 : ls.toInt ≤ 6000) (hbb : ∀ k : Nat, (k : Int) < ls.toInt → lm k = lc k) (most bits first : Int32) (hm : (most = 5 ∧ bits = 32) ∨ (most = 10 ∧ bits = 64)) : ∀ (n fuel fr : Nat) (at_ fa pl : Int32) (v : Int64) (co ro x : Int32), n < fuel → n + 1 < fr → 1 ≤ x.toInt → x.toInt + n = most.toInt → 0 ≤ at_.toInt → at_.toInt ≤ ls.toInt → ((bits = 64 ∧ co = ro ∧ (co = 0 ∨ co = 1)) ∨ (bits = 32 ∧ co = 0 ∧ ro = 0 ∧ v.toBitVec.toNat < 2 ^ (7 * (x.toInt.toNat - 1)))) → CNT bits at_ ls (bX1_takeCount_5 fuel at_ 0 fa co lc ls most bits v x) (bX7_readCount_8 fr lm ls at_ 0 pl first most bits v ro x) := by
  have hm10 : most.toInt ≤ 10 := by rcases hm with ⟨rfl, -⟩ | ⟨rfl, -⟩ <;> decide
  have last : ∀ (f g : Nat) (at_ fa pl : Int32) (v : Int64) (co ro x : Int32), ¬ most < x → 0 ≤ at_.toInt → at_.toInt < ls.toInt → 128 ≤ (lc at_.toInt.toNat &&& 255).toInt → (lc at_.toInt.toNat &&& 255).toInt < 192 → lm at_.toInt.toNat = lc at_.toInt.toNat → ((bits = 64 ∧ co = ro ∧ (co = 0 ∨ co = 1)) ∨ (bits = 32 ∧ co = 0 ∧ ro = 0 ∧ v.toBitVec.toNat < 2 ^ (7 * (x.toInt.toNat - 1)))) → x.toInt ≤ most.toInt → CNT bits at_ ls (bX1_takeCount_5 (f + 1) at_ 0 fa co lc ls most bits v x) (bX7_readCount_8 (g + 1 + 1) lm ls at_ 0 pl first most bits v ro x) := by
    intro f g0 at_ fa pl v co ro x hxm h0 hat hb hb2 hbe hi hxl
    have hco : co = 0 ∨ co = 1 := by rcases hi with ⟨_, _, h⟩ | ⟨_, h, _⟩; exact h; exact Or.inl h
    have ea : (at_ + 1).toInt = at_.toInt + 1 := by rw [zadd (by rw [z1]; omega) (by rw [z1]; omega), z1]
    obtain ⟨f2, pl', r1, r2⟩ := rc_last (lm := lm) (f := g0 + 1) (pl := pl) (first := first) (most := most) (bits := bits) (v := v) (ro := ro) (x := x) h0 hat h2 (by rw [hbe]; exact hb) (by rw [hbe]; exact hb2)
    rw [hbe] at r1 r2
    refine ⟨_, _, _, _, _, _, _, _, _, cc_last hxm h0 hat h2 hb hb2 hco, r1, ?_, Or.inr ⟨rfl, by omega, by omega, ?_, ?_⟩⟩
    · by_cases g : co = 0 ∧ (Int64.toUInt64 v >>> ((Int32.toInt64 (bits - 6)).toUInt64 &&& Int64.toUInt64 63)).toInt64 = 0
      · rw [if_pos g]; exact Or.inl rfl
      · rw [if_neg g]; exact Or.inr rfl
    · intro hb32
      rcases hi with ⟨i1, _, _⟩ | ⟨i1, i2, i3, i4⟩
      · exact absurd (hb32.symm.trans i1) (by decide)
      · have hm5 : most = 5 := by rcases hm with ⟨h, _⟩ | ⟨_, h⟩; exact h; exact absurd (hb32.symm.trans h) (by decide)
        have hx4 : x.toInt.toNat - 1 ≤ 4 := by rw [hm5, z5] at hxl; omega
        have p1 : v.toBitVec.toNat < 268435456 := Nat.lt_of_lt_of_le i4 (Nat.pow_le_pow_right (n := 2) (j := 28) (by omega) (by omega))
        have h63 : (lc at_.toInt.toNat &&& 255 &&& 63).toInt = (lc at_.toInt.toNat &&& 255).toInt % 64 := zand63 _
        rw [lshlor (k := 6) (by decide) (by omega) (by omega) (by omega) (by omega)]
        omega
    · rcases hi with ⟨i1, i2, i3⟩ | ⟨i1, i2, i3, i4⟩
      · subst i1 i2
        rw [show (64 - 6 : Int32) = 58 by decide]
        rcases r2 with ⟨g, g2⟩ | ⟨g, g2⟩
        · exact Or.inr ⟨if_pos ⟨g.1, g.2.1⟩, g2, rfl, rfl, fun h => absurd h (by decide)⟩
        · exact Or.inl ⟨if_neg (fun h => g ⟨h.1, h.2, fun h => absurd h (by decide)⟩), g2⟩
      · subst i1 i2 i3
        have hm5 : most = 5 := by rcases hm with ⟨h, _⟩ | ⟨_, h⟩; exact h; exact absurd h (by decide)
        have hx4 : x.toInt.toNat - 1 ≤ 4 := by rw [hm5, z5] at hxl; omega
        have p1 : v.toBitVec.toNat < 268435456 := Nat.lt_of_lt_of_le i4 (Nat.pow_le_pow_right (n := 2) (j := 28) (by omega) (by omega))
        have h63 : (lc at_.toInt.toNat &&& 255 &&& 63).toInt = (lc at_.toInt.toNat &&& 255).toInt % 64 := zand63 _
        have hn' := lshlor (v := v) (b := lc at_.toInt.toNat &&& 255 &&& 63) (w := 6) (k := 6) (by decide) (by omega) (by omega) (by omega) (by omega)
        have s26 := lushr_nat v ((Int32.toInt64 (32 - 6)).toUInt64 &&& Int64.toUInt64 63) 26 (by decide) (by omega)
        have s58 := lushr_nat v ((Int32.toInt64 58).toUInt64 &&& Int64.toUInt64 63) 58 (by decide) (by omega)
        have s32 := lushr_nat ((v <<< (Int32.toInt64 6 &&& 63)) ||| Int32.toInt64 (lc at_.toInt.toNat &&& 255 &&& 63)) ((Int32.toInt64 32).toUInt64 &&& Int64.toUInt64 63) 32 (by decide) (by omega)
        rw [lzero, lzero, s58, s32, hn'] at r2
        rcases r2 with ⟨g, g2⟩ | ⟨g, g2⟩
        · have g3 := g.2.2 rfl
          have w26 := lzero.mpr (s26.trans (by omega))
          have w32 : ((v <<< (Int32.toInt64 6 &&& 63)) ||| Int32.toInt64 (lc at_.toInt.toNat &&& 255 &&& 63)).toBitVec.toNat < 2 ^ 32 := by rw [hn']; omega
          exact Or.inr ⟨if_pos ⟨rfl, w26⟩, g2, rfl, rfl, fun _ => w32⟩
        · have g3 : ¬ ((Int64.toUInt64 v >>> ((Int32.toInt64 (32 - 6)).toUInt64 &&& Int64.toUInt64 63)).toInt64 = 0) := by
            intro h
            have h2 := lzero.mp h
            rw [s26] at h2
            exact g ⟨rfl, by omega, fun _ => by omega⟩
          exact Or.inl ⟨if_neg (fun h => g3 h.2), g2⟩
  intro n
  induction n with
  | zero =>
    intro fuel fr at_ fa pl v co ro x hf hfr hx hn h0 h1 hi
    obtain ⟨f, rfl⟩ : ∃ f, fuel = f + 1 := ⟨fuel - 1, by omega⟩
    obtain ⟨g, rfl⟩ : ∃ g, fr = g + 1 + 1 := ⟨fr - 2, by omega⟩
    have ex : x = most := zeq.mpr (by omega)
    have hxm : ¬ most < x := by rw [zlt]; omega
    have hco : co = 0 ∨ co = 1 := by rcases hi with ⟨_, _, h⟩ | ⟨_, h, _⟩; exact h; exact Or.inl h
    by_cases he : at_ = ls
    · exact ⟨_, _, _, _, _, _, _, _, _, cc_end hxm he (by omega) h2, rc_end he, hco, Or.inl ⟨by decide, by decide⟩⟩
    have hat : at_.toInt < ls.toInt := by
      have : at_.toInt ≠ ls.toInt := fun h => he (zeq.mpr h)
      omega
    have hbe := hbb at_.toInt.toNat (by omega)
    have hv := byv (lc at_.toInt.toNat)
    by_cases hb : 128 ≤ (lc at_.toInt.toNat &&& 255).toInt ∧ (lc at_.toInt.toNat &&& 255).toInt < 192
    · exact last f g at_ fa pl v co ro x hxm h0 hat hb.1 hb.2 (by rw [hbe]) hi (by omega)
    · have hb' : 192 ≤ (lc at_.toInt.toNat &&& 255).toInt ∨ ((lc at_.toInt.toNat &&& 255).toInt < 128 ∧ x = most) := by
        by_cases g' : 192 ≤ (lc at_.toInt.toNat &&& 255).toInt
        · exact Or.inl g'
        · exact Or.inr ⟨by omega, ex⟩
      exact ⟨_, _, _, _, _, _, _, _, _, cc_bad hxm h0 hat h2 hb', rc_bad h0 hat h2 (by rw [hbe]; exact hb'), hco, Or.inl ⟨by decide, by decide⟩⟩
  | succ n ih =>
    intro fuel fr at_ fa pl v co ro x hf hfr hx hn h0 h1 hi
    obtain ⟨f, rfl⟩ : ∃ f, fuel = f + 1 := ⟨fuel - 1, by omega⟩
    obtain ⟨g, rfl⟩ : ∃ g, fr = g + 1 + 1 := ⟨fr - 2, by omega⟩
    have ex : x ≠ most := fun h => by rw [h] at hn; omega
    have hxm : ¬ most < x := by rw [zlt]; omega
    have hco : co = 0 ∨ co = 1 := by rcases hi with ⟨_, _, h⟩ | ⟨_, h, _⟩; exact h; exact Or.inl h
    by_cases he : at_ = ls
    · exact ⟨_, _, _, _, _, _, _, _, _, cc_end hxm he (by omega) h2, rc_end he, hco, Or.inl ⟨by decide, by decide⟩⟩
    have hat : at_.toInt < ls.toInt := by
      have : at_.toInt ≠ ls.toInt := fun h => he (zeq.mpr h)
      omega
    have hbe := hbb at_.toInt.toNat (by omega)
    have hv := byv (lc at_.toInt.toNat)
    by_cases hb : 128 ≤ (lc at_.toInt.toNat &&& 255).toInt
    · by_cases hb2 : (lc at_.toInt.toNat &&& 255).toInt < 192
      · exact last f g at_ fa pl v co ro x hxm h0 hat hb hb2 (by rw [hbe]) hi (by omega)
      · exact ⟨_, _, _, _, _, _, _, _, _, cc_bad hxm h0 hat h2 (Or.inl (by omega)), rc_bad h0 hat h2 (by rw [hbe]; exact Or.inl (by omega)), hco, Or.inl ⟨by decide, by decide⟩⟩
    · have ea : (at_ + 1).toInt = at_.toInt + 1 := by rw [zadd (by rw [z1]; omega) (by rw [z1]; omega), z1]
      have exx : (x + 1).toInt = x.toInt + 1 := by rw [zadd (by rw [z1]; omega) (by rw [z1]; omega), z1]
      rw [cc_more hxm h0 hat h2 (by omega) ex hco, rc_more h0 hat h2 (by rw [hbe]; omega) ex, hbe]
      have hnext : ((bits = 64 ∧ (if co = 0 ∧ (Int64.toUInt64 v >>> ((Int32.toInt64 (bits - 7)).toUInt64 &&& Int64.toUInt64 63)).toInt64 = 0 then (0 : Int32) else 1) = (if ro = 0 ∧ (Int64.toUInt64 v >>> ((Int32.toInt64 57).toUInt64 &&& Int64.toUInt64 63)).toInt64 = 0 then (0 : Int32) else 1) ∧ ((if co = 0 ∧ (Int64.toUInt64 v >>> ((Int32.toInt64 (bits - 7)).toUInt64 &&& Int64.toUInt64 63)).toInt64 = 0 then (0 : Int32) else 1) = 0 ∨ (if co = 0 ∧ (Int64.toUInt64 v >>> ((Int32.toInt64 (bits - 7)).toUInt64 &&& Int64.toUInt64 63)).toInt64 = 0 then (0 : Int32) else 1) = 1)) ∨ (bits = 32 ∧ (if co = 0 ∧ (Int64.toUInt64 v >>> ((Int32.toInt64 (bits - 7)).toUInt64 &&& Int64.toUInt64 63)).toInt64 = 0 then (0 : Int32) else 1) = 0 ∧ (if ro = 0 ∧ (Int64.toUInt64 v >>> ((Int32.toInt64 57).toUInt64 &&& Int64.toUInt64 63)).toInt64 = 0 then (0 : Int32) else 1) = 0 ∧ ((v <<< (Int32.toInt64 7 &&& 63)) ||| Int32.toInt64 (lc at_.toInt.toNat &&& 255)).toBitVec.toNat < 2 ^ (7 * ((x + 1).toInt.toNat - 1)))) := by
        rcases hi with ⟨i1, i2, i3⟩ | ⟨i1, i2, i3, i4⟩
        · subst i1 i2
          refine Or.inl ⟨rfl, by rw [show (64 - 7 : Int32) = 57 by decide], ?_⟩
          by_cases g : co = 0 ∧ (Int64.toUInt64 v >>> ((Int32.toInt64 (64 - 7)).toUInt64 &&& Int64.toUInt64 63)).toInt64 = 0
          · rw [if_pos g]; exact Or.inl rfl
          · rw [if_neg g]; exact Or.inr rfl
        · subst i1 i2 i3
          have hm5 : most = 5 := by rcases hm with ⟨h, _⟩ | ⟨_, h⟩; exact h; exact absurd h (by decide)
          have hx4 : x.toInt.toNat - 1 ≤ 3 := by rw [hm5, z5] at hn; omega
          have p1 : v.toBitVec.toNat < 2097152 := Nat.lt_of_lt_of_le i4 (Nat.pow_le_pow_right (n := 2) (j := 21) (by omega) (by omega))
          have s25 := lushr_nat v ((Int32.toInt64 (32 - 7)).toUInt64 &&& Int64.toUInt64 63) 25 (by decide) (by omega)
          have s57 := lushr_nat v ((Int32.toInt64 57).toUInt64 &&& Int64.toUInt64 63) 57 (by decide) (by omega)
          have w25 := lzero.mpr (s25.trans (by omega))
          have w57 := lzero.mpr (s57.trans (by omega))
          refine Or.inr ⟨rfl, if_pos ⟨rfl, w25⟩, if_pos ⟨rfl, w57⟩, ?_⟩
          · rw [lshlor (k := 7) (by decide) (by omega) (by omega) (by omega) (by omega), exx, show (x.toInt + 1).toNat - 1 = (x.toInt.toNat - 1) + 1 by omega, Nat.mul_add, Nat.pow_add]
            omega
      obtain ⟨c, at', f', fa', over, v', at2, f2, pl', q1, q2, q3, q4⟩ := ih f (g + 1) (at_ + 1) fa pl _ _ _ (x + 1) (by omega) (by omega) (by omega) (by omega) (by omega) (by omega) hnext
      refine ⟨c, at', f', fa', over, v', at2, f2, pl', q1, q2, q3, ?_⟩
      rcases q4 with h | ⟨h, h', h''⟩
      · exact Or.inl h
      · exact Or.inr ⟨h, by omega, h''⟩
theorem sim_count32 (h2 : ls.toInt ≤ 6000) (hbb : ∀ k : Nat, (k : Int) < ls.toInt → lm k = lc k) (first : Int32) (h0 : 0 ≤ at_.toInt) (h1 : at_.toInt ≤ ls.toInt) : CNT 32 at_ ls (fX1_takeCount at_ 0 fa 0 lc ls 5 32) (fX7_readCount lm ls at_ 0 pl first 5 32) :=
  cnt_loop h2 hbb 5 32 first (Or.inl ⟨rfl, rfl⟩) 4 FU FU at_ fa pl 0 0 0 1 (by unfold FU; omega) (by unfold FU; omega) (by decide) (by decide) h0 h1 (Or.inr ⟨rfl, rfl, rfl, by decide⟩)
theorem sim_count64 (h2 : ls.toInt ≤ 6000) (hbb : ∀ k : Nat, (k : Int) < ls.toInt → lm k = lc k) (first : Int32) (h0 : 0 ≤ at_.toInt) (h1 : at_.toInt ≤ ls.toInt) : CNT 64 at_ ls (fX1_takeCount at_ 0 fa 0 lc ls 10 64) (fX7_readCount lm ls at_ 0 pl first 10 64) :=
  cnt_loop h2 hbb 10 64 first (Or.inr ⟨rfl, rfl⟩) 9 FU FU at_ fa pl 0 0 0 1 (by unfold FU; omega) (by unfold FU; omega) (by decide) (by decide) h0 h1 (Or.inl ⟨rfl, rfl, Or.inl rfl⟩)
end RC
