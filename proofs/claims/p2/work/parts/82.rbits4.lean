/-! bytes told seven bits at a time: read -/
section RB4
variable {kinds starts lengths depths b_cells openKinds : Nat → Int32} {numbers : Nat → Int64} {b_size b_tooLong size depth named : Int32} {mk ms ml mw mp mi mb mo mm md : Nat → Int32} {mn : Nat → Int64} {ni nc nh ti tc th tb tz lc lm : Nat → Int32} {nz tz0 ls fa pl first kd st le to ov fl at_ : Int32} {nu : Int64} {at0 gt : Int32} {mp1 : Nat → Int32}
theorem sb79_fault {c : Int64} {x3 over : Int32} (hf : fl ≠ 0) : bX1_scanBits_79 at_ fl fa 4 5 st le over lc ls c x3 = some (at_, fl, fa, 4, 5, st, le, over) := by
  unfold bX1_scanBits_79
  rw [if_neg hf]
theorem sb50_fault {f : Nat} {c S k : Int64} {x3 over : Int32} (hf : fl ≠ 0) : bX1_scanBits_50 (f + 1) at_ fl fa 4 5 st le over lc ls c x3 S k = some (at_, fl, fa, 4, 5, st, le, over) := by
  rw [bX1_scanBits_50]
  by_cases g : 0 ≤ lg_cmp k S
  · rw [if_pos g, sb79_fault hf]
  · rw [if_neg g, if_neg hf, sb79_fault hf]
theorem sb_loop (h2 : ls.toInt ≤ 6000) (c S : Int64) (over : Int32) (hS : S.toInt < 2 ^ 40) : ∀ (m fuel : Nat) (x fa last : Int32) (k : Int64), m + 1 < fuel → 0 ≤ k.toInt → k.toInt + m = S.toInt → 0 ≤ x.toInt → x.toInt ≤ ls.toInt → ((x.toInt + m ≤ ls.toInt ∧ ∀ j : Nat, j < m → (lc (x.toInt.toNat + j) &&& 255).toInt < 128) → ∃ E : Int32, E.toInt = x.toInt + m ∧ bX1_scanBits_50 fuel x 0 fa 4 5 st le over lc ls c last S k = bX1_scanBits_79 E 0 fa 4 5 st le over lc ls c (if m = 0 then last else lc (x.toInt.toNat + (m - 1)) &&& 255)) ∧ (¬ (x.toInt + m ≤ ls.toInt ∧ ∀ j : Nat, j < m → (lc (x.toInt.toNat + j) &&& 255).toInt < 128) → ∃ at' f fa', bX1_scanBits_50 fuel x 0 fa 4 5 st le over lc ls c last S k = some (at', f, fa', 4, 5, st, le, over) ∧ f ≠ 0) := by
  intro m
  induction m with
  | zero =>
    intro fuel x fa last k hf hk hkS hx hxl
    obtain ⟨f, rfl⟩ : ∃ f, fuel = f + 1 := ⟨fuel - 1, by omega⟩
    refine ⟨fun _ => ⟨x, by omega, ?_⟩, fun h => absurd ⟨by omega, fun j hj => by omega⟩ h⟩
    rw [bX1_scanBits_50, if_pos (by rw [lg_cmp_ge, Int64.le_iff_toInt_le]; omega), if_pos rfl]
  | succ m ih =>
    intro fuel x fa last k hf hk hkS hx hxl
    obtain ⟨f, rfl⟩ : ∃ f, fuel = f + 1 + 1 := ⟨fuel - 2, by omega⟩
    have e1 : (1 : Int64).toInt = 1 := by decide
    have ek : (k + 1).toInt = k.toInt + 1 := by rw [Int64.toInt_add, e1, Int.bmod_def]; split <;> omega
    have hge : ¬ 0 ≤ lg_cmp k S := by rw [lg_cmp_ge, Int64.le_iff_toInt_le]; omega
    rw [bX1_scanBits_50, if_neg hge, if_pos rfl]
    by_cases he : x = ls
    · rw [cseven_end he (by omega) h2, Option.bind_some]
      dsimp only
      rw [sb50_fault (by decide)]
      exact ⟨fun h => by have := h.1; rw [he] at this; omega, fun _ => ⟨_, _, _, rfl, by decide⟩⟩
    have hxl' : x.toInt < ls.toInt := by
      have : x.toInt ≠ ls.toInt := fun h => he (zeq.mpr h)
      omega
    have ex1 : (x + 1).toInt = x.toInt + 1 := by rw [zadd (by rw [z1]; omega) (by rw [z1]; omega), z1]
    by_cases hb : (lc x.toInt.toNat &&& 255).toInt < 128
    · rw [cseven_ok hx hxl' h2 hb, Option.bind_some]
      dsimp only
      obtain ⟨i1, i2⟩ := ih (f + 1) (x + 1) fa (lc x.toInt.toNat &&& 255) (k + 1) (by omega) (by omega) (by omega) (by omega) (by omega)
      have hiff : (x.toInt + (m + 1 : Nat) ≤ ls.toInt ∧ ∀ j : Nat, j < m + 1 → (lc (x.toInt.toNat + j) &&& 255).toInt < 128) ↔ ((x + 1).toInt + m ≤ ls.toInt ∧ ∀ j : Nat, j < m → (lc ((x + 1).toInt.toNat + j) &&& 255).toInt < 128) := by
        rw [ex1]
        constructor
        · intro h
          refine ⟨by have := h.1; omega, fun j hj => ?_⟩
          have := h.2 (j + 1) (by omega)
          rw [show (x.toInt + 1).toNat + j = x.toInt.toNat + (j + 1) by omega]; exact this
        · intro h
          refine ⟨by have := h.1; omega, fun j hj => ?_⟩
          by_cases gj : j = 0
          · subst gj; rw [Nat.add_zero]; exact hb
          · have := h.2 (j - 1) (by omega)
            rw [show (x.toInt + 1).toNat + (j - 1) = x.toInt.toNat + j by omega] at this; exact this
      rw [hiff]
      refine ⟨fun h => ?_, i2⟩
      obtain ⟨E, E1, E2⟩ := i1 h
      refine ⟨E, by omega, ?_⟩
      rw [E2, if_neg (show ¬ (m + 1 = 0) by omega)]
      by_cases gm : m = 0
      · subst gm; rw [if_pos rfl]; rfl
      · rw [if_neg gm, ex1, show (x.toInt + 1).toNat + (m - 1) = x.toInt.toNat + (m + 1 - 1) by omega]
    · rw [cseven_bad hx hxl' h2 hb, Option.bind_some]
      dsimp only
      rw [sb50_fault (by decide)]
      refine ⟨fun h => absurd (h.2 0 (by omega)) (by rw [Nat.add_zero]; exact hb), fun _ => ⟨_, _, _, rfl, by decide⟩⟩
theorem bil {c : Nat} (hc : c ≤ 10000) (hc0 : 0 < c) : fX1_bitsInLast (nI c) = some (nI (8 * c - 7 * ((8 * c + 6) / 7 - 1))) := by
  have e1 : (1 : Int64).toInt = 1 := by decide
  have e6 : (6 : Int64).toInt = 6 := by decide
  have e7 : (7 : Int64).toInt = 7 := by decide
  have e8 : (8 : Int64).toInt = 8 := by decide
  have z8 : (8 : Int32).toInt = 8 := by decide
  have b64 : ∀ n : Int, -4611686018427387904 ≤ n → n < 4611686018427387904 → n.bmod (2 ^ 64) = n := by
    intro n h1 h2
    rw [Int.bmod_def]; split <;> omega
  have ec : (Int32.toInt64 (nI c)).toInt = c := by rw [Int32.toInt_toInt64, znI (by omega)]
  have e8c : (8 * Int32.toInt64 (nI c)).toInt = 8 * c := by rw [Int64.toInt_mul, e8, ec, b64 _ (by omega) (by omega)]
  have e86 : (8 * Int32.toInt64 (nI c) + 6).toInt = 8 * c + 6 := by rw [Int64.toInt_add, e8c, e6, b64 _ (by omega) (by omega)]
  have ev : ((8 * Int32.toInt64 (nI c) + 6) / 7).toInt = (8 * c + 6) / 7 := by rw [Int64.toInt_div, e86, e7, Int.tdiv_eq_ediv_of_nonneg (by omega), b64 _ (by omega) (by omega)]
  have ev1 : ((8 * Int32.toInt64 (nI c) + 6) / 7 - 1).toInt = (8 * c + 6) / 7 - 1 := by rw [Int64.toInt_sub, ev, e1, b64 _ (by omega) (by omega)]
  have ev7 : (7 * ((8 * Int32.toInt64 (nI c) + 6) / 7 - 1)).toInt = 7 * ((8 * c + 6) / 7 - 1) := by rw [Int64.toInt_mul, e7, ev1, b64 _ (by omega) (by omega)]
  have em : (8 * nI c).toInt = 8 * c := by rw [zmul (by rw [z8, znI (by omega)]; omega) (by rw [z8, znI (by omega)]; omega), z8, znI (by omega)]
  have em2 : (Int32.toInt64 (8 * nI c)).toInt = 8 * c := by rw [Int32.toInt_toInt64, em]
  unfold fX1_bitsInLast bX1_bitsInLast_0 fX1_sevensOf bX1_sevensOf_0
  rw [Option.bind_some]
  congr 1
  rw [zeq, Int64.toInt_toInt32, Int64.toInt_sub, em2, ev7, b64 _ (by omega) (by omega), znI (by omega), bm32 (by omega) (by omega)]
  omega
end RB4
