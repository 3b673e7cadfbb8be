/-! bytes told seven bits at a time: which are told -/
section RB3
variable {kinds starts lengths depths b_cells openKinds : Nat → Int32} {numbers : Nat → Int64} {b_size b_tooLong size depth named : Int32} {mk ms ml mw mp mi mb mo mm md : Nat → Int32} {mn : Nat → Int64} {ni nc nh ti tc th tb tz lc lm : Nat → Int32} {nz tz0 ls fa pl first kd st le to ov fl at_ : Int32} {nu : Int64} {gt : Int32} {mp1 : Nat → Int32}
theorem bits_tot (h2 : ls.toInt ≤ 6000) (hcl : ∀ k : Nat, (k : Int) < ls.toInt → lm k = lc k) : ∀ (r n fr : Nat) (x : Int32) (u hb : Nat) (pl gt : Int32) (mp1 : Nat → Int32) (x3 : Int64), r + 2 < fr → x3.toInt = n → n < 2 ^ 40 → 0 ≤ x.toInt → x.toInt + r = ls.toInt → u < 2 ^ hb → hb ≤ 7 → (hb + n) % 8 = 0 → 0 ≤ gt.toInt → gt.toInt + r ≤ 6000 → ∃ mp' at' f2 pl' gt', bX7_takeSeven_12 fr lm mp1 ls x 0 pl first gt x3 (nI hb) (nI u) = some (mp', at', f2, pl', gt') ∧ (∀ k : Nat, k < 10000 → mp' k = mp1 k) ∧ ((f2 = 0 ∧ x.toInt + ((n + 6) / 7 : Nat) ≤ ls.toInt ∧ GOOD lc x.toInt.toNat ((n + 6) / 7) n ∧ at'.toInt = x.toInt + ((n + 6) / 7 : Nat) ∧ gt'.toInt = gt.toInt + ((hb + n) / 8 : Nat)) ∨ (0 < f2.toInt ∧ ¬ (x.toInt + ((n + 6) / 7 : Nat) ≤ ls.toInt ∧ GOOD lc x.toInt.toNat ((n + 6) / 7) n))) := by
  have e0 : (0 : Int64).toInt = 0 := by decide
  have zero : ∀ (fr : Nat) (x : Int32) (u hb : Nat) (pl gt : Int32) (mp1 : Nat → Int32) (x3 : Int64) (n : Nat), n = 0 → x3.toInt = n → x.toInt ≤ ls.toInt → hb ≤ 7 → (hb + n) % 8 = 0 → ∃ mp' at' f2 pl' gt', bX7_takeSeven_12 (fr + 1) lm mp1 ls x 0 pl first gt x3 (nI hb) (nI u) = some (mp', at', f2, pl', gt') ∧ (∀ k : Nat, k < 10000 → mp' k = mp1 k) ∧ ((f2 = 0 ∧ x.toInt + ((n + 6) / 7 : Nat) ≤ ls.toInt ∧ GOOD lc x.toInt.toNat ((n + 6) / 7) n ∧ at'.toInt = x.toInt + ((n + 6) / 7 : Nat) ∧ gt'.toInt = gt.toInt + ((hb + n) / 8 : Nat)) ∨ (0 < f2.toInt ∧ ¬ (x.toInt + ((n + 6) / 7 : Nat) ≤ ls.toInt ∧ GOOD lc x.toInt.toNat ((n + 6) / 7) n))) := by
    intro fr x u hb pl gt mp1 x3 n hn hx3 hx hhb h8
    subst hn
    rw [bX7_takeSeven_12, if_pos (by rw [lg_cmp_le, Int64.le_iff_toInt_le, e0]; omega)]
    exact ⟨_, _, _, _, _, rfl, fun _ _ => rfl, Or.inl ⟨rfl, by omega, ⟨fun j hj => by omega, fun h => by omega⟩, by omega, by omega⟩⟩
  intro r
  induction r with
  | zero =>
    intro n fr x u hb pl gt mp1 x3 hfr hx3 hn40 hx hxl hu hhb h8 hg0 hg1
    obtain ⟨g, rfl⟩ : ∃ g, fr = g + 1 + 1 := ⟨fr - 2, by omega⟩
    by_cases hn : n = 0
    · exact zero (g + 1) x u hb pl gt mp1 x3 n hn hx3 (by omega) hhb h8
    · obtain ⟨at', f2, pl', q1, q2⟩ := ts_bad (f := g) (mp1 := mp1) (pl := pl) (first := first) (gt := gt) (x3 := x3) (u := u) (hb := hb) (at_ := x) (lm := lm) (by omega) h2 hx (Or.inl (zeq.mpr (by omega)))
      exact ⟨_, _, _, _, _, q1, fun _ _ => rfl, Or.inr ⟨q2, fun h => by have := h.1; omega⟩⟩
  | succ r ih =>
    intro n fr x u hb pl gt mp1 x3 hfr hx3 hn40 hx hxl hu hhb h8 hg0 hg1
    obtain ⟨g, rfl⟩ : ∃ g, fr = g + 1 + 1 := ⟨fr - 2, by omega⟩
    by_cases hn : n = 0
    · exact zero (g + 1) x u hb pl gt mp1 x3 n hn hx3 (by omega) hhb h8
    · obtain ⟨b, hb256, eb⟩ := pk_andE (lc x.toInt.toNat) (m := 255) 8 (by decide)
      have hb256' : b < 256 := hb256
      have ebm : lm x.toInt.toNat &&& 255 = nI b := by rw [hcl _ (by omega)]; exact eb
      have hM : (n + 6) / 7 = (n + 6) / 7 - 1 + 1 := by omega
      by_cases hb128 : b < 128
      · have hst := ts_step (f := g) (mp1 := mp1) (pl := pl) (first := first) (gt := gt) (x3 := x3) (u := u) (hb := hb) (b := b) (n := n) (at_ := x) (lm := lm) (ls := ls) (by omega) hx3 h2 hx (by omega) ebm hb128 hu hhb hg0 (by omega)
        by_cases hbh : b < 2 ^ hre n
        · rw [hst.1 hbh]
          have hh7 : hre n ≤ 7 := by unfold hre; split <;> omega
          have hle : hre n ≤ n := by unfold hre; split <;> omega
          have hpos : 0 < hre n := by unfold hre; split <;> omega
          obtain ⟨nx1, nx2⟩ := nx_ok hu hhb hh7 hbh
          have ex1 : (x + 1).toInt = x.toInt + 1 := by rw [zadd (by rw [z1]; omega) (by rw [z1]; omega), z1]
          have eg1 : (gt + 1).toInt = gt.toInt + 1 := by rw [zadd (by rw [z1]; omega) (by rw [z1]; omega), z1]
          have ht7 : (Int32.toInt64 (nI (hre n))).toInt = hre n := by rw [Int32.toInt_toInt64, znI (by omega)]
          have hx3' : (x3 - Int32.toInt64 (nI (hre n))).toInt = (n - hre n : Nat) := by
            rw [Int64.toInt_sub, ht7, hx3, Int.bmod_def]
            split <;> omega
          have hm7 : (n - hre n + 6) / 7 + 1 = (n + 6) / 7 := by
            unfold hre
            by_cases g7 : 7 ≤ n
            · rw [if_pos g7]; omega
            · rw [if_neg g7]; omega
          have hGiff : GOOD lc x.toInt.toNat ((n + 6) / 7) n ↔ GOOD lc (x + 1).toInt.toNat ((n - hre n + 6) / 7) (n - hre n) := by
            rw [ex1, ← hm7]
            constructor
            · intro hG
              refine ⟨fun j hj => ?_, fun hm => ?_⟩
              · have := hG.1 (j + 1) (by omega)
                rw [show (x.toInt + 1).toNat + j = x.toInt.toNat + (j + 1) by omega]; exact this
              · have := hG.2 (by omega)
                rw [show (x.toInt + 1).toNat + ((n - hre n + 6) / 7 - 1) = x.toInt.toNat + ((n - hre n + 6) / 7 + 1 - 1) by omega]
                have e8 : n - hre n - 7 * ((n - hre n + 6) / 7 - 1) = n - 7 * ((n - hre n + 6) / 7 + 1 - 1) := by
                  unfold hre at *
                  by_cases g7 : 7 ≤ n
                  · simp only [if_pos g7] at *; omega
                  · simp only [if_neg g7] at *; omega
                rw [e8]; exact this
            · intro hG
              refine ⟨fun j hj => ?_, fun hm => ?_⟩
              · by_cases gj : j = 0
                · subst gj; rw [Nat.add_zero, eb, znI (by omega)]; omega
                · have := hG.1 (j - 1) (by omega)
                  rw [show (x.toInt + 1).toNat + (j - 1) = x.toInt.toNat + j by omega] at this; exact this
              · by_cases gm : (n - hre n + 6) / 7 = 0
                · rw [gm]
                  have e9 : n = hre n := by omega
                  simp only [Nat.zero_add, Nat.sub_self, Nat.mul_zero, Nat.sub_zero, Nat.add_zero]
                  have hb2 : b < 2 ^ n := Nat.lt_of_lt_of_eq hbh (congrArg (fun y => 2 ^ y) e9.symm)
                  rw [eb, znI (by omega)]
                  exact_mod_cast hb2
                · have := hG.2 (by omega)
                  rw [show (x.toInt + 1).toNat + ((n - hre n + 6) / 7 - 1) = x.toInt.toNat + ((n - hre n + 6) / 7 + 1 - 1) by omega] at this
                  have e8 : n - hre n - 7 * ((n - hre n + 6) / 7 - 1) = n - 7 * ((n - hre n + 6) / 7 + 1 - 1) := by
                    unfold hre at *
                    by_cases g7 : 7 ≤ n
                    · simp only [if_pos g7] at *; omega
                    · simp only [if_neg g7] at *; omega
                  rw [e8] at this; exact this
          have hH : (nxH (hre n) hb + (n - hre n)) % 8 = 0 ∧ (if hb + hre n < 8 then 0 else 1) + (nxH (hre n) hb + (n - hre n)) / 8 = (hb + n) / 8 := by
            unfold nxH
            by_cases gg : hb + hre n < 8
            · rw [if_pos gg, if_pos gg]; omega
            · rw [if_neg gg, if_neg gg]; omega
          have hgt' : (if hb + hre n < 8 then gt else gt + 1).toInt = gt.toInt + ((if hb + hre n < 8 then 0 else 1 : Nat) : Int) := by
            by_cases gg : hb + hre n < 8
            · rw [if_pos gg, if_pos gg]; omega
            · rw [if_neg gg, if_neg gg]; omega
          have hgb : (if hb + hre n < 8 then 0 else 1 : Nat) ≤ 1 := by split <;> omega
          obtain ⟨mp', at', f2, pl', gt', q1, q2, q3⟩ := ih (n - hre n) (g + 1) (x + 1) (nxU u (hre n) b hb) (nxH (hre n) hb) pl (if hb + hre n < 8 then gt else gt + 1) (if hb + hre n < 8 then mp1 else upd mp1 (10000 + gt.toInt.toNat) (b8 (b8 (nI ((u * 2 ^ hre n + b) / 2 ^ (hb + hre n - 8) % 256))))) (x3 - Int32.toInt64 (nI (hre n))) (by omega) hx3' (by omega) (by omega) (by omega) nx1 nx2 hH.1 (by omega) (by omega)
          refine ⟨mp', at', f2, pl', gt', q1, fun k hk => ?_, ?_⟩
          · rw [q2 k hk]
            by_cases gg : hb + hre n < 8
            · rw [if_pos gg]
            · rw [if_neg gg, upd_ne (by omega)]
          · rw [hGiff]
            rcases q3 with ⟨y1, y2, y3, y4, y5⟩ | ⟨y1, y2⟩
            · refine Or.inl ⟨y1, by omega, y3, by omega, ?_⟩
              rw [y5, hgt']; have := hH.2; omega
            · exact Or.inr ⟨y1, fun h => y2 ⟨by have := h.1; omega, h.2⟩⟩
        · obtain ⟨mp', at', f2, pl', gt', q1, q2, q3⟩ := hst.2 hbh
          refine ⟨mp', at', f2, pl', gt', q1, q3, Or.inr ⟨q2, fun h => ?_⟩⟩
          have hh : hre n = n ∧ n < 7 := by
            unfold hre at hbh ⊢
            by_cases g7 : 7 ≤ n
            · rw [if_pos g7] at hbh; exact absurd hb128 hbh
            · rw [if_neg g7]; omega
          have hG := h.2.2 (by omega)
          have hm1 : (n + 6) / 7 = 1 := by omega
          rw [hm1] at hG
          simp only [Nat.sub_self, Nat.mul_zero, Nat.sub_zero, Nat.add_zero] at hG
          rw [eb, znI (by omega)] at hG
          apply hbh
          rw [hh.1]
          exact_mod_cast hG
      · obtain ⟨at', f2, pl', q1, q2⟩ := ts_bad (f := g) (mp1 := mp1) (pl := pl) (first := first) (gt := gt) (x3 := x3) (u := u) (hb := hb) (at_ := x) (lm := lm) (by omega) h2 hx (Or.inr ⟨by omega, by rw [ebm, znI (by omega)]; omega⟩)
        refine ⟨_, _, _, _, _, q1, fun _ _ => rfl, Or.inr ⟨q2, fun h => ?_⟩⟩
        have := h.2.1 0 (by omega)
        rw [Nat.add_zero, eb, znI (by omega)] at this
        omega
end RB3
