/-! bytes told seven bits at a time: both sides -/
section RB2
variable {kinds starts lengths depths b_cells openKinds : Nat → Int32} {numbers : Nat → Int64} {b_size b_tooLong size depth named : Int32} {mk ms ml mw mp mi mb mo mm md : Nat → Int32} {mn : Nat → Int64} {ni nc nh ti tc th tb tz lc lm : Nat → Int32} {nz tz0 ls fa pl first kd st le to ov fl at_ : Int32} {nu : Int64} {gt : Int32} {mp1 : Nat → Int32}
theorem kb_step {f : Nat} {E x3 : Int32} {u hb b h : Nat} (hE : x3.toInt < E.toInt) (hx0 : 0 ≤ x3.toInt) (hxl : x3.toInt < ls.toInt) (h2 : ls.toInt ≤ 6000) (eb : lc x3.toInt.toNat &&& 255 = nI b) (hw : (x3.toInt + 1 = E.toInt ∧ fX1_bitsInLast le = some (nI h)) ∨ (x3.toInt + 1 ≠ E.toInt ∧ h = 7)) (hu : u < 2 ^ hb) (hhb : hb ≤ 7) (hh : h ≤ 7) (hb' : b < 2 ^ h) (hs : 0 < size.toInt) (hs2 : size.toInt ≤ 1500) (hbs : 0 ≤ b_size.toInt) (hbs2 : hb + h < 8 ∨ b_size.toInt < 5000) : bX1_keepBits_9 (f + 1) E st le lc ls starts lengths b_cells b_size 0 size (nI u) (nI hb) x3 = (if hb + h < 8 then bX1_keepBits_9 f E st le lc ls starts lengths b_cells b_size 0 size (nI (nxU u h b hb)) (nI (nxH h hb)) (x3 + 1) else bX1_keepBits_9 f E st le lc ls starts (upd lengths (size.toInt.toNat - 1) (b_size + 1 - starts (size.toInt.toNat - 1))) (upd b_cells b_size.toInt.toNat (b8 (b8 (nI ((u * 2 ^ h + b) / 2 ^ (hb + h - 8) % 256))))) (b_size + 1) 0 size (nI (nxU u h b hb)) (nI (nxH h hb)) (x3 + 1)) := by
  obtain ⟨l1, l2, l3⟩ := ulim hu hhb hh hb'
  have hlo := zlo E
  have hhi := zhi E
  have e1 : (E - 1).toInt = E.toInt - 1 := by rw [zsub (by rw [z1]; omega) (by rw [z1]; omega), z1]
  have h39 : bX1_keepBits_9 (f + 1) E st le lc ls starts lengths b_cells b_size 0 size (nI u) (nI hb) x3 = bX1_keepBits_39 (fun z0 z1 z2 z3 z4 z5 z6 z7 z8 z9 z10 z11 z12 z13 => bX1_keepBits_9 f z0 z1 z2 z3 z4 z5 z6 z7 z8 z9 z10 z11 z12 z13) E st le lc ls starts lengths b_cells b_size 0 size (nI u) (nI hb) x3 (nI h) := by
    rw [bX1_keepBits_9, if_neg (by rw [zle]; omega)]
    rcases hw with ⟨w1, w2⟩ | ⟨w1, w2⟩
    · rw [if_pos (by rw [zeq, e1]; omega), w2, Option.bind_some]
    · rw [if_neg (by rw [zeq, e1]; omega), w2]; rfl
  rw [h39]
  unfold bX1_keepBits_39 bX1_keepBits_83
  rw [cat h2, Option.bind_some, catv_in hx0 hxl, zcl, eb, nI_add, ishlor l1 hh hb']
  dsimp only
  unfold nxU nxH
  by_cases g : hb + h < 8
  · rw [if_pos ((lt8 (by omega)).mpr g), if_pos g, if_pos g, if_pos g, mskj (by omega) (by omega), Nat.mod_eq_of_lt l2]
  · have hd : (u * 2 ^ h + b) / 2 ^ (hb + h - 8) ≤ u * 2 ^ h + b := Nat.div_le_self _ _
    have hb5 : b_size.toInt < 5000 := by omega
    rw [if_neg (fun e => g ((lt8 (by omega)).mp e)), if_neg g, if_neg g, if_neg g, sub8 (by omega), ush (by omega) (by omega), and255 (by omega), cextend hs hs2 hbs hb5, Option.bind_some, mskj (by omega) (by omega)]
/-- what may stand there: m bytes of seven bits, n bits in all -/
def GOOD (lc : Nat → Int32) (p m n : Nat) : Prop := (∀ j : Nat, j < m → (lc (p + j) &&& 255).toInt < 128) ∧ (0 < m → (lc (p + (m - 1)) &&& 255).toInt < 2 ^ (n - 7 * (m - 1)))
theorem bits_joint (h2 : ls.toInt ≤ 6000) (hcl : ∀ k : Nat, (k : Int) < ls.toInt → lm k = lc k) (E le' : Int32) (hs : 0 < size.toInt) (hs2 : size.toInt ≤ 1500) (hElt : E.toInt ≤ ls.toInt) : ∀ (m n fuel fr : Nat) (x : Int32) (u hb : Nat) (gt : Int32) (mp1 lengths b_cells : Nat → Int32) (b_size : Int32) (x3 : Int64), m < fuel → m + 1 < fr → (n + 6) / 7 = m → x3.toInt = n → 0 ≤ x.toInt → x.toInt + m = E.toInt → u < 2 ^ hb → hb ≤ 7 → (hb + n) % 8 = 0 → (0 < m → fX1_bitsInLast le' = some (nI (n - 7 * (m - 1)))) → GOOD lc x.toInt.toNat m n → 0 ≤ gt.toInt → gt.toInt + ((hb + n) / 8 : Nat) ≤ 6000 → 0 ≤ b_size.toInt → b_size.toInt + ((hb + n) / 8 : Nat) ≤ 5000 → ∃ mp' L C, bX7_takeSeven_12 fr lm mp1 ls x 0 pl first gt x3 (nI hb) (nI u) = some (mp', E, 0, pl, gt + nI ((hb + n) / 8)) ∧ bX1_keepBits_9 fuel E st le' lc ls starts lengths b_cells b_size 0 size (nI u) (nI hb) x = some (L, C, b_size + nI ((hb + n) / 8), 0) ∧ (∀ k : Nat, (k < 10000 + gt.toInt.toNat) → mp' k = mp1 k) ∧ (∀ i, i ≠ size.toInt.toNat - 1 → L i = lengths i) ∧ L (size.toInt.toNat - 1) = (if (hb + n) / 8 = 0 then lengths (size.toInt.toNat - 1) else b_size + nI ((hb + n) / 8) - starts (size.toInt.toNat - 1)) ∧ (∀ k : Nat, (k : Int) < b_size.toInt → C k = b_cells k) ∧ ∀ j : Nat, j < (hb + n) / 8 → C (b_size.toInt.toNat + j) = mp' (10000 + gt.toInt.toNat + j) ∧ b8 (C (b_size.toInt.toNat + j)) = C (b_size.toInt.toNat + j) := by
  intro m
  induction m with
  | zero =>
    intro n fuel fr x u hb gt mp1 lengths b_cells b_size x3 hf hfr hn hx3 hx hxE hu hhb h8 hBL hG hg0 hg1 hb0 hb1
    obtain ⟨f, rfl⟩ : ∃ f, fuel = f + 1 := ⟨fuel - 1, by omega⟩
    obtain ⟨g, rfl⟩ : ∃ g, fr = g + 1 := ⟨fr - 1, by omega⟩
    have hn0 : n = 0 := by omega
    have hq : (hb + n) / 8 = 0 := by omega
    have ex : x = E := zeq.mpr (by omega)
    have e0 : (0 : Int64).toInt = 0 := by decide
    rw [hq, nI_0, Int32.add_zero, Int32.add_zero]
    refine ⟨mp1, lengths, b_cells, ?_, ?_, fun _ _ => rfl, fun _ _ => rfl, by rw [if_pos rfl], fun _ _ => rfl, fun j hj => by omega⟩
    · rw [bX7_takeSeven_12, if_pos (by rw [lg_cmp_le, Int64.le_iff_toInt_le, e0]; omega), ex]
    · rw [bX1_keepBits_9, if_pos (by rw [zle]; omega)]
  | succ m ih =>
    intro n fuel fr x u hb gt mp1 lengths b_cells b_size x3 hf hfr hn hx3 hx hxE hu hhb h8 hBL hG hg0 hg1 hb0 hb1
    obtain ⟨f, rfl⟩ : ∃ f, fuel = f + 1 := ⟨fuel - 1, by omega⟩
    obtain ⟨g, rfl⟩ : ∃ g, fr = g + 1 + 1 := ⟨fr - 2, by omega⟩
    have hxl : x.toInt < ls.toInt := by omega
    have hn0 : 0 < n := by omega
    have ex1 : (x + 1).toInt = x.toInt + 1 := by rw [zadd (by rw [z1]; omega) (by rw [z1]; omega), z1]
    have eg1 : gt.toInt < 6000 → (gt + 1).toInt = gt.toInt + 1 := fun h => by rw [zadd (by rw [z1]; omega) (by rw [z1]; omega), z1]
    obtain ⟨b, hb256, eb⟩ := pk_andE (lc x.toInt.toNat) (m := 255) 8 (by decide)
    have hb256' : b < 256 := hb256
    have hb128 : b < 128 := by
      have := hG.1 0 (by omega)
      rw [Nat.add_zero, eb, znI (by omega)] at this
      omega
    have ebm : lm x.toInt.toNat &&& 255 = nI b := by rw [hcl _ (by omega)]; exact eb
    have hh7 : hre n ≤ 7 := by unfold hre; split <;> omega
    have hlast : m = 0 → hre n = n ∧ n ≤ 7 := fun h => by
      have : n ≤ 7 := by omega
      unfold hre
      by_cases g7 : 7 ≤ n
      · rw [if_pos g7]; omega
      · rw [if_neg g7]; omega
    have hmore : 0 < m → hre n = 7 ∧ 7 < n := fun h => by
      have : 7 < n := by omega
      unfold hre
      rw [if_pos (by omega)]; exact ⟨rfl, this⟩
    have hbh : b < 2 ^ hre n := by
      by_cases gm : m = 0
      · have := hG.2 (by omega)
        rw [gm] at this
        simp only [Nat.zero_add, Nat.sub_self, Nat.mul_zero, Nat.sub_zero, Nat.add_zero] at this
        rw [eb, znI (by omega)] at this
        rw [(hlast gm).1]
        exact_mod_cast this
      · rw [(hmore (by omega)).1]; omega
    have hgt6 : gt.toInt < 6000 := by
      by_cases gq : (hb + n) / 8 = 0
      · omega
      · omega
    have hstep := (ts_step (f := g) (mp1 := mp1) (pl := pl) (first := first) (x3 := x3) (u := u) (hb := hb) (b := b) (n := n) hn0 hx3 h2 hx hxl ebm hb128 hu hhb hg0 hgt6).1 hbh
    have hkb := kb_step (f := f) (E := E) (x3 := x) (u := u) (hb := hb) (b := b) (h := hre n) (st := st) (le := le') (starts := starts) (lengths := lengths) (b_cells := b_cells) (b_size := b_size) (size := size) (ls := ls) (lc := lc) (by omega) hx hxl h2 eb (by
      by_cases gm : m = 0
      · refine Or.inl ⟨by omega, ?_⟩
        rw [hBL (by omega), gm, (hlast gm).1, show n - 7 * (0 + 1 - 1) = n by omega]
      · exact Or.inr ⟨by omega, (hmore (by omega)).1⟩) hu hhb hh7 hbh hs hs2 hb0 (by omega)
    obtain ⟨nx1, nx2⟩ := nx_ok hu hhb hh7 hbh
    have ht7 : (Int32.toInt64 (nI (hre n))).toInt = hre n := by rw [Int32.toInt_toInt64, znI (by omega)]
    have hx3' : (x3 - Int32.toInt64 (nI (hre n))).toInt = (n - hre n : Nat) := by
      have hle : hre n ≤ n := by unfold hre; split <;> omega
      rw [Int64.toInt_sub, ht7, hx3, Int.bmod_def]
      have : n ≤ 7 * (m + 1) := by omega
      have : (E.toInt : Int) ≤ 6000 := by omega
      split <;> omega
    have hnm : (n - hre n + 6) / 7 = m := by
      by_cases gm : m = 0
      · rw [(hlast gm).1]; omega
      · rw [(hmore (by omega)).1]; have := (hmore (by omega)).2; omega
    have hn8 : n - hre n - 7 * (m - 1) = n - 7 * (m + 1 - 1) ∨ m = 0 := by
      by_cases gm : m = 0
      · exact Or.inr gm
      · left; rw [(hmore (by omega)).1]; omega
    have hle : hre n ≤ n := by unfold hre; split <;> omega
    have hG' : GOOD lc (x + 1).toInt.toNat m (n - hre n) := by
      refine ⟨fun j hj => ?_, fun hm => ?_⟩
      · have := hG.1 (j + 1) (by omega)
        rw [ex1, show (x.toInt + 1).toNat + j = x.toInt.toNat + (j + 1) by omega]; exact this
      · have := hG.2 (by omega)
        rw [ex1, show (x.toInt + 1).toNat + (m - 1) = x.toInt.toNat + (m + 1 - 1) by omega]
        rcases hn8 with h | h
        · rw [h]; exact this
        · omega
    have hBL' : 0 < m → fX1_bitsInLast le' = some (nI (n - hre n - 7 * (m - 1))) := fun hm => by
      rcases hn8 with h | h
      · rw [h]; exact hBL (by omega)
      · omega
    rw [hstep, hkb]
    by_cases gg : hb + hre n < 8
    · have hH : nxH (hre n) hb = hb + hre n := by unfold nxH; rw [if_pos gg]
      rw [if_pos gg, if_pos gg, if_pos gg]
      have hq : nxH (hre n) hb + (n - hre n) = hb + n := by rw [hH]; omega
      obtain ⟨mp', L, C, q1, q2, q3, q4, q5, q6, q7⟩ := ih (n - hre n) f (g + 1) (x + 1) (nxU u (hre n) b hb) (nxH (hre n) hb) gt mp1 lengths b_cells b_size (x3 - Int32.toInt64 (nI (hre n))) (by omega) (by omega) hnm hx3' (by omega) (by omega) nx1 nx2 (by rw [hq]; exact h8) hBL' hG' hg0 (by rw [hq]; exact hg1) hb0 (by rw [hq]; exact hb1)
      rw [hq] at q1 q2 q5 q7
      exact ⟨mp', L, C, q1, q2, q3, q4, q5, q6, q7⟩
    · have hH : nxH (hre n) hb = hb + hre n - 8 := by unfold nxH; rw [if_neg gg]
      rw [if_neg gg, if_neg gg, if_neg gg]
      have hq : nxH (hre n) hb + (n - hre n) + 8 = hb + n := by rw [hH]; omega
      have hq2 : (nxH (hre n) hb + (n - hre n)) / 8 + 1 = (hb + n) / 8 := by omega
      have hb5 : b_size.toInt < 5000 := by omega
      have eb1 : (b_size + 1).toInt = b_size.toInt + 1 := by rw [zadd (by rw [z1]; omega) (by rw [z1]; omega), z1]
      have eg1' := eg1 hgt6
      obtain ⟨mp', L, C, q1, q2, q3, q4, q5, q6, q7⟩ := ih (n - hre n) f (g + 1) (x + 1) (nxU u (hre n) b hb) (nxH (hre n) hb) (gt + 1) _ (upd lengths (size.toInt.toNat - 1) (b_size + 1 - starts (size.toInt.toNat - 1))) (upd b_cells b_size.toInt.toNat (b8 (b8 (nI ((u * 2 ^ hre n + b) / 2 ^ (hb + hre n - 8) % 256))))) (b_size + 1) (x3 - Int32.toInt64 (nI (hre n))) (by omega) (by omega) hnm hx3' (by omega) (by omega) nx1 nx2 (by omega) hBL' hG' (by omega) (by omega) (by omega) (by omega)
      have en : ∀ y : Int32, y + 1 + nI ((nxH (hre n) hb + (n - hre n)) / 8) = y + nI ((hb + n) / 8) := fun y => by rw [← hq2, nI_succ, Int32.add_assoc, Int32.add_comm 1]
      rw [en] at q1 q2 q5
      rw [eg1'] at q3 q7
      rw [eb1] at q6 q7
      refine ⟨mp', L, C, q1, q2, fun k hk => ?_, fun i hi => ?_, ?_, fun k hk => ?_, fun j hj => ?_⟩
      · rw [q3 k (by omega), upd_ne (by omega)]
      · rw [q4 i hi, upd_ne hi]
      · rw [if_neg (by omega), q5]
        by_cases g0 : (nxH (hre n) hb + (n - hre n)) / 8 = 0
        · rw [if_pos g0, upd_same, ← en, g0, nI_0, Int32.add_zero]
        · rw [if_neg g0]
      · rw [q6 k (by omega), upd_ne (by omega)]
      · by_cases g0 : j = 0
        · subst g0
          rw [Nat.add_zero, Nat.add_zero, q6 _ (by omega), upd_same, q3 _ (by omega), upd_same]
          exact ⟨rfl, by rw [b8_b8, b8_b8]⟩
        · have := q7 (j - 1) (by omega)
          rw [show (b_size.toInt + 1).toNat + (j - 1) = b_size.toInt.toNat + j by omega, show 10000 + (gt.toInt + 1).toNat + (j - 1) = 10000 + gt.toInt.toNat + j by omega] at this
          exact this
end RB2
