/-! reals that are read; the zigzag back -/
section RR2
variable {lc lm : Nat → Int32} {ls at_ fa pl : Int32}
theorem cseven_ok (h0 : 0 ≤ at_.toInt) (h1 : at_.toInt < ls.toInt) (h2 : ls.toInt ≤ 6000) (hb : (lc at_.toInt.toNat &&& 255).toInt < 128) : fX1_takeSeven at_ 0 fa lc ls = some (lc at_.toInt.toNat &&& 255, at_ + 1, 0, fa) := by
  have z128 : (128 : Int32).toInt = 128 := by decide
  have hv := byv (lc at_.toInt.toNat)
  have e : lc at_.toInt.toNat &&& 255 &&& 127 = lc at_.toInt.toNat &&& 255 := by rw [zeq, zand127]; omega
  unfold fX1_takeSeven bX1_takeSeven_0
  rw [ctake_ok h0 h1 h2, Option.bind_some]
  dsimp only
  rw [if_pos (by rw [zlt, z128]; exact hb), e]
theorem cseven_bad (h0 : 0 ≤ at_.toInt) (h1 : at_.toInt < ls.toInt) (h2 : ls.toInt ≤ 6000) (hb : ¬ (lc at_.toInt.toNat &&& 255).toInt < 128) : fX1_takeSeven at_ 0 fa lc ls = some (lc at_.toInt.toNat &&& 255 &&& 127, at_ + 1, 3, at_ + 1 - 1) := by
  have z128 : (128 : Int32).toInt = 128 := by decide
  unfold fX1_takeSeven bX1_takeSeven_0 fX1_refuseByte bX1_refuseByte_0 fX1_fail bX1_fail_0
  rw [ctake_ok h0 h1 h2, Option.bind_some]
  dsimp only
  rw [if_neg (by rw [zlt, z128]; exact hb), if_pos rfl]; rfl
theorem cseven_end (he : at_ = ls) (h0 : 0 ≤ ls.toInt) (h2 : ls.toInt ≤ 6000) : fX1_takeSeven at_ 0 fa lc ls = some ((-1) &&& 127, at_, 2, at_) := by
  unfold fX1_takeSeven bX1_takeSeven_0
  rw [ctake_end he h0 h2, Option.bind_some]
  dsimp only
  rw [if_pos (by decide)]
def REA (at_ ls : Int32) (kd : Int32) (a : Option (Int32 × Int32 × Int32 × Int32 × Int64 × Int32)) (b : Option (Int64 × Int32 × Int32 × Int32)) : Prop :=
  ∃ at' f fa' c over v at2 f2 pl', a = some (at', f, fa', kd, c, over) ∧ b = some (v, at2, f2, pl') ∧ (over = 0 ∨ over = 1) ∧ ((f ≠ 0 ∧ 0 < f2.toInt) ∨ (f = 0 ∧ at_.toInt ≤ at'.toInt ∧ at'.toInt ≤ ls.toInt ∧ ((over = 1 ∧ 0 < f2.toInt) ∨ (over = 0 ∧ f2 = 0 ∧ at2 = at' ∧ v = c))))
/-- the reference goes on to the end, once at fault -/
theorem rreal_fault {first many bits : Int32} : ∀ (n fuel : Nat) (at_ pl fl : Int32) (v : Int64) (ro x : Int32), n < fuel → 0 < fl.toInt → 0 ≤ x.toInt → x.toInt + n = many.toInt → ∃ v' pl', bX7_readReal_8 fuel lm ls at_ fl pl first many bits v ro x = some (v', at_, fl, pl') := by
  have fin : ∀ (f : Nat) (at_ pl fl : Int32) (v : Int64) (ro x : Int32), 0 < fl.toInt → many.toInt ≤ x.toInt → ∃ v' pl', bX7_readReal_8 (f + 1) lm ls at_ fl pl first many bits v ro x = some (v', at_, fl, pl') := by
    intro f at_ pl fl v ro x hfl hx
    have hne : ¬ fl = 0 := fun h => by rw [h, z0] at hfl; omega
    rw [bX7_readReal_8, if_pos (by rw [zle]; exact hx)]
    unfold bX7_readReal_113 fX7_fail bX7_fail_0
    rw [if_neg hne, Option.bind_some]
    (repeat' split) <;> exact ⟨_, _, rfl⟩
  intro n
  induction n with
  | zero =>
    intro fuel at_ pl fl v ro x hf hfl hx hn
    obtain ⟨f, rfl⟩ : ∃ f, fuel = f + 1 := ⟨fuel - 1, by omega⟩
    exact fin f at_ pl fl v ro x hfl (by omega)
  | succ n ih =>
    intro fuel at_ pl fl v ro x hf hfl hx hn
    obtain ⟨f, rfl⟩ : ∃ f, fuel = f + 1 := ⟨fuel - 1, by omega⟩
    have hne : ¬ fl = 0 := fun h => by rw [h, z0] at hfl; omega
    have hh := zhi many
    have exx : (x + 1).toInt = x.toInt + 1 := by rw [zadd (by rw [z1]; omega) (by rw [z1]; omega), z1]
    have hn1 : fX7_next lm ls at_ fl pl = some (-1, at_, fl, pl) := by
      unfold fX7_next bX7_next_0
      rw [if_neg (by rw [zle, z0]; omega)]
    rw [bX7_readReal_8, if_neg (by rw [zle]; omega), hn1, Option.bind_some]
    dsimp only
    rw [if_neg hne]
    unfold bX7_readReal_46 bX7_readReal_60 bX7_readReal_65 bX7_readReal_86
    have hle : ¬ fl ≤ 0 := by rw [zle, z0]; omega
    have go : ∀ s0, ∃ v' pl', bX7_readReal_8 f lm ls at_ fl pl first many bits 0 s0 (x + 1) = some (v', at_, fl, pl') := fun s0 => ih f at_ pl fl 0 s0 (x + 1) (by omega) hfl (by omega) (by omega)
    by_cases g : ro = 0
    · rw [if_pos g]
      by_cases g2 : (lg_cmp ((Int64.toUInt64 v >>> ((Int32.toInt64 57).toUInt64 &&& Int64.toUInt64 63)).toInt64) 0) = 0
      · rw [if_pos g2, if_neg hle]; exact go 0
      · rw [if_neg g2, if_neg hle]; exact go 1
    · rw [if_neg g, if_neg hle]; exact go 1
theorem rea_loop (h2 : ls.toInt ≤ 6000) (hbb : ∀ k : Nat, (k : Int) < ls.toInt → lm k = lc k) (many bits first kd : Int32) (hm : (many = 5 ∧ bits = 32) ∨ (many = 10 ∧ bits = 64)) : ∀ (n fuel fr : Nat) (at_ fa pl : Int32) (v : Int64) (co ro x : Int32), n < fuel → n + 1 < fr → 0 ≤ x.toInt → x.toInt + n = many.toInt → 0 ≤ at_.toInt → at_.toInt ≤ ls.toInt → ((bits = 64 ∧ co = ro ∧ (co = 0 ∨ co = 1)) ∨ (bits = 32 ∧ ro = 0 ∧ (co = 0 ∨ co = 1) ∧ (co = 0 ↔ v.toBitVec.toNat < 2 ^ 32) ∧ v.toBitVec.toNat < 2 ^ (7 * x.toInt.toNat))) → REA at_ ls kd (bX1_scanReal_8 fuel at_ 0 fa kd v co lc ls many bits x) (bX7_readReal_8 fr lm ls at_ 0 pl first many bits v ro x) := by
  have hm10 : many.toInt ≤ 10 := by rcases hm with ⟨rfl, -⟩ | ⟨rfl, -⟩ <;> decide
  have z128 : (128 : Int32).toInt = 128 := by decide
  intro n
  induction n with
  | zero =>
    intro fuel fr at_ fa pl v co ro x hf hfr hx hn h0 h1 hi
    obtain ⟨f, rfl⟩ : ∃ f, fuel = f + 1 := ⟨fuel - 1, by omega⟩
    obtain ⟨g, rfl⟩ : ∃ g, fr = g + 1 + 1 := ⟨fr - 2, by omega⟩
    have hco : co = 0 ∨ co = 1 := by rcases hi with ⟨_, _, h⟩ | ⟨_, _, h, _⟩ <;> exact h
    have hle : many ≤ x := by rw [zle]; omega
    have ec : bX1_scanReal_8 (f + 1) at_ 0 fa kd v co lc ls many bits x = some (at_, 0, fa, kd, v, co) := by rw [bX1_scanReal_8, if_pos hle]
    have bad : bX7_readReal_113 lm ls at_ 0 pl first v = some (v, at_, 6, first) := rfl
    rw [ec, bX7_readReal_8, if_pos hle, bad]
    rcases hi with ⟨i1, i2, i3⟩ | ⟨i1, i2, i3, i4, i5⟩
    · subst i1 i2
      rw [if_neg (show ¬ ((64 : Int32) = 32) by decide)]
      by_cases g0 : co = 0
      · rw [if_pos g0]
        exact ⟨_, _, _, _, _, _, _, _, _, rfl, rfl, hco, Or.inr ⟨rfl, by omega, h1, Or.inr ⟨g0, rfl, rfl, rfl⟩⟩⟩
      · rw [if_neg g0]
        exact ⟨_, _, _, _, _, _, _, _, _, rfl, rfl, hco, Or.inr ⟨rfl, by omega, h1, Or.inl ⟨by rcases hco with h | h; exact absurd h g0; exact h, by decide⟩⟩⟩
    · subst i1 i2
      have s32 := lushr_nat v ((Int32.toInt64 32).toUInt64 &&& Int64.toUInt64 63) 32 (by decide) (by omega)
      rw [if_pos rfl, if_pos rfl]
      by_cases g0 : co = 0
      · have := i4.mp g0
        rw [if_pos ((lg_cmp_eq _ _).mpr (lzero.mpr (s32.trans (by omega))))]
        exact ⟨_, _, _, _, _, _, _, _, _, rfl, rfl, hco, Or.inr ⟨rfl, by omega, h1, Or.inr ⟨g0, rfl, rfl, rfl⟩⟩⟩
      · have g1 : ¬ v.toBitVec.toNat < 2 ^ 32 := fun h => g0 (i4.mpr h)
        rw [if_neg (fun h => by
          have h3 := lzero.mp ((lg_cmp_eq _ _).mp h)
          rw [s32] at h3
          omega)]
        exact ⟨_, _, _, _, _, _, _, _, _, rfl, rfl, hco, Or.inr ⟨rfl, by omega, h1, Or.inl ⟨by rcases hco with h | h; exact absurd h g0; exact h, by decide⟩⟩⟩
  | succ n ih =>
    intro fuel fr at_ fa pl v co ro x hf hfr hx hn h0 h1 hi
    obtain ⟨f, rfl⟩ : ∃ f, fuel = f + 1 := ⟨fuel - 1, by omega⟩
    obtain ⟨g, rfl⟩ : ∃ g, fr = g + 1 := ⟨fr - 1, by omega⟩
    have hco : co = 0 ∨ co = 1 := by rcases hi with ⟨_, _, h⟩ | ⟨_, _, h, _⟩ <;> exact h
    have hle : ¬ many ≤ x := by rw [zle]; omega
    have exx : (x + 1).toInt = x.toInt + 1 := by rw [zadd (by rw [z1]; omega) (by rw [z1]; omega), z1]
    have cfl : ∀ (at_ fl fa : Int32) (v : Int64) (co : Int32), fl ≠ 0 → bX1_scanReal_8 f at_ fl fa kd v co lc ls many bits (x + 1) = some (at_, fl, fa, kd, v, co) := by
      intro at_ fl fa v co hfl
      obtain ⟨f', rfl⟩ : ∃ f', f = f' + 1 := ⟨f - 1, by omega⟩
      rw [bX1_scanReal_8]
      by_cases gg : many ≤ x + 1
      · rw [if_pos gg]
      · rw [if_neg gg, if_neg hfl]
    have ovb : ∀ c : Prop, ∀ [Decidable c], ((if c then (0 : Int32) else 1) = 0 ∨ (if c then (0 : Int32) else 1) = 1) := by
      intro c _
      by_cases h : c
      · rw [if_pos h]; exact Or.inl rfl
      · rw [if_neg h]; exact Or.inr rfl
    rw [bX1_scanReal_8, bX7_readReal_8, if_neg hle, if_pos rfl, if_neg hle]
    by_cases he : at_ = ls
    · rw [cseven_end he (by omega) h2, rnext_end he, Option.bind_some, Option.bind_some]
      dsimp only
      rw [capp hco, Option.bind_some, cfl _ _ _ _ _ (by decide), if_neg (show ¬ ((2 : Int32) = 0) by decide)]
      unfold bX7_readReal_46 bX7_readReal_60 bX7_readReal_65 bX7_readReal_86
      have go : ∀ s0, ∃ v' pl', bX7_readReal_8 g lm ls at_ 2 at_ first many bits 0 s0 (x + 1) = some (v', at_, 2, pl') := fun s0 => rreal_fault n g at_ at_ 2 0 s0 (x + 1) (by omega) (by decide) (by omega) (by omega)
      rw [if_neg (show ¬ ((2 : Int32) ≤ 0) by decide), if_neg (show ¬ ((2 : Int32) ≤ 0) by decide)]
      have fin : ∀ ov s0, (ov = 0 ∨ ov = 1) → REA at_ ls kd (some (at_, 2, at_, kd, (v <<< (Int32.toInt64 7 &&& 63)) ||| Int32.toInt64 ((-1) &&& 127), ov)) (bX7_readReal_8 g lm ls at_ 2 at_ first many bits 0 s0 (x + 1)) := by
        intro ov s0 hov
        obtain ⟨v', pl', hg⟩ := go s0
        exact ⟨_, _, _, _, _, _, _, _, _, rfl, hg, hov, Or.inl ⟨by decide, by decide⟩⟩
      (repeat' split) <;> first | exact fin _ _ (Or.inl rfl) | exact fin _ _ (Or.inr rfl)
    have hat : at_.toInt < ls.toInt := by
      have : at_.toInt ≠ ls.toInt := fun h => he (zeq.mpr h)
      omega
    have hbe := hbb at_.toInt.toNat (by omega)
    have hv := byv (lc at_.toInt.toNat)
    have ea : (at_ + 1).toInt = at_.toInt + 1 := by rw [zadd (by rw [z1]; omega) (by rw [z1]; omega), z1]
    rw [rnext_ok h0 hat h2, Option.bind_some, hbe]
    dsimp only
    rw [if_pos rfl]
    by_cases hb : (lc at_.toInt.toNat &&& 255).toInt < 128
    · rw [cseven_ok h0 hat h2 hb, Option.bind_some]
      dsimp only
      have hlt : lc at_.toInt.toNat &&& 255 < 128 := by rw [zlt, z128]; exact hb
      rw [capp hco, Option.bind_some, if_pos hlt]
      unfold bX7_readReal_46 bX7_readReal_60 bX7_readReal_65 bX7_readReal_86
      rw [if_pos (show (0 : Int32) ≤ 0 by decide), if_pos (show (0 : Int32) ≤ 0 by decide)]
      dsimp only
      have step : ∀ s0, ((bits = 64 ∧ (if co = 0 ∧ (Int64.toUInt64 v >>> ((Int32.toInt64 (bits - 7)).toUInt64 &&& Int64.toUInt64 63)).toInt64 = 0 then (0 : Int32) else 1) = s0 ∧ ((if co = 0 ∧ (Int64.toUInt64 v >>> ((Int32.toInt64 (bits - 7)).toUInt64 &&& Int64.toUInt64 63)).toInt64 = 0 then (0 : Int32) else 1) = 0 ∨ (if co = 0 ∧ (Int64.toUInt64 v >>> ((Int32.toInt64 (bits - 7)).toUInt64 &&& Int64.toUInt64 63)).toInt64 = 0 then (0 : Int32) else 1) = 1)) ∨ (bits = 32 ∧ s0 = 0 ∧ ((if co = 0 ∧ (Int64.toUInt64 v >>> ((Int32.toInt64 (bits - 7)).toUInt64 &&& Int64.toUInt64 63)).toInt64 = 0 then (0 : Int32) else 1) = 0 ∨ (if co = 0 ∧ (Int64.toUInt64 v >>> ((Int32.toInt64 (bits - 7)).toUInt64 &&& Int64.toUInt64 63)).toInt64 = 0 then (0 : Int32) else 1) = 1) ∧ ((if co = 0 ∧ (Int64.toUInt64 v >>> ((Int32.toInt64 (bits - 7)).toUInt64 &&& Int64.toUInt64 63)).toInt64 = 0 then (0 : Int32) else 1) = 0 ↔ ((v <<< (Int32.toInt64 7 &&& 63)) ||| Int32.toInt64 (lc at_.toInt.toNat &&& 255)).toBitVec.toNat < 2 ^ 32) ∧ ((v <<< (Int32.toInt64 7 &&& 63)) ||| Int32.toInt64 (lc at_.toInt.toNat &&& 255)).toBitVec.toNat < 2 ^ (7 * (x + 1).toInt.toNat))) → REA at_ ls kd (bX1_scanReal_8 f (at_ + 1) 0 fa kd ((v <<< (Int32.toInt64 7 &&& 63)) ||| Int32.toInt64 (lc at_.toInt.toNat &&& 255)) (if co = 0 ∧ (Int64.toUInt64 v >>> ((Int32.toInt64 (bits - 7)).toUInt64 &&& Int64.toUInt64 63)).toInt64 = 0 then 0 else 1) lc ls many bits (x + 1)) (bX7_readReal_8 g lm ls (at_ + 1) 0 pl first many bits ((v <<< (Int32.toInt64 7 &&& 63)) ||| Int32.toInt64 (lc at_.toInt.toNat &&& 255)) s0 (x + 1)) := by
        intro s0 hs
        obtain ⟨at', f', fa', c, over, v', at2, f2, pl', q1, q2, q3, q4⟩ := ih f g (at_ + 1) fa pl _ _ s0 (x + 1) (by omega) (by omega) (by omega) (by omega) (by omega) (by omega) hs
        refine ⟨at', f', fa', c, over, v', at2, f2, pl', q1, q2, q3, ?_⟩
        rcases q4 with h | ⟨h, h', h''⟩
        · exact Or.inl h
        · exact Or.inr ⟨h, by omega, h''⟩
      rcases hi with ⟨i1, i2, i3⟩ | ⟨i1, i2, i3, i4, i5⟩
      · subst i1 i2
        rw [show (64 - 7 : Int32) = 57 by decide] at step ⊢
        by_cases g0 : co = 0
        · rw [if_pos g0]
          by_cases g1 : (Int64.toUInt64 v >>> ((Int32.toInt64 57).toUInt64 &&& Int64.toUInt64 63)).toInt64 = 0
          · rw [if_pos ((lg_cmp_eq _ _).mpr g1)]
            exact step 0 (Or.inl ⟨rfl, if_pos ⟨g0, g1⟩, ovb _⟩)
          · rw [if_neg (fun h => g1 ((lg_cmp_eq _ _).mp h))]
            exact step 1 (Or.inl ⟨rfl, if_neg (fun h => g1 h.2), ovb _⟩)
        · rw [if_neg g0]
          exact step 1 (Or.inl ⟨rfl, if_neg (fun h => g0 h.1), ovb _⟩)
      · subst i1 i2
        have hm5 : many = 5 := by rcases hm with ⟨h, _⟩ | ⟨_, h⟩; exact h; exact absurd h (by decide)
        have hx4 : x.toInt.toNat ≤ 4 := by rw [hm5, z5] at hn; omega
        have p1 : v.toBitVec.toNat < 268435456 := Nat.lt_of_lt_of_le i5 (Nat.pow_le_pow_right (n := 2) (j := 28) (by omega) (by omega))
        have s25 := lushr_nat v ((Int32.toInt64 (32 - 7)).toUInt64 &&& Int64.toUInt64 63) 25 (by decide) (by omega)
        have s57 := lushr_nat v ((Int32.toInt64 57).toUInt64 &&& Int64.toUInt64 63) 57 (by decide) (by omega)
        have w57 := lzero.mpr (s57.trans (by omega))
        have hn' := lshlor (v := v) (b := lc at_.toInt.toNat &&& 255) (w := 7) (k := 7) (by decide) (by omega) (by omega) (by omega) (by omega)
        rw [if_pos rfl, if_pos ((lg_cmp_eq _ _).mpr w57)]
        refine step 0 (Or.inr ⟨rfl, rfl, ovb _, ?_, ?_⟩)
        · rw [hn']
          by_cases gg : co = 0 ∧ (Int64.toUInt64 v >>> ((Int32.toInt64 (32 - 7)).toUInt64 &&& Int64.toUInt64 63)).toInt64 = 0
          · rw [if_pos gg]
            have h3 := lzero.mp gg.2
            rw [s25] at h3
            exact ⟨fun _ => by omega, fun _ => rfl⟩
          · rw [if_neg gg]
            refine ⟨fun h => absurd h (by decide), fun h => absurd ⟨i4.mpr (by omega), lzero.mpr (s25.trans (by omega))⟩ gg⟩
        · rw [hn', exx, show (x.toInt + 1).toNat = x.toInt.toNat + 1 by omega, Nat.mul_add, Nat.pow_add]
          omega
    · rw [cseven_bad h0 hat h2 hb, Option.bind_some]
      dsimp only
      have hlt : ¬ (lc at_.toInt.toNat &&& 255 < 128) := by rw [zlt, z128]; exact hb
      rw [capp hco, Option.bind_some, cfl _ _ _ _ _ (by decide), if_neg hlt]
      have hfail : fX7_fail 0 pl 3 (at_ + 1 - 1) = some (3, at_ + 1 - 1) := rfl
      rw [hfail, Option.bind_some]
      unfold bX7_readReal_46 bX7_readReal_60 bX7_readReal_65 bX7_readReal_86
      dsimp only
      have go : ∀ s0, ∃ v' pl', bX7_readReal_8 g lm ls (at_ + 1) 3 (at_ + 1 - 1) first many bits 0 s0 (x + 1) = some (v', at_ + 1, 3, pl') := fun s0 => rreal_fault n g (at_ + 1) (at_ + 1 - 1) 3 0 s0 (x + 1) (by omega) (by decide) (by omega) (by omega)
      rw [if_neg (show ¬ ((3 : Int32) ≤ 0) by decide), if_neg (show ¬ ((3 : Int32) ≤ 0) by decide)]
      have fin : ∀ ov s0, (ov = 0 ∨ ov = 1) → REA at_ ls kd (some (at_ + 1, 3, at_ + 1 - 1, kd, (v <<< (Int32.toInt64 7 &&& 63)) ||| Int32.toInt64 (lc at_.toInt.toNat &&& 255 &&& 127), ov)) (bX7_readReal_8 g lm ls (at_ + 1) 3 (at_ + 1 - 1) first many bits 0 s0 (x + 1)) := by
        intro ov s0 hov
        obtain ⟨v', pl', hg⟩ := go s0
        exact ⟨_, _, _, _, _, _, _, _, _, rfl, hg, hov, Or.inl ⟨by decide, by decide⟩⟩
      (repeat' split) <;> first | exact fin _ _ (Or.inl rfl) | exact fin _ _ (Or.inr rfl)
theorem unzig (z : Int64) : fX1_fromZigzag z = fX7_unzigzag z := by
  unfold fX1_fromZigzag bX1_fromZigzag_0 fX7_unzigzag bX7_unzigzag_0
  have hm := lmask z (m := 1) 1 (by decide) (by decide)
  by_cases g : z &&& 1 = 0
  · rw [if_pos ((lg_cmp_eq _ _).mpr g), g]
    congr 1
    apply Int64.toBitVec_inj.mp
    rw [Int64.toBitVec_xor]
    show _ ^^^ (0#64) = _
    rw [BitVec.xor_zero]
  · have g1 : z &&& 1 = 1 := by
      apply Int64.toInt_inj.mp
      have : (z &&& 1).toInt ≠ 0 := fun h => g (Int64.toInt_inj.mp (by rw [h]; rfl))
      rw [hm] at this ⊢
      rw [show (1 : Int64).toInt = 1 by decide]
      omega
    rw [if_neg (fun h => g ((lg_cmp_eq _ _).mp h)), g1]
    congr 1
    apply Int64.toBitVec_inj.mp
    rw [Int64.toBitVec_xor, show (-1 : Int64).toBitVec = BitVec.allOnes 64 by decide, BitVec.xor_allOnes, Int64.toBitVec_sub, Int64.toBitVec_neg, BitVec.neg_eq_not_add, show (1 : Int64).toBitVec = 1#64 by decide, BitVec.add_sub_cancel]
theorem sim_real32 (h2 : ls.toInt ≤ 6000) (hbb : ∀ k : Nat, (k : Int) < ls.toInt → lm k = lc k) (first kd k0 : Int32) (h0 : 0 ≤ at_.toInt) (h1 : at_.toInt ≤ ls.toInt) : REA at_ ls kd (fX1_scanReal at_ 0 fa k0 0 0 lc ls kd 5 32) (fX7_readReal lm ls at_ 0 pl first 5 32) :=
  rea_loop h2 hbb 5 32 first kd (Or.inl ⟨rfl, rfl⟩) 5 FU FU at_ fa pl 0 0 0 0 (by unfold FU; omega) (by unfold FU; omega) (by decide) (by decide) h0 h1 (Or.inr ⟨rfl, rfl, Or.inl rfl, by decide, by decide⟩)
theorem sim_real64 (h2 : ls.toInt ≤ 6000) (hbb : ∀ k : Nat, (k : Int) < ls.toInt → lm k = lc k) (first kd k0 : Int32) (h0 : 0 ≤ at_.toInt) (h1 : at_.toInt ≤ ls.toInt) : REA at_ ls kd (fX1_scanReal at_ 0 fa k0 0 0 lc ls kd 10 64) (fX7_readReal lm ls at_ 0 pl first 10 64) :=
  rea_loop h2 hbb 10 64 first kd (Or.inr ⟨rfl, rfl⟩) 10 FU FU at_ fa pl 0 0 0 0 (by unfold FU; omega) (by unfold FU; omega) (by decide) (by decide) h0 h1 (Or.inl ⟨rfl, rfl, Or.inl rfl⟩)
end RR2
