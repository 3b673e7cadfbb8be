/-! bytes of an item: taken by the reference -/
section Tk
variable {kinds starts lengths depths b_cells openKinds : Nat → Int32} {numbers : Nat → Int64} {b_size b_tooLong size depth named : Int32} {mk ms ml mw mp mi mb mo mm md : Nat → Int32} {mn : Nat → Int64} {ni nc nh ti tc th tb tz lc lm : Nat → Int32} {nz tz0 ls fa pl first kd st le to ov fl at_ : Int32} {nu : Int64} {gt : Int32}
theorem z10000 : (10000 : Int32).toInt = 10000 := by decide
theorem rtake {b : Int32} (h0 : 0 ≤ gt.toInt) (h1 : gt.toInt < 6000) : fX7_take mp gt b = some (upd mp (10000 + gt.toInt.toNat) (b8 (b8 b)), gt + 1) := by
  have e : (10000 + gt).toInt = 10000 + gt.toInt := by rw [zadd (by rw [z10000]; omega) (by rw [z10000]; omega), z10000]
  unfold fX7_take bX7_take_0
  rw [if_pos (by show 0 ≤ _ ∧ _ < _; rw [e]; omega), zcl, e, show (10000 + gt.toInt).toNat = 10000 + gt.toInt.toNat by omega]
  rfl
/-- what stands in the scratch: the bytes from p on -/
def SCR (lm : Nat → Int32) (p g : Int) (mp mp' : Nat → Int32) : Prop := (∀ k : Nat, k < 10000 → mp' k = mp k) ∧ ∀ j : Nat, (j : Int) < g → mp' (10000 + j) = lm (p.toNat + j)
theorem SCR.more {p g : Int} {mp1 : Nat → Int32} (h : SCR lm p g mp mp1) (hp : 0 ≤ p) (hg : 0 ≤ g) (hb : b8 (lm (p + g).toNat) = lm (p + g).toNat) : SCR lm p (g + 1) mp (upd mp1 (10000 + g.toNat) (b8 (b8 (lm (p + g).toNat &&& 255)))) := by
  refine ⟨fun k hk => ?_, fun j hj => ?_⟩
  · rw [upd_ne (by omega)]; exact h.1 k hk
  · by_cases gj : (j : Int) = g
    · rw [show 10000 + j = 10000 + g.toNat by omega, upd_same, b8_b8, b8_and, hb]
      congr 1; omega
    · rw [upd_ne (by omega)]; exact h.2 j (by omega)
/-- so many bytes, from at_ on; g are there already -/
theorem rmany (h2 : ls.toInt ≤ 6000) (hbb : ∀ k : Nat, (k : Int) < ls.toInt → b8 (lm k) = lm k) (many : Int32) (mp : Nat → Int32) (p : Int) (hp : 0 ≤ p) : ∀ (n fuel : Nat) (at_ pl gt : Int32) (mp1 : Nat → Int32) (x : Int32), n + 1 < fuel → at_.toInt + n = ls.toInt → 0 ≤ gt.toInt → at_.toInt = p + gt.toInt → x = gt → gt.toInt ≤ many.toInt → SCR lm p gt.toInt mp mp1 → ∃ mp' at' f' pl' gt', bX7_takeMany_2 fuel lm mp1 ls at_ 0 pl gt many x = some (mp', at', f', pl', gt') ∧ (∀ k : Nat, k < 10000 → mp' k = mp k) ∧ ((p + many.toInt ≤ ls.toInt ∧ f' = 0 ∧ gt' = many ∧ at'.toInt = p + many.toInt ∧ SCR lm p many.toInt mp mp') ∨ (ls.toInt < p + many.toInt ∧ 0 < f'.toInt)) := by
  intro n
  induction n with
  | zero =>
    intro fuel at_ pl gt mp1 x hf hn h0 ha hx hm hS
    obtain ⟨f, rfl⟩ : ∃ f, fuel = f + 1 + 1 := ⟨fuel - 2, by omega⟩
    subst hx
    by_cases g : many.toInt ≤ x.toInt
    · have e : many = x := zeq.mpr (by omega)
      subst e
      rw [bX7_takeMany_2, if_pos (by rw [zle]; omega)]
      exact ⟨_, _, _, _, _, rfl, hS.1, Or.inl ⟨by omega, rfl, rfl, by omega, hS⟩⟩
    · have he : at_ = ls := zeq.mpr (by omega)
      rw [bX7_takeMany_2, if_neg (by rw [zle]; omega), if_pos rfl, rnext_end he, Option.bind_some]
      dsimp only
      rw [if_neg (show ¬ ((2 : Int32) = 0) by decide)]
      unfold bX7_takeMany_31
      dsimp only
      rw [bX7_takeMany_2]
      by_cases g2 : many ≤ x + 1
      · rw [if_pos g2]
        exact ⟨_, _, _, _, _, rfl, hS.1, Or.inr ⟨by omega, by decide⟩⟩
      · rw [if_neg g2, if_neg (show ¬ ((2 : Int32) = 0) by decide)]
        exact ⟨_, _, _, _, _, rfl, hS.1, Or.inr ⟨by omega, by decide⟩⟩
  | succ n ih =>
    intro fuel at_ pl gt mp1 x hf hn h0 ha hx hm hS
    obtain ⟨f, rfl⟩ : ∃ f, fuel = f + 1 := ⟨fuel - 1, by omega⟩
    subst hx
    by_cases g : many.toInt ≤ x.toInt
    · have e : many = x := zeq.mpr (by omega)
      subst e
      rw [bX7_takeMany_2, if_pos (by rw [zle]; omega)]
      exact ⟨_, _, _, _, _, rfl, hS.1, Or.inl ⟨by omega, rfl, rfl, by omega, hS⟩⟩
    · have ea : (at_ + 1).toInt = at_.toInt + 1 := by rw [zadd (by rw [z1]; omega) (by rw [z1]; omega), z1]
      have eg : (x + 1).toInt = x.toInt + 1 := by rw [zadd (by rw [z1]; omega) (by rw [z1]; omega), z1]
      rw [bX7_takeMany_2, if_neg (by rw [zle]; omega), if_pos rfl, rnext_ok (by omega) (by omega) h2, Option.bind_some]
      dsimp only
      rw [if_pos rfl, rtake h0 (by omega), Option.bind_some]
      unfold bX7_takeMany_31
      dsimp only
      have hS' := hS.more hp h0 (by rw [show (p + x.toInt).toNat = at_.toInt.toNat by omega]; exact hbb _ (by omega))
      rw [show (p + x.toInt).toNat = at_.toInt.toNat by omega] at hS'
      exact ih f (at_ + 1) pl (x + 1) _ (x + 1) (by omega) (by omega) (by omega) (by omega) rfl (by omega) (by rw [eg]; exact hS')
/-- up to FC -/
theorem rlong (h2 : ls.toInt ≤ 6000) (hbb : ∀ k : Nat, (k : Int) < ls.toInt → b8 (lm k) = lm k) (hcl : ∀ k : Nat, (k : Int) < ls.toInt → lm k = lc k) (mp : Nat → Int32) (p : Int) (hp : 0 ≤ p) (fm st : Int32) (hst : st.toInt = p) : ∀ (n fuel fr : Nat) (at_ pl fa le gt : Int32) (mp1 : Nat → Int32), n + 1 < fuel → n + 1 < fr → at_.toInt + n = ls.toInt → 0 ≤ gt.toInt → at_.toInt = p + gt.toInt → SCR lm p gt.toInt mp mp1 → ∃ at' f fa' le', bX1_scanLong_13 fuel at_ 0 fa fm st le lc ls = some (at', f, fa', fm, st, le') ∧ ∃ mp' at2 f2 pl' gt', ((fX7_next lm ls at_ 0 pl).bind fun v6 => bX7_takeLong_5 fr lm mp1 ls v6.2.1 v6.2.2.1 v6.2.2.2 gt v6.1) = some (mp', at2, f2, pl', gt') ∧ (∀ k : Nat, k < 10000 → mp' k = mp k) ∧ ((f ≠ 0 ∧ 0 < f2.toInt) ∨ (f = 0 ∧ f2 = 0 ∧ at2 = at' ∧ gt' = le' ∧ 0 ≤ le'.toInt ∧ p + le'.toInt < at'.toInt ∧ at'.toInt ≤ ls.toInt ∧ SCR lm p le'.toInt mp mp')) := by
  intro n
  induction n with
  | zero =>
    intro fuel fr at_ pl fa le gt mp1 hf hfr hn h0 ha hS
    obtain ⟨f, rfl⟩ : ∃ f, fuel = f + 1 := ⟨fuel - 1, by omega⟩
    obtain ⟨g, rfl⟩ : ∃ g, fr = g + 1 := ⟨fr - 1, by omega⟩
    have he : at_ = ls := zeq.mpr (by omega)
    unfold bX1_scanLong_13 fX2_size bX2_size_0 bX1_scanLong_57
    rw [Option.bind_some, if_pos (by rw [zle]; omega), ctake_end he (by omega) h2]
    refine ⟨_, _, _, _, rfl, ?_⟩
    rw [rnext_end he, Option.bind_some]
    dsimp only
    rw [bX7_takeLong_5, if_neg (show ¬ ((2 : Int32) = 0) by decide)]
    exact ⟨_, _, _, _, _, rfl, hS.1, Or.inl ⟨by decide, by decide⟩⟩
  | succ n ih =>
    intro fuel fr at_ pl fa le gt mp1 hf hfr hn h0 ha hS
    obtain ⟨f, rfl⟩ : ∃ f, fuel = f + 1 := ⟨fuel - 1, by omega⟩
    obtain ⟨g, rfl⟩ : ∃ g, fr = g + 1 := ⟨fr - 1, by omega⟩
    have ea : (at_ + 1).toInt = at_.toInt + 1 := by rw [zadd (by rw [z1]; omega) (by rw [z1]; omega), z1]
    have eg : (gt + 1).toInt = gt.toInt + 1 := by rw [zadd (by rw [z1]; omega) (by rw [z1]; omega), z1]
    rw [rnext_ok (by omega) (by omega) h2, Option.bind_some]
    dsimp only
    rw [bX7_takeLong_5, if_pos rfl]
    rw [bX1_scanLong_13]
    unfold fX2_size bX2_size_0
    rw [Option.bind_some, if_neg (by rw [zle]; omega), cat h2, Option.bind_some, catv_in (by omega) (by omega), zcl, ← hcl at_.toInt.toNat (by omega)]
    by_cases gb : lm at_.toInt.toNat &&& 255 = 252
    · rw [if_pos gb, if_pos gb]
      unfold bX1_scanLong_57
      rw [ctake_ok (by omega) (by omega) h2]
      have el : at_ - st = gt := by rw [zeq, zsub (by omega) (by omega)]; omega
      refine ⟨_, _, _, _, rfl, _, _, _, _, _, rfl, hS.1, Or.inr ⟨rfl, rfl, rfl, el.symm, ?_, ?_, by show (at_ + 1).toInt ≤ _; omega, ?_⟩⟩
      · rw [el]; exact h0
      · rw [el]; show _ < (at_ + 1).toInt; omega
      · rw [el]; exact hS
    · rw [if_neg gb, if_neg gb, rtake h0 (by omega), Option.bind_some]
      dsimp only
      have hS' := hS.more hp h0 (by rw [show (p + gt.toInt).toNat = at_.toInt.toNat by omega]; exact hbb _ (by omega))
      rw [show (p + gt.toInt).toNat = at_.toInt.toNat by omega] at hS'
      exact ih f g (at_ + 1) pl fa le (gt + 1) _ (by omega) (by omega) (by omega) (by omega) (by omega) (by rw [eg]; exact hS')
/-- the scratch behind the document's bytes, then the item -/
theorem rtaken {x : Int32} (hb0 : 0 ≤ (mb 1).toInt) (hg1 : (mb 1).toInt + gt.toInt ≤ 5000) : ∀ (n fuel : Nat) (mp1 : Nat → Int32) (k : Int32), n < fuel → 0 ≤ k.toInt → k.toInt + n = gt.toInt → ∃ mp', bX7_addTaken_2 fuel mk mn ms ml mw mp1 mi mb mo mm md gt x k = ((fX7_add mk mn ms ml mw mi mb mo mm md 1 x 0 gt).bind fun v2 => some (v2.1, v2.2.1, v2.2.2.1, v2.2.2.2.1, v2.2.2.2.2.1, mp', v2.2.2.2.2.2.1, v2.2.2.2.2.2.2.1, v2.2.2.2.2.2.2.2.1, v2.2.2.2.2.2.2.2.2.1, v2.2.2.2.2.2.2.2.2.2)) ∧ (∀ j : Nat, ((j : Int) < 5000 + (mb 1).toInt + k.toInt ∨ 5000 + (mb 1).toInt + gt.toInt ≤ j) → mp' j = mp1 j) ∧ ∀ j : Nat, k.toInt ≤ j → (j : Int) < gt.toInt → mp' (5000 * 1 + ((mb 1).toInt.toNat + j)) = b8 (mp1 (10000 + j)) := by
  have c1 : Int32.toNatClampNeg 1 = 1 := by decide
  have i12 : ix 1 2 := by decide
  intro n
  induction n with
  | zero =>
    intro fuel mp1 k hf h0 hk
    obtain ⟨f, rfl⟩ : ∃ f, fuel = f + 1 := ⟨fuel - 1, by omega⟩
    refine ⟨mp1, ?_, fun _ _ => rfl, fun j h1 h2 => by omega⟩
    rw [bX7_addTaken_2, if_pos (by rw [zle]; omega)]
  | succ n ih =>
    intro fuel mp1 k hf h0 hk
    obtain ⟨f, rfl⟩ : ∃ f, fuel = f + 1 := ⟨fuel - 1, by omega⟩
    have e1 : (k + 1).toInt = k.toInt + 1 := by rw [zadd (by rw [z1]; omega) (by rw [z1]; omega), z1]
    have e2 : (10000 + k).toInt = 10000 + k.toInt := by rw [zadd (by rw [z10000]; omega) (by rw [z10000]; omega), z10000]
    have e3 : (5000 + mb 1).toInt = 5000 + (mb 1).toInt := by rw [zadd (by rw [z5000]; omega) (by rw [z5000]; omega), z5000]
    have e4 : (5000 + mb 1 + k).toInt = 5000 + (mb 1).toInt + k.toInt := by rw [zadd (by rw [e3]; omega) (by rw [e3]; omega), e3]
    rw [bX7_addTaken_2, if_neg (by rw [zle]; omega), if_pos i12, c1, if_pos (by show 0 ≤ _ ∧ _ < _; rw [e2]; omega), if_pos (by show 0 ≤ _ ∧ _ < _; rw [e4]; omega), zcl, zcl, e2, e4]
    obtain ⟨mp', g1, g2, g3⟩ := ih f (upd mp1 (5000 + (mb 1).toInt + k.toInt).toNat (b8 (mp1 (10000 + k.toInt).toNat))) (k + 1) (by omega) (by omega) (by omega)
    rw [e1] at g2 g3
    refine ⟨mp', g1, fun j hj => ?_, fun j hj1 hj2 => ?_⟩
    · rw [g2 j (by omega), upd_ne (by omega)]
    · by_cases gj : (j : Int) = k.toInt
      · rw [g2 _ (by omega), show 5000 * 1 + ((mb 1).toInt.toNat + j) = (5000 + (mb 1).toInt + k.toInt).toNat by omega, upd_same, show (10000 + k.toInt).toNat = 10000 + j by omega]
      · rw [g3 j (by omega) hj2, upd_ne (by omega)]
end Tk
