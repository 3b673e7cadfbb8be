/-! texts and bytes that are typed; loop -/
section Typed
variable {kinds starts lengths depths b_cells openKinds tc tm f_cells C : Nat → Int32} {numbers : Nat → Int64} {b_size b_tooLong size depth named ts tt f_size p q : Int32} {mk ms ml mw mp mi mb mo mm md mp' : Nat → Int32} {mn : Nat → Int64} {x n : Int32} {v : Int64} {d f_cap : Nat}
theorem DB.ext (h : DB d b_cells b_size mp) (hb : 0 ≤ b_size.toInt) (hn : 0 ≤ n.toInt) (hbn : b_size.toInt + n.toInt ≤ 5000) (h1 : ∀ k : Nat, (k : Int) < b_size.toInt → C k = b_cells k) (h2 : ∀ k : Nat, (k : Int) < b_size.toInt → mp' (5000 * d + k) = mp (5000 * d + k)) (h3 : ∀ j : Nat, (j : Int) < n.toInt → mp' (5000 * d + (b_size.toInt.toNat + j)) = C (b_size.toInt.toNat + j) ∧ b8 (C (b_size.toInt.toNat + j)) = C (b_size.toInt.toNat + j)) : DB d C (b_size + n) mp' := by
  intro k hk
  rw [zadd (by omega) (by omega)] at hk
  by_cases g : (k : Int) < b_size.toInt
  · rw [h2 k g, h1 k g]; exact h k g
  · have := h3 (k - b_size.toInt.toNat) (by omega)
    rw [show b_size.toInt.toNat + (k - b_size.toInt.toNat) = k by omega] at this
    exact this
theorem cextq (hs : 0 ≤ size.toInt) (hs2 : size.toInt < 1500) (hf : f_size.toInt ≤ f_cap) (hp : 0 ≤ p.toInt) (hq : 0 ≤ q.toInt) (hpq : p.toInt + q.toInt < 2147483648) (hb : 0 ≤ b_size.toInt) (hbq : b_size.toInt + q.toInt ≤ 5000) : ∃ L C, fX0_extendBy (upd starts size.toInt.toNat b_size) (upd lengths size.toInt.toNat 0) b_cells b_size 0 (size + 1) f_cap f_cells f_size p q = some (L, C, b_size + q, 0) ∧ L size.toInt.toNat = q ∧ (∀ i, i ≠ size.toInt.toNat → L i = lengths i) ∧ (∀ k : Nat, (k : Int) < b_size.toInt → C k = b_cells k) ∧ ∀ j : Nat, (j : Int) < q.toInt → C (b_size.toInt.toNat + j) = b8 (catv f_cells f_size (p + nI j)) := by
  have e1 : (size + 1).toInt = size.toInt + 1 := by rw [zadd (by rw [z1]; omega) (by rw [z1]; omega), z1]
  have e2 : (size + 1).toInt.toNat - 1 = size.toInt.toNat := by omega
  have e3 : (p + q).toInt = p.toInt + q.toInt := zadd (by omega) (by omega)
  have e4 : nI q.toInt.toNat = q := (zNeg (by omega)).symm
  obtain ⟨L, C, g1, g2, g3, g4, g5⟩ := cext (starts := upd starts size.toInt.toNat b_size) (size := size + 1) (f_cells := f_cells) (by omega) (by omega) hf p q q.toInt.toNat FU p (upd lengths size.toInt.toNat 0) b_cells b_size (by unfold FU; omega) hp (by omega) hb (by omega)
  rw [e2, upd_same, upd_same, e4] at g3
  rw [e2] at g2
  rw [e4] at g1
  refine ⟨L, C, g1, ?_, fun i hi => ?_, g4, fun j hj => g5 j (by omega)⟩
  · rw [g3]
    by_cases g : q.toInt.toNat = 0
    · rw [if_pos g, zeq, z0]; omega
    · have e5 : (b_size + q).toInt = b_size.toInt + q.toInt := zadd (by omega) (by omega)
      rw [if_neg g, zeq, zsub (by omega) (by omega), e5]; omega
  · rw [g2 i hi, upd_ne hi]
/-- the reference's offer -/
theorem roffer (hb : 0 ≤ (mb 0).toInt) (hts : (mb 0).toInt + ts.toInt ≤ 5000) (hts2 : ts.toInt ≤ 1000) : ∀ (n fuel : Nat) (x1 : Int32) (mp : Nat → Int32), n < fuel → 0 ≤ x1.toInt → x1.toInt + n = ts.toInt → ∃ mp', bX7_offer_21 fuel tm mp mb ts x1 = some (1, mp') ∧ (∀ k : Nat, ((k : Int) < (mb 0).toInt + x1.toInt ∨ (mb 0).toInt + ts.toInt ≤ k) → mp' k = mp k) ∧ ∀ j : Nat, j < n → mp' ((mb 0).toInt.toNat + (x1.toInt.toNat + j)) = b8 (tm (x1.toInt.toNat + j)) := by
  have c0 : Int32.toNatClampNeg 0 = 0 := by decide
  intro n
  induction n with
  | zero =>
    intro fuel x1 mp hf h0 h1
    obtain ⟨f, rfl⟩ : ∃ f, fuel = f + 1 := ⟨fuel - 1, by omega⟩
    rw [bX7_offer_21, if_pos (by rw [zle]; omega)]
    exact ⟨mp, rfl, fun _ _ => rfl, fun j hj => by omega⟩
  | succ n ih =>
    intro fuel x1 mp hf h0 h1
    obtain ⟨f, rfl⟩ : ∃ f, fuel = f + 1 := ⟨fuel - 1, by omega⟩
    have e1 : (x1 + 1).toInt = x1.toInt + 1 := by rw [zadd (by rw [z1]; omega) (by rw [z1]; omega), z1]
    have e2 : (mb 0 + x1).toInt = (mb 0).toInt + x1.toInt := zadd (by omega) (by omega)
    have i1 : ix x1 1000 := ⟨h0, by omega⟩
    have i2 : ix (mb 0 + x1) 16000 := by
      show 0 ≤ _ ∧ _ < _
      rw [e2]; omega
    rw [bX7_offer_21, if_neg (by rw [zle]; omega), if_pos i02, c0, if_pos i1, if_pos i2]
    obtain ⟨mp', g1, g2, g3⟩ := ih f (x1 + 1) (upd mp (mb 0 + x1).toNatClampNeg (b8 (tm x1.toNatClampNeg))) (by omega) (by omega) (by omega)
    rw [e1] at g2 g3
    have e3 : (mb 0 + x1).toNatClampNeg = (mb 0).toInt.toNat + x1.toInt.toNat := by rw [zcl, e2]; omega
    refine ⟨mp', g1, fun k hk => ?_, fun j hj => ?_⟩
    · rw [g2 k (by omega), upd_ne (by rw [e3]; omega)]
    · by_cases hj0 : j = 0
      · subst hj0
        rw [Nat.add_zero, g2 _ (by omega), ← e3, upd_same]; rfl
      · have := g3 (j - 1) (by omega)
        rw [show (x1.toInt + 1).toNat + (j - 1) = x1.toInt.toNat + j by omega] at this
        exact this
/-- class and reference: are the typed bytes a text -/
theorem typed_text (hT : RR 1000 tc ts tt tm ts) (hb : 0 ≤ b_size.toInt) (hts : b_size.toInt + ts.toInt ≤ 5000) (h3 : ∀ j : Nat, (j : Int) < ts.toInt → mp' (b_size.toInt.toNat + j) = b8 (tm j)) : ∃ b : Int32, fX4_isText 1000 tc ts 0 ts = some b ∧ fX7_isText mp' b_size ts = some b ∧ (b = 0 ∨ b = 1) := by
  obtain ⟨t1, t2, t3, t4, t5⟩ := hT
  have e1 : ((0 : Int32) + ts).toInt = ts.toInt := by rw [Int32.zero_add]
  have e2 : (b_size + ts).toInt = b_size.toInt + ts.toInt := zadd (by omega) (by omega)
  unfold fX4_isText bX4_isText_0 fX7_isText bX7_isText_0
  refine text_eq (s := ts) t4 (by omega) (0 + ts) (by omega) b_size ts (by omega) ts.toInt.toNat FU 0 b_size (by unfold FU; omega) (by decide) hb (by rw [z0]; omega) (by omega) (fun j hj => ?_)
  obtain ⟨u1, u2⟩ := t5 j (by omega)
  rw [h3 j (by omega), z0, show (0 : Int).toNat + j = j by omega, u1, u2]
theorem ctyped56 (hs : 0 ≤ size.toInt) (hs2 : size.toInt < 1500) (hd : 0 ≤ depth.toInt) (hd2 : depth.toInt ≤ 30) (hx : x = 3 ∨ x = 4 ∨ x = 10) (ht0 : 0 ≤ ts.toInt) (ht1 : ts.toInt ≤ 1000) (hb : 0 ≤ b_size.toInt) (hbn : b_size.toInt + ts.toInt ≤ 5000) : ∃ L C, bX6_addTyped_56 tc ts tt kinds starts lengths depths numbers b_cells b_size 0 openKinds size depth named x = some (size + 1, 0, 0, upd kinds size.toInt.toNat x, upd starts size.toInt.toNat b_size, L, upd depths size.toInt.toNat depth, vp_updL numbers size.toInt.toNat 0, C, b_size + ts, 0, openKinds, size + 1, depth, (if x = 10 then 1 else 0)) ∧ L size.toInt.toNat = ts ∧ (∀ i, i ≠ size.toInt.toNat → L i = lengths i) ∧ (∀ k : Nat, (k : Int) < b_size.toInt → C k = b_cells k) ∧ ∀ j : Nat, (j : Int) < ts.toInt → C (b_size.toInt.toNat + j) = b8 (catv tc ts (0 + nI j)) := by
  have n11 : x ≠ 11 := by rcases hx with rfl | rfl | rfl <;> decide
  have n5 : ¬ (x = 5 ∨ x = 6) := by rcases hx with rfl | rfl | rfl <;> decide
  obtain ⟨L, C, g1, g2, g3, g4, g5⟩ := cextq (starts := starts) (lengths := lengths) (b_cells := b_cells) (f_cap := 1000) (f_cells := tc) (f_size := ts) (p := 0) (q := ts) hs hs2 ht1 (by decide) ht0 (by rw [z0]; omega) hb hbn
  refine ⟨L, C, ?_, g2, g3, g4, g5⟩
  unfold bX6_addTyped_56 fX2_size bX2_size_0 fX2_clear bX2_clear_0 fX0_size bX0_size_0
  rw [cput hs hs2 hd hd2 (fun h => absurd h n5) (fun h => absurd h n11), Option.bind_some, Option.bind_some]
  simp only [if_neg n11, if_neg n5, zcl]
  rw [g1]
  rfl
end Typed
section Typed2
variable {kinds starts lengths depths b_cells openKinds tc tm : Nat → Int32} {numbers : Nat → Int64} {b_size b_tooLong size depth named ts tt : Int32} {mk ms ml mw mp mi mb mo mm md : Nat → Int32} {mn : Nat → Int64} {x : Int32}
theorem RR.zero {cap : Nat} {c m : Nat → Int32} : RR cap c 0 0 m 0 := ⟨rfl, rfl, by decide, by rw [z0]; omega, fun k hk => by rw [z0] at hk; omega⟩
theorem DR.pool (hR : DR 0 kinds starts lengths depths numbers b_cells b_size b_tooLong openKinds size depth named mk mn ms ml mw mp mi mb mo mm md) {mp' : Nat → Int32} (h : ∀ k : Nat, (k : Int) < b_size.toInt → mp' k = mp k) : DR 0 kinds starts lengths depths numbers b_cells b_size b_tooLong openKinds size depth named mk mn ms ml mw mp' mi mb mo mm md := by
  refine ⟨hR.1, hR.2.1, fun k hk => ?_, hR.2.2.2⟩
  have := hR.2.2.1 k hk
  rw [Nat.mul_zero, Nat.zero_add] at this ⊢
  rw [h k hk]; exact this
/-- what the typed bytes become on both sides -/
theorem typed_both (hR : DR 0 kinds starts lengths depths numbers b_cells b_size b_tooLong openKinds size depth named mk mn ms ml mw mp mi mb mo mm md) (hT : RR 1000 tc ts tt tm ts) (hx : x = 3 ∨ x = 4 ∨ x = 10) (hs : size.toInt < 1500) (hbn : b_size.toInt + ts.toInt ≤ 5000) {mp' : Nat → Int32} (h2 : ∀ k : Nat, (k : Int) < b_size.toInt → mp' k = mp k) (h3 : ∀ j : Nat, (j : Int) < ts.toInt → mp' (b_size.toInt.toNat + j) = b8 (tm j)) (hok : (x = 10 → nmc openKinds depth named) ∧ (x ≠ 10 → ¬ (0 < size.toInt ∧ depth.toInt = 0))) : ∃ r r', bX6_addTyped_56 tc ts tt kinds starts lengths depths numbers b_cells b_size b_tooLong openKinds size depth named x = some r ∧ fX7_add mk mn ms ml mw mi mb mo mm md 0 x 0 ts = some r' ∧ r.1 = r'.2.2.2.2.2.1 (Int32.toNatClampNeg 0) ∧ r.2.1 = 0 ∧ r.2.2.1 = 0 ∧ DR 0 r.2.2.2.1 r.2.2.2.2.1 r.2.2.2.2.2.1 r.2.2.2.2.2.2.1 r.2.2.2.2.2.2.2.1 r.2.2.2.2.2.2.2.2.1 r.2.2.2.2.2.2.2.2.2.1 r.2.2.2.2.2.2.2.2.2.2.1 r.2.2.2.2.2.2.2.2.2.2.2.1 r.2.2.2.2.2.2.2.2.2.2.2.2.1 r.2.2.2.2.2.2.2.2.2.2.2.2.2.1 r.2.2.2.2.2.2.2.2.2.2.2.2.2.2 r'.1 r'.2.1 r'.2.2.1 r'.2.2.2.1 r'.2.2.2.2.1 mp' r'.2.2.2.2.2.1 r'.2.2.2.2.2.2.1 r'.2.2.2.2.2.2.2.1 r'.2.2.2.2.2.2.2.2.1 r'.2.2.2.2.2.2.2.2.2 := by
  obtain ⟨a1, a2, a3, a4, a5, a6, a7, a8, a9, a10, a11, a12⟩ := id hR.1
  obtain ⟨t1, t2, t3, t4, t5⟩ := id hT
  subst a4
  obtain ⟨L, C, g1, g2, g3, g4, g5⟩ := ctyped56 (tc := tc) (tt := tt) (kinds := kinds) (starts := starts) (lengths := lengths) (depths := depths) (numbers := numbers) (b_cells := b_cells) (openKinds := openKinds) (named := named) a5 hs a9 a10 hx t3 t4 a7 hbn
  have hB : DB 0 C (b_size + ts) mp' := by
    refine hR.2.2.1.ext a7 t3 hbn g4 (fun k hk => ?_) (fun j hj => ?_)
    · rw [Nat.mul_zero, Nat.zero_add]; exact h2 k hk
    · obtain ⟨u1, u2⟩ := t5 j hj
      rw [Nat.mul_zero, Nat.zero_add, h3 j hj, g5 j hj, Int32.zero_add, catv_in (by rw [znI (by omega)]; omega) (by rw [znI (by omega)]; omega), nI_clamp (by omega), b8_and, b8_b8, u1, u2]
      exact ⟨rfl, rfl⟩
  have hL2 : ∀ i : Nat, (i : Int) < size.toInt → L i = lengths i := fun i hi => g3 i (by omega)
  by_cases hx10 : x = 10
  · subst hx10
    obtain ⟨mm', e1, e2, e3⟩ := pair_name (v := 0) (n := ts) (L := L) (C := C) (mp' := mp') hR (by omega) (hok.1 rfl) hs t3 hbn g2 hL2 hB
    rw [nI_0] at e1 e3
    refine ⟨_, _, g1, e1, ?_, rfl, rfl, e3⟩
    show size + 1 = upd mi 0 (mi 0 + 1) 0
    rw [upd_same, a1]
  · have hx' : x = 3 ∨ x = 4 := by rcases hx with h | h | h; exact Or.inl h; exact Or.inr h; exact absurd h hx10
    have n5 : ¬ (x = 5 ∨ x = 6) := by rcases hx' with rfl | rfl <;> decide
    obtain ⟨mo', mm', md', e1, e2, e3, e4⟩ := pair_value (v := 0) (x := x) (n := ts) (L := L) (C := C) (mp' := mp') hR (by omega) (hok.2 hx10) hs t3 hbn (fun h => absurd h n5) (by rcases hx' with rfl | rfl <;> decide) (by rcases hx' with rfl | rfl <;> decide) g2 hL2 hB
    rw [nI_0] at e1 e4
    rw [if_neg n5, if_neg n5] at e4
    rw [if_neg hx10] at g1
    refine ⟨_, _, g1, e1, ?_, rfl, rfl, e4⟩
    show size + 1 = upd mi 0 (mi 0 + 1) 0
    rw [upd_same, a1]
end Typed2
