/-! the tables when a document is written -/
/-- a place that can be told -/
def told (p : Nat) : Prop := p % 256 < 254
def TW (t : Nat) (ds : Int32) (S : Nat → Nat → Prop) (B : Int32 → Nat) (items chain heads : Nat → Int32) (sz : Int32) (tb tz : Nat → Int32) : Prop :=
  tz t = sz ∧ 0 ≤ sz.toInt ∧ sz.toInt ≤ 1024 ∧
  (∀ p : Nat, (p : Int) < sz.toInt → tb (1024 * t + p) = items p ∧ 0 ≤ (items p).toInt ∧ (items p).toInt < ds.toInt) ∧
  (∀ b : Nat, b < 256 → heads b = -1 ∨ (0 ≤ (heads b).toInt ∧ (heads b).toInt < sz.toInt ∧ told (heads b).toInt.toNat ∧ B (items (heads b).toInt.toNat) = b)) ∧
  (∀ p : Nat, (p : Int) < sz.toInt → told p → chain p = -1 ∨ (0 ≤ (chain p).toInt ∧ (chain p).toInt < p ∧ told (chain p).toInt.toNat ∧ B (items (chain p).toInt.toNat) = B (items p))) ∧
  (∀ p : Nat, (p : Int) < sz.toInt → told p → (p : Int) ≤ (heads (B (items p))).toInt) ∧
  (∀ p q : Nat, p < q → (q : Int) < sz.toInt → told p → told q → B (items p) = B (items q) → (p : Int) ≤ (chain q).toInt) ∧
  (∀ p q : Nat, p < q → (q : Int) < sz.toInt → told p → told q → ¬ S (items p).toInt.toNat (items q).toInt.toNat)
section Tab
variable {kinds starts lengths depths b_cells openKinds : Nat → Int32} {numbers : Nat → Int64} {b_size b_tooLong size depth named : Int32} {mk ms ml mw mp mi mb mo mm md : Nat → Int32} {mn : Nat → Int64} {t : Nat} {items chain heads tb tz : Nat → Int32} {sz : Int32}
theorem fill_loop {n : Nat} (hn : n ≤ 1024) : ∀ (m fuel : Nat) (a : Nat → Int32) (x : Int32), m < fuel → 0 ≤ x.toInt → x.toInt + m = n → ∃ a', bJ7_fill_53178_5 fuel n a (-1) x (nI n) = some a' ∧ ∀ k : Nat, ((k : Int) < x.toInt → a' k = a k) ∧ (x.toInt ≤ k → k < n → a' k = -1) := by
  intro m
  induction m with
  | zero =>
    intro fuel a x hf hx hm
    obtain ⟨f, rfl⟩ : ∃ f, fuel = f + 1 := ⟨fuel - 1, by omega⟩
    refine ⟨a, ?_, fun k => ⟨fun _ => rfl, fun h h2 => by omega⟩⟩
    rw [bJ7_fill_53178_5, if_pos (by rw [zle, znI (by omega)]; omega)]
  | succ m ih =>
    intro fuel a x hf hx hm
    obtain ⟨f, rfl⟩ : ∃ f, fuel = f + 1 := ⟨fuel - 1, by omega⟩
    have e1 : (x + 1).toInt = x.toInt + 1 := by rw [zadd (by rw [z1]; omega) (by rw [z1]; omega), z1]
    obtain ⟨a', h1, h2⟩ := ih f (upd a x.toNatClampNeg (-1)) (x + 1) (by omega) (by omega) (by omega)
    refine ⟨a', ?_, fun k => ⟨fun h => ?_, fun h h3 => ?_⟩⟩
    · rw [bJ7_fill_53178_5, if_neg (by rw [zle, znI (by omega)]; omega), if_pos ⟨hx, by omega⟩]; exact h1
    · rw [(h2 k).1 (by omega), upd_ne (by rw [zcl]; omega)]
    · by_cases g : (k : Int) = x.toInt
      · rw [(h2 k).1 (by omega), show k = x.toNatClampNeg by rw [zcl]; omega, upd_same]
      · exact (h2 k).2 (by omega) h3
theorem cclear : ∃ h', fX3_clear heads sz = some (h', 0) ∧ ∀ k : Nat, k < 256 → h' k = -1 := by
  obtain ⟨a', h1, h2⟩ := fill_loop (n := 256) (by omega) 256 FU heads 0 (by unfold FU; omega) (by decide) (by rw [z0]; omega)
  refine ⟨a', ?_, fun k hk => (h2 k).2 (by rw [z0]; omega) hk⟩
  unfold fX3_clear bX3_clear_0 fJ7_fill_53178 bJ7_fill_53178_0
  rw [h1]; rfl
theorem TW.empty {ds : Int32} {S : Nat → Nat → Prop} {B : Int32 → Nat} (h1 : tz t = 0) (h2 : ∀ k : Nat, k < 256 → heads k = -1) : TW t ds S B items chain heads 0 tb tz := by
  refine ⟨h1, by decide, by decide, fun p hp => ?_, fun b hb => Or.inl (h2 b hb), fun p hp => ?_, fun p hp => ?_, fun p q _ hp => ?_, fun p q _ hp => ?_⟩ <;> (rw [z0] at hp; omega)
theorem ctold (p : Nat) (hp : p ≤ 1024) : fX3_canBeTold (nI p) = some (if p % 256 < 254 then 1 else 0) := by
  have e : (nI p &&& 255).toInt = (p % 256 : Nat) := by rw [zand255, znI (by omega)]; omega
  have z254 : (254 : Int32).toInt = 254 := by decide
  unfold fX3_canBeTold bX3_canBeTold_0
  by_cases g : p % 256 < 254
  · rw [if_neg (by rw [zle, e, z254]; omega), if_pos g]
  · rw [if_pos (by rw [zle, e, z254]; omega), if_neg g]
/-- the class's search -/
theorem cfind (hR : DR 0 kinds starts lengths depths numbers b_cells b_size b_tooLong openKinds size depth named mk mn ms ml mw mp mi mb mo mm md) (hT : TW t size (sameT starts lengths b_cells) (bkt starts lengths b_cells b_size size) items chain heads sz tb tz) {i : Int32} (h0 : 0 ≤ i.toInt) (h1 : i.toInt < size.toInt) : ∀ (n fuel : Nat) (x3 x4 : Int32), n < fuel → x3.toInt < n → 0 ≤ x4.toInt → (x3 = -1 ∨ (0 ≤ x3.toInt ∧ x3.toInt < sz.toInt ∧ told x3.toInt.toNat ∧ bkt starts lengths b_cells b_size size (items x3.toInt.toNat) = bkt starts lengths b_cells b_size size i ∧ x4.toInt + x3.toInt < sz.toInt)) → (∀ p : Nat, (p : Int) < sz.toInt → told p → x3.toInt < p → ¬ sameT starts lengths b_cells (items p).toInt.toNat i.toInt.toNat) → ∃ r, bX3_placeOf_17 fuel items chain heads sz starts lengths b_cells b_size size i x3 x4 = some r ∧ ((r = -1 ∧ ∀ p : Nat, (p : Int) < sz.toInt → told p → ¬ sameT starts lengths b_cells (items p).toInt.toNat i.toInt.toNat) ∨ (0 ≤ r.toInt ∧ r.toInt < sz.toInt ∧ told r.toInt.toNat ∧ sameT starts lengths b_cells (items r.toInt.toNat).toInt.toNat i.toInt.toNat)) := by
  obtain ⟨t1, t2, t3, t4, t5, t6, t7, t8, t9⟩ := hT
  have stop : ∀ (f : Nat) (x4 : Int32), (∀ p : Nat, (p : Int) < sz.toInt → told p → (-1 : Int) < p → ¬ sameT starts lengths b_cells (items p).toInt.toNat i.toInt.toNat) → ∃ r, bX3_placeOf_17 (f + 1) items chain heads sz starts lengths b_cells b_size size i (-1) x4 = some r ∧ ((r = -1 ∧ ∀ p : Nat, (p : Int) < sz.toInt → told p → ¬ sameT starts lengths b_cells (items p).toInt.toNat i.toInt.toNat) ∨ (0 ≤ r.toInt ∧ r.toInt < sz.toInt ∧ told r.toInt.toNat ∧ sameT starts lengths b_cells (items r.toInt.toNat).toInt.toNat i.toInt.toNat)) := by
    intro f x4 hall
    refine ⟨-1, ?_, Or.inl ⟨rfl, fun p hp ht => hall p hp ht (by omega)⟩⟩
    rw [bX3_placeOf_17]
    by_cases g : sz ≤ x4
    · rw [if_pos g]
    · rw [if_neg g, if_pos (by decide)]
  intro n
  induction n with
  | zero =>
    intro fuel x3 x4 hf hx hx4 hv hall
    obtain ⟨f, rfl⟩ : ∃ f, fuel = f + 1 := ⟨fuel - 1, by omega⟩
    rcases hv with rfl | hv
    · exact stop f x4 (by rw [zm1] at hall; exact hall)
    · omega
  | succ n ih =>
    intro fuel x3 x4 hf hx hx4 hv hall
    obtain ⟨f, rfl⟩ : ∃ f, fuel = f + 1 := ⟨fuel - 1, by omega⟩
    rcases hv with rfl | ⟨v1, v2, v3, v4, v5⟩
    · exact stop f x4 (by rw [zm1] at hall; exact hall)
    · obtain ⟨u1, u2, u3⟩ := t4 x3.toInt.toNat (by omega)
      have i3 : ix x3 1024 := ⟨v1, by omega⟩
      obtain ⟨r, r', s1, s2, s3, s4⟩ := same_both hR u2 u3 h0 h1
      rw [bX3_placeOf_17, if_neg (by rw [zle]; omega), if_neg (by rw [zlt, z0]; omega), if_neg (by rw [zle]; omega), if_pos i3, zcl, s1, Option.bind_some]
      by_cases g : r = 0
      · rw [if_pos g, if_pos i3]
        have hns := s3.mp g
        have e1 : (x4 + 1).toInt = x4.toInt + 1 := by rw [zadd (by rw [z1]; omega) (by rw [z1]; omega), z1]
        have hall' : ∀ p : Nat, (p : Int) < sz.toInt → told p → (chain x3.toInt.toNat).toInt < p → ¬ sameT starts lengths b_cells (items p).toInt.toNat i.toInt.toNat := by
          intro p hp ht hlt hs
          by_cases g1 : x3.toInt < p
          · exact hall p hp ht g1 hs
          · by_cases g2 : (p : Int) = x3.toInt
            · rw [show p = x3.toInt.toNat by omega] at hs; exact hns hs
            · obtain ⟨w1, w2, w3⟩ := t4 p hp
              have hb := bkt_same hR w2 w3 h0 h1 hs
              have := t8 p x3.toInt.toNat (by omega) (by omega) ht v3 (by rw [hb, v4])
              omega
        refine ih f (chain x3.toInt.toNat) (x4 + 1) (by omega) ?_ (by omega) ?_ hall'
        · rcases t6 x3.toInt.toNat (by omega) v3 with hc | ⟨c1, c2, c3, c4⟩
          · rw [hc, zm1]; omega
          · omega
        · rcases t6 x3.toInt.toNat (by omega) v3 with hc | ⟨c1, c2, c3, c4⟩
          · exact Or.inl hc
          · exact Or.inr ⟨c1, by omega, c3, by rw [c4, v4], by omega⟩
      · rw [if_neg g]
        exact ⟨x3, rfl, Or.inr ⟨v1, v2, v3, Classical.byContradiction fun h => g (s3.mpr h)⟩⟩
theorem cplace (hR : DR 0 kinds starts lengths depths numbers b_cells b_size b_tooLong openKinds size depth named mk mn ms ml mw mp mi mb mo mm md) (hT : TW t size (sameT starts lengths b_cells) (bkt starts lengths b_cells b_size size) items chain heads sz tb tz) {i : Int32} (h0 : 0 ≤ i.toInt) (h1 : i.toInt < size.toInt) : ∃ r, fX3_placeOf items chain heads sz starts lengths b_cells b_size size i = some r ∧ ((r = -1 ∧ ∀ p : Nat, (p : Int) < sz.toInt → told p → ¬ sameT starts lengths b_cells (items p).toInt.toNat i.toInt.toNat) ∨ (0 ≤ r.toInt ∧ r.toInt < sz.toInt ∧ told r.toInt.toNat ∧ sameT starts lengths b_cells (items r.toInt.toNat).toInt.toNat i.toInt.toNat)) := by
  obtain ⟨t1, t2, t3, t4, t5, t6, t7, t8, t9⟩ := id hT
  obtain ⟨r, b, m1, m2, m3, m4⟩ := mix_some hR h0 h1
  unfold fX3_placeOf bX3_placeOf_0
  rw [m1, Option.bind_some, m2, Option.bind_some, if_pos m3, m4]
  have hb : bkt starts lengths b_cells b_size size i < 256 := by rw [← m4, zcl]; have := m3.2; have := m3.1; omega
  refine cfind hR hT h0 h1 1025 FU _ 0 (by unfold FU; omega) ?_ (by decide) ?_ (fun p hp ht hlt hs => ?_)
  · rcases t5 _ hb with h | ⟨c1, c2, c3, c4⟩
    · rw [h, zm1]; omega
    · omega
  · rcases t5 _ hb with h | ⟨c1, c2, c3, c4⟩
    · exact Or.inl h
    · exact Or.inr ⟨c1, c2, c3, c4, by rw [z0]; omega⟩
  · obtain ⟨w1, w2, w3⟩ := t4 p hp
    have hbs := bkt_same hR w2 w3 h0 h1 hs
    have := t7 p hp ht
    rw [hbs] at this
    omega
/-- the reference's search -/
theorem rfind (hR : DR 0 kinds starts lengths depths numbers b_cells b_size b_tooLong openKinds size depth named mk mn ms ml mw mp mi mb mo mm md) (hT : TW t size (sameT starts lengths b_cells) (bkt starts lengths b_cells b_size size) items chain heads sz tb tz) (ht : t ≤ 1) {i : Int32} (h0 : 0 ≤ i.toInt) (h1 : i.toInt < size.toInt) : ∀ (n fuel : Nat) (x3 : Int32), n < fuel → 0 ≤ x3.toInt → x3.toInt + n = sz.toInt → (∀ p : Nat, (p : Int) < x3.toInt → told p → ¬ sameT starts lengths b_cells (items p).toInt.toNat i.toInt.toNat) → ∃ r, bX7_find_2 fuel ms ml mp tb tz (nI t) i x3 = some r ∧ ((r = -1 ∧ ∀ p : Nat, (p : Int) < sz.toInt → told p → ¬ sameT starts lengths b_cells (items p).toInt.toNat i.toInt.toNat) ∨ (0 ≤ r.toInt ∧ r.toInt < sz.toInt ∧ told r.toInt.toNat ∧ sameT starts lengths b_cells (items r.toInt.toNat).toInt.toNat i.toInt.toNat)) := by
  obtain ⟨t1, t2, t3, t4, t5, t6, t7, t8, t9⟩ := hT
  obtain ⟨a, b⟩ := rdd ht
  intro n
  induction n with
  | zero =>
    intro fuel x3 hf hx hn hall
    obtain ⟨f, rfl⟩ : ∃ f, fuel = f + 1 := ⟨fuel - 1, by omega⟩
    refine ⟨-1, ?_, Or.inl ⟨rfl, fun p hp => hall p (by omega)⟩⟩
    rw [bX7_find_2, if_pos a, b, t1, if_pos (by rw [zle]; omega)]
  | succ n ih =>
    intro fuel x3 hf hx hn hall
    obtain ⟨f, rfl⟩ : ∃ f, fuel = f + 1 := ⟨fuel - 1, by omega⟩
    have e1 : (x3 + 1).toInt = x3.toInt + 1 := by rw [zadd (by rw [z1]; omega) (by rw [z1]; omega), z1]
    have z254 : (254 : Int32).toInt = 254 := by decide
    rw [bX7_find_2, if_pos a, b, t1, if_neg (by rw [zle]; omega)]
    by_cases g : x3.toInt % 256 < 254
    · rw [if_neg (by rw [zle, z254, zand255]; omega)]
      have z1024 : (1024 : Int32).toInt = 1024 := by decide
      have e2 : (1024 * nI t).toInt = 1024 * t := by rw [zmul (by rw [z1024, znI (by omega)]; omega) (by rw [z1024, znI (by omega)]; omega), z1024, znI (by omega)]
      have e3 : (1024 * nI t + x3).toInt = 1024 * t + x3.toInt := by rw [zadd (by rw [e2]; omega) (by rw [e2]; omega), e2]
      have i3 : ix (1024 * nI t + x3) 2048 := by
        show 0 ≤ _ ∧ _ < _
        rw [e3]; omega
      obtain ⟨u1, u2, u3⟩ := t4 x3.toInt.toNat (by omega)
      obtain ⟨r, r', s1, s2, s3, s4⟩ := same_both hR u2 u3 h0 h1
      rw [if_pos i3, zcl, e3, show (1024 * (t : Int) + x3.toInt).toNat = 1024 * t + x3.toInt.toNat by omega, u1, s2, Option.bind_some]
      by_cases gr : r' = 0
      · rw [if_pos gr]
        have hns := s3.mp (s4.mp gr)
        refine ih f (x3 + 1) (by omega) (by omega) (by omega) (fun p hp htp hs => ?_)
        by_cases gp : (p : Int) = x3.toInt
        · rw [show p = x3.toInt.toNat by omega] at hs; exact hns hs
        · exact hall p (by omega) htp hs
      · rw [if_neg gr]
        exact ⟨x3, rfl, Or.inr ⟨hx, by omega, by unfold told; omega, Classical.byContradiction fun h => gr (s4.mpr (s3.mpr h))⟩⟩
    · rw [if_pos (by rw [zle, z254, zand255]; omega)]
      refine ih f (x3 + 1) (by omega) (by omega) (by omega) (fun p hp htp hs => ?_)
      by_cases gp : (p : Int) = x3.toInt
      · unfold told at htp; omega
      · exact hall p (by omega) htp hs
theorem find_both (hR : DR 0 kinds starts lengths depths numbers b_cells b_size b_tooLong openKinds size depth named mk mn ms ml mw mp mi mb mo mm md) (hT : TW t size (sameT starts lengths b_cells) (bkt starts lengths b_cells b_size size) items chain heads sz tb tz) (ht : t ≤ 1) {i : Int32} (h0 : 0 ≤ i.toInt) (h1 : i.toInt < size.toInt) : ∃ r, fX3_placeOf items chain heads sz starts lengths b_cells b_size size i = some r ∧ fX7_find ms ml mp tb tz (nI t) i = some r ∧ ((r = -1 ∧ ∀ p : Nat, (p : Int) < sz.toInt → told p → ¬ sameT starts lengths b_cells (items p).toInt.toNat i.toInt.toNat) ∨ (0 ≤ r.toInt ∧ r.toInt < 1024)) := by
  obtain ⟨t1, t2, t3, t4, t5, t6, t7, t8, t9⟩ := id hT
  obtain ⟨r, r1, r2⟩ := cplace hR hT h0 h1
  obtain ⟨q, q1, q2⟩ := rfind hR hT ht h0 h1 sz.toInt.toNat FU 0 (by unfold FU; omega) (by decide) (by rw [z0]; omega) (fun p hp => by rw [z0] at hp; omega)
  have e : r = q := by
    rcases r2 with ⟨a1, a2⟩ | ⟨a1, a2, a3, a4⟩
    · rcases q2 with ⟨b1, b2⟩ | ⟨b1, b2, b3, b4⟩
      · rw [a1, b1]
      · exact absurd b4 (a2 _ (by omega) b3)
    · rcases q2 with ⟨b1, b2⟩ | ⟨b1, b2, b3, b4⟩
      · exact absurd a4 (b2 _ (by omega) a3)
      · rw [zeq]
        refine Classical.byContradiction fun hne => ?_
        have hs := a4.trans b4.symm
        rcases (show r.toInt < q.toInt ∨ q.toInt < r.toInt by omega) with hlt | hlt
        · exact t9 r.toInt.toNat q.toInt.toNat (by omega) (by omega) a3 b3 hs
        · exact t9 q.toInt.toNat r.toInt.toNat (by omega) (by omega) b3 a3 hs.symm
  subst e
  refine ⟨r, r1, q1, ?_⟩
  rcases r2 with h | ⟨a1, a2, a3, a4⟩
  · exact Or.inl h
  · exact Or.inr ⟨a1, by omega⟩
end Tab
