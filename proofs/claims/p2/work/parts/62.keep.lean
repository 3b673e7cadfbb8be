/-! a text more in a table -/
section Keep
variable {kinds starts lengths depths b_cells openKinds : Nat → Int32} {numbers : Nat → Int64} {b_size b_tooLong size depth named : Int32} {mk ms ml mw mp mi mb mo mm md : Nat → Int32} {mn : Nat → Int64} {t : Nat} {items chain heads tb tz : Nat → Int32} {sz : Int32}
theorem TW.add {ds : Int32} {S : Nat → Nat → Prop} {B : Int32 → Nat} {i : Int32} (hT : TW t ds S B items chain heads sz tb tz) (h0 : 0 ≤ i.toInt) (h1 : i.toInt < ds.toInt) (hs : sz.toInt < 1024) (hB : B i < 256) (hnot : ∀ p : Nat, (p : Int) < sz.toInt → told p → ¬ S (items p).toInt.toNat i.toInt.toNat) {chain' heads' : Nat → Int32} (hc : (told sz.toInt.toNat ∧ chain' = upd chain sz.toInt.toNat (heads (B i)) ∧ heads' = upd heads (B i) sz) ∨ (¬ told sz.toInt.toNat ∧ chain' = chain ∧ heads' = heads)) {tb' tz' : Nat → Int32} (htb : ∀ p : Nat, (p : Int) ≤ sz.toInt → tb' (1024 * t + p) = if p = sz.toInt.toNat then i else tb (1024 * t + p)) (htz : tz' t = sz + 1) : TW t ds S B (upd items sz.toInt.toNat i) chain' heads' (sz + 1) tb' tz' := by
  obtain ⟨t1, t2, t3, t4, t5, t6, t7, t8, t9⟩ := hT
  have e : (sz + 1).toInt = sz.toInt + 1 := by rw [zadd (by rw [z1]; omega) (by rw [z1]; omega), z1]
  have it : ∀ p : Nat, (p : Int) < sz.toInt → upd items sz.toInt.toNat i p = items p := fun p hp => upd_ne (by omega)
  have its : upd items sz.toInt.toNat i sz.toInt.toNat = i := upd_same _ _ _
  refine ⟨htz, by omega, by omega, fun p hp => ?_, fun b hb => ?_, fun p hp ht => ?_, fun p hp ht => ?_, fun p q hpq hq htp htq hbb => ?_, fun p q hpq hq htp htq => ?_⟩
  · rw [e] at hp
    rw [htb p (by omega)]
    by_cases g : p = sz.toInt.toNat
    · rw [if_pos g, g, its]; exact ⟨rfl, h0, h1⟩
    · rw [if_neg g, it p (by omega)]; exact t4 p (by omega)
  · have old : heads b = -1 ∨ (0 ≤ (heads b).toInt ∧ (heads b).toInt < (sz + 1).toInt ∧ told (heads b).toInt.toNat ∧ B (upd items sz.toInt.toNat i (heads b).toInt.toNat) = b) := by
      rcases t5 b hb with h | ⟨c1, c2, c3, c4⟩
      · exact Or.inl h
      · exact Or.inr ⟨c1, by omega, c3, by rw [it _ (by omega)]; exact c4⟩
    rcases hc with ⟨d1, d2, d3⟩ | ⟨d1, d2, d3⟩
    · subst d3
      by_cases g : b = B i
      · rw [g, upd_same]
        exact Or.inr ⟨t2, by omega, d1, by rw [its]⟩
      · rw [upd_ne g]; exact old
    · subst d3; exact old
  · rw [e] at hp
    rcases hc with ⟨d1, d2, d3⟩ | ⟨d1, d2, d3⟩
    · subst d2
      by_cases g : p = sz.toInt.toNat
      · subst g
        rw [upd_same, its]
        rcases t5 (B i) hB with h | ⟨c1, c2, c3, c4⟩
        · exact Or.inl h
        · exact Or.inr ⟨c1, by omega, c3, by rw [it _ (by omega)]; exact c4⟩
      · rw [upd_ne g, it p (by omega)]
        rcases t6 p (by omega) ht with h | ⟨c1, c2, c3, c4⟩
        · exact Or.inl h
        · exact Or.inr ⟨c1, c2, c3, by rw [it _ (by omega)]; exact c4⟩
    · subst d2
      have g : p ≠ sz.toInt.toNat := fun h => d1 (h ▸ ht)
      rw [it p (by omega)]
      rcases t6 p (by omega) ht with h | ⟨c1, c2, c3, c4⟩
      · exact Or.inl h
      · exact Or.inr ⟨c1, c2, c3, by rw [it _ (by omega)]; exact c4⟩
  · rw [e] at hp
    rcases hc with ⟨d1, d2, d3⟩ | ⟨d1, d2, d3⟩
    · subst d3
      by_cases g : p = sz.toInt.toNat
      · subst g
        rw [its, upd_same]; omega
      · rw [it p (by omega)]
        by_cases g2 : B (items p) = B i
        · rw [g2, upd_same]; omega
        · rw [upd_ne g2]; exact t7 p (by omega) ht
    · subst d3
      have g : p ≠ sz.toInt.toNat := fun h => d1 (h ▸ ht)
      rw [it p (by omega)]
      exact t7 p (by omega) ht
  · rw [e] at hq
    rw [it p (by omega)] at hbb
    rcases hc with ⟨d1, d2, d3⟩ | ⟨d1, d2, d3⟩
    · subst d2
      by_cases g : q = sz.toInt.toNat
      · subst g
        rw [its] at hbb
        rw [upd_same, ← hbb]
        exact t7 p (by omega) htp
      · rw [it q (by omega)] at hbb
        rw [upd_ne g]
        exact t8 p q hpq (by omega) htp htq hbb
    · subst d2
      have g : q ≠ sz.toInt.toNat := fun h => d1 (h ▸ htq)
      rw [it q (by omega)] at hbb
      exact t8 p q hpq (by omega) htp htq hbb
  · rw [e] at hq
    rw [it p (by omega)]
    by_cases g : q = sz.toInt.toNat
    · subst g
      rw [its]
      exact hnot p (by omega) htp
    · rw [it q (by omega)]
      exact t9 p q hpq (by omega) htp htq
theorem TW.other {ds : Int32} {S : Nat → Nat → Prop} {B : Int32 → Nat} {u : Nat} (hT : TW t ds S B items chain heads sz tb tz) {tb' tz' : Nat → Int32} (h1 : ∀ p : Nat, p < 1024 → tb' (1024 * t + p) = tb (1024 * t + p)) (h2 : tz' t = tz t) : TW t ds S B items chain heads sz tb' tz' := by
  obtain ⟨t1, t2, t3, t4, t5⟩ := hT
  refine ⟨by rw [h2]; exact t1, t2, t3, fun p hp => ?_, t5⟩
  rw [h1 p (by omega)]; exact t4 p hp
/-- class: put, when there is none such -/
theorem cputtab (hR : DR 0 kinds starts lengths depths numbers b_cells b_size b_tooLong openKinds size depth named mk mn ms ml mw mp mi mb mo mm md) (hT : TW t size (sameT starts lengths b_cells) (bkt starts lengths b_cells b_size size) items chain heads sz tb tz) {i : Int32} (h0 : 0 ≤ i.toInt) (h1 : i.toInt < size.toInt) (hnot : ∀ p : Nat, (p : Int) < sz.toInt → told p → ¬ sameT starts lengths b_cells (items p).toInt.toNat i.toInt.toNat) {tb' tz' : Nat → Int32} (htb : ∀ p : Nat, p < 1024 → tb' (1024 * t + p) = if p = (if sz.toInt = 1024 then 0 else sz.toInt.toNat) then i else tb (1024 * t + p)) (htz : tz' t = (if sz.toInt = 1024 then 0 else sz) + 1) : ∃ items' chain' heads' sz', fX3_put items chain heads sz starts lengths b_cells b_size size i = some (items', chain', heads', sz') ∧ TW t size (sameT starts lengths b_cells) (bkt starts lengths b_cells b_size size) items' chain' heads' sz' tb' tz' := by
  obtain ⟨t1, t2, t3, t4, t5, t6, t7, t8, t9⟩ := id hT
  obtain ⟨r, b, m1, m2, m3, m4⟩ := mix_some hR h0 h1
  have hb : bkt starts lengths b_cells b_size size i < 256 := by rw [← m4, zcl]; have := m3.2; have := m3.1; omega
  have z1024 : (1024 : Int32).toInt = 1024 := by decide
  have h14 : ∀ (heads sz) (tb0 tz0 : Nat → Int32), TW t size (sameT starts lengths b_cells) (bkt starts lengths b_cells b_size size) items chain heads sz tb0 tz0 → sz.toInt < 1024 → (∀ p : Nat, (p : Int) < sz.toInt → told p → ¬ sameT starts lengths b_cells (items p).toInt.toNat i.toInt.toNat) → (∀ p : Nat, (p : Int) ≤ sz.toInt → tb' (1024 * t + p) = if p = sz.toInt.toNat then i else tb0 (1024 * t + p)) → tz' t = sz + 1 → ∃ items' chain' heads' sz', bX3_put_14 items chain heads sz starts lengths b_cells b_size size i = some (items', chain', heads', sz') ∧ TW t size (sameT starts lengths b_cells) (bkt starts lengths b_cells b_size size) items' chain' heads' sz' tb' tz' := by
    intro heads sz tb0 tz0 hT hs hnot htb htz
    have t2 := hT.2.1
    have is : ix sz 1024 := ⟨t2, by omega⟩
    have es : sz = nI sz.toInt.toNat := zNeg (by omega)
    have hct := ctold sz.toInt.toNat (by omega)
    rw [← es] at hct
    unfold bX3_put_14
    rw [if_pos is, hct, Option.bind_some]
    by_cases g : sz.toInt.toNat % 256 < 254
    · rw [if_pos g, if_neg (by decide), m1, Option.bind_some, m2, Option.bind_some, if_pos m3, if_pos is, if_pos m3, m4]
      exact ⟨_, _, _, _, rfl, hT.add h0 h1 hs hb hnot (Or.inl ⟨g, rfl, rfl⟩) htb htz⟩
    · rw [if_neg g, if_pos rfl]
      exact ⟨_, _, _, _, rfl, hT.add h0 h1 hs hb hnot (Or.inr ⟨g, rfl, rfl⟩) htb htz⟩
  unfold fX3_put bX3_put_0
  by_cases g : sz.toInt = 1024
  · rw [if_pos g] at htz
    rw [if_neg (by rw [zlt, z1024]; omega)]
    obtain ⟨h', e1, e2⟩ := cclear (heads := heads) (sz := sz)
    rw [e1, Option.bind_some]
    refine h14 h' 0 tb (fun _ => 0) (TW.empty rfl e2) (by decide) (fun p hp => by rw [z0] at hp; omega) (fun p hp => ?_) htz
    rw [z0] at hp ⊢
    rw [htb p (by omega), if_pos g]; rfl
  · rw [if_neg g] at htz
    rw [if_pos (by rw [zlt, z1024]; omega)]
    refine h14 heads sz tb tz hT (by omega) hnot (fun p hp => ?_) htz
    rw [htb p (by omega), if_neg g]
/-- the flags, bit by bit -/
theorem flag1 : ∀ k : Nat, k < 8 → ((nI k &&& 2 = 0) ↔ ¬ (nI k &&& 2 = 2)) ∧ ((((nI k) >>> ((1 : Int32) &&& 31)) &&& 1 = 1) ↔ (nI k &&& 2 = 2)) := by decide
theorem flag0 : ∀ k : Nat, k < 8 → ((nI k &&& 1 = 0) ↔ ¬ (nI k &&& 1 = 1)) ∧ ((((nI k) >>> ((0 : Int32) &&& 31)) &&& 1 = 1) ↔ (nI k &&& 1 = 1)) := by decide
theorem flag2 : ∀ k : Nat, k < 8 → ((nI k &&& 4 = 0) ↔ ¬ (nI k &&& 4 = 4)) := by decide
theorem rkeep (ht : t ≤ 1) {f i : Int32} (hi : ix i 3000) (hz0 : 0 ≤ (tz t).toInt) (hz1 : (tz t).toInt ≤ 1024) (hf : ((f >>> (nI t &&& 31)) &&& 1) = 1) (hl1 : 1 ≤ (ml i.toNatClampNeg).toInt) (hl2 : (ml i.toNatClampNeg).toInt ≤ 64) : ∃ tb' tz', fX7_keep ml tb tz (nI t) f i = some (tb', tz') ∧ (∀ p : Nat, p < 1024 → tb' (1024 * t + p) = if p = (if (tz t).toInt = 1024 then 0 else (tz t).toInt.toNat) then i else tb (1024 * t + p)) ∧ tz' t = (if (tz t).toInt = 1024 then 0 else tz t) + 1 ∧ (∀ u, u ≠ t → u ≤ 1 → (tz' u = tz u ∧ ∀ p : Nat, p < 1024 → tb' (1024 * u + p) = tb (1024 * u + p))) := by
  obtain ⟨a, b⟩ := rdd ht
  have z1024 : (1024 : Int32).toInt = 1024 := by decide
  have z64 : (64 : Int32).toInt = 64 := by decide
  have h57 : ∀ s2 : Int32, 0 ≤ s2.toInt → s2.toInt < 1024 → ∃ tb' tz', bX7_keep_57 ml tb tz (nI t) i (nI t) s2 = some (tb', tz') ∧ (∀ p : Nat, p < 1024 → tb' (1024 * t + p) = if p = s2.toInt.toNat then i else tb (1024 * t + p)) ∧ tz' t = s2 + 1 ∧ (∀ u, u ≠ t → u ≤ 1 → (tz' u = tz u ∧ ∀ p : Nat, p < 1024 → tb' (1024 * u + p) = tb (1024 * u + p))) := by
    intro s2 h0 h1
    have e2 : (1024 * nI t).toInt = 1024 * t := by rw [zmul (by rw [z1024, znI (by omega)]; omega) (by rw [z1024, znI (by omega)]; omega), z1024, znI (by omega)]
    have e3 : (1024 * nI t + s2).toInt = 1024 * t + s2.toInt := by rw [zadd (by rw [e2]; omega) (by rw [e2]; omega), e2]
    have i3 : ix (1024 * nI t + s2) 2048 := by
      show 0 ≤ _ ∧ _ < _
      rw [e3]; omega
    have e4 : (1024 * nI t + s2).toNatClampNeg = 1024 * t + s2.toInt.toNat := by rw [zcl, e3]; omega
    unfold bX7_keep_57
    rw [b, upd_same, if_pos a, if_pos a, if_pos i3, if_pos a, if_pos a, e4]
    refine ⟨_, _, rfl, fun p hp => ?_, upd_same _ _ _, fun u hu hu2 => ⟨?_, fun p hp => upd_ne (by omega)⟩⟩
    · by_cases g : p = s2.toInt.toNat
      · rw [if_pos g, g, upd_same]
      · rw [if_neg g, upd_ne (by omega)]
    · rw [upd_ne hu, upd_ne hu]
  unfold fX7_keep bX7_keep_0
  rw [if_pos hf, if_pos hi, if_neg (by rw [zlt, z1]; omega), if_pos hi, if_neg (by rw [zlt, z64]; omega), if_pos a, b]
  by_cases g : (tz t).toInt = 1024
  · rw [if_pos (by rw [zeq, z1024]; exact g), if_pos g, if_pos g]
    obtain ⟨tb', tz', g1, g2, g3, g4⟩ := h57 0 (by decide) (by decide)
    exact ⟨tb', tz', g1, g2, g3, g4⟩
  · rw [if_neg (by rw [zeq, z1024]; exact g), if_pos a, if_neg g, if_neg g]
    exact h57 (tz t) hz0 (by omega)
theorem rkeep_no (ht : t ≤ 1) {f i : Int32} (hi : ix i 3000) (h : ¬ (((f >>> (nI t &&& 31)) &&& 1) = 1) ∨ (ml i.toNatClampNeg).toInt < 1 ∨ 64 < (ml i.toNatClampNeg).toInt) : fX7_keep ml tb tz (nI t) f i = some (tb, tz) := by
  have z64 : (64 : Int32).toInt = 64 := by decide
  unfold fX7_keep bX7_keep_0
  by_cases hf : ((f >>> (nI t &&& 31)) &&& 1) = 1
  · rw [if_pos hf, if_pos hi]
    by_cases g : (ml i.toNatClampNeg).toInt < 1
    · rw [if_pos (by rw [zlt, z1]; exact g)]
    · rw [if_neg (by rw [zlt, z1]; exact g), if_pos hi, if_pos]
      rw [zlt, z64]
      rcases h with h | h | h
      · exact absurd hf h
      · exact absurd h g
      · exact h
  · rw [if_neg hf]
end Keep
