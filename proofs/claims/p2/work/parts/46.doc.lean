/-! the document of the class beside that of the reference -/
def DZ (d : Nat) (b_size b_tooLong size depth named : Int32) (mi mb md : Nat → Int32) : Prop :=
  mi d = size ∧ mb d = b_size ∧ md d = depth ∧ b_tooLong = 0 ∧ 0 ≤ size.toInt ∧ size.toInt ≤ 1500 ∧ 0 ≤ b_size.toInt ∧ b_size.toInt ≤ 5000 ∧ 0 ≤ depth.toInt ∧ depth.toInt ≤ 30 ∧ depth.toInt ≤ size.toInt ∧ (named = 0 ∨ named = 1)
def DI (d : Nat) (kinds starts lengths depths : Nat → Int32) (numbers : Nat → Int64) (b_size size : Int32) (mk : Nat → Int32) (mn : Nat → Int64) (ms ml mw : Nat → Int32) : Prop :=
  ∀ i : Nat, (i : Int) < size.toInt → mk (1500 * d + i) = kinds i ∧ mn (1500 * d + i) = numbers i ∧ (ms (1500 * d + i)).toInt = 5000 * d + (starts i).toInt ∧ ml (1500 * d + i) = lengths i ∧ mw (1500 * d + i) = depths i ∧ 0 ≤ (starts i).toInt ∧ 0 ≤ (lengths i).toInt ∧ (starts i).toInt + (lengths i).toInt ≤ b_size.toInt ∧ 0 ≤ (depths i).toInt ∧ (depths i).toInt ≤ 30 ∧ 0 ≤ (kinds i).toInt ∧ (kinds i).toInt ≤ 11
def DB (d : Nat) (b_cells : Nat → Int32) (b_size : Int32) (mp : Nat → Int32) : Prop :=
  ∀ k : Nat, (k : Int) < b_size.toInt → mp (5000 * d + k) = b_cells k ∧ b8 (b_cells k) = b_cells k
def DO (d : Nat) (openKinds : Nat → Int32) (depth named : Int32) (mo mm : Nat → Int32) : Prop :=
  (∀ j : Nat, (j : Int) < depth.toInt → ((openKinds j = 5 ∧ mo (30 * d + j) = 0) ∨ (openKinds j = 6 ∧ mo (30 * d + j) = 1)) ∧ ((j : Int) + 1 < depth.toInt → mm (30 * d + j) = 0) ∧ ((j : Int) + 1 = depth.toInt → mm (30 * d + j) = named ∧ (openKinds j = 5 → named = 0))) ∧ (depth.toInt = 0 → named = 0)
def DX (kinds depths : Nat → Int32) (size depth : Int32) : Prop :=
  (∀ i : Nat, 0 < i → (i : Int) < size.toInt → (depths i).toInt = 0 → kinds i = 11) ∧ (∀ e : Nat, (e : Int) < depth.toInt → ∃ j : Nat, (j : Int) < size.toInt ∧ (kinds j = 5 ∨ kinds j = 6) ∧ (depths j).toInt = e) ∧ (∀ i : Nat, (i : Int) < size.toInt → kinds i = 11 → (depths i).toInt ≤ 29 ∧ ∃ j : Nat, j < i ∧ (kinds j = 5 ∨ kinds j = 6) ∧ depths j = depths i)
section Doc
variable {kinds starts lengths depths b_cells openKinds : Nat → Int32} {numbers : Nat → Int64} {b_size b_tooLong size depth named : Int32} {mk ms ml mw mp mi mb mo mm md : Nat → Int32} {mn : Nat → Int64} {d : Nat}
theorem z0 : (0 : Int32).toInt = 0 := by decide
theorem z1 : (1 : Int32).toInt = 1 := by decide
theorem z2 : (2 : Int32).toInt = 2 := by decide
theorem z5 : (5 : Int32).toInt = 5 := by decide
theorem z6 : (6 : Int32).toInt = 6 := by decide
theorem z10 : (10 : Int32).toInt = 10 := by decide
theorem z11 : (11 : Int32).toInt = 11 := by decide
theorem z30 : (30 : Int32).toInt = 30 := by decide
theorem z1500 : (1500 : Int32).toInt = 1500 := by decide
theorem z5000 : (5000 : Int32).toInt = 5000 := by decide
/-- a name must come -/
def nmc (openKinds : Nat → Int32) (depth named : Int32) : Prop := 0 < depth.toInt ∧ openKinds (depth - 1).toNatClampNeg = 6 ∧ named = 0
theorem cinner (h0 : 0 ≤ depth.toInt) (h1 : depth.toInt ≤ 30) : fX0_innermost openKinds depth = some (if 0 < depth.toInt then openKinds (depth - 1).toNatClampNeg else -1) := by
  unfold fX0_innermost bX0_innermost_0
  by_cases g : 0 < depth.toInt
  · rw [if_neg (by rw [zle, z0]; omega), if_neg (by rw [zlt, z30]; omega), if_pos (by show 0 ≤ (depth - 1).toInt ∧ (depth - 1).toInt < _; rw [zsub (by rw [z1]; omega) (by rw [z1]; omega), z1]; omega), if_pos g]
  · rw [if_pos (by rw [zle, z0]; omega), if_neg g]
theorem cwhole : fX0_isWhole size depth = some (if 0 < size.toInt ∧ depth.toInt = 0 then 1 else 0) := by
  unfold fX0_isWhole bX0_isWhole_0
  by_cases g : 0 < size.toInt
  · rw [if_neg (by rw [zle, z0]; omega)]
    by_cases g2 : depth.toInt = 0
    · rw [if_pos (by rw [zeq, z0]; omega), if_pos ⟨g, g2⟩]
    · rw [if_neg (by rw [zeq, z0]; omega), if_neg (by omega)]
  · rw [if_pos (by rw [zle, z0]; omega), if_neg (by omega)]
theorem cacc (h0 : 0 ≤ depth.toInt) (h1 : depth.toInt ≤ 30) (x : Int32) : ∃ s0 : Int32, (s0 = 0 ∨ s0 = 1) ∧ (s0 = 1 ↔ nmc openKinds depth named) ∧ fX0_accepts openKinds size depth named x = bX0_accepts_21 openKinds size depth named x s0 := by
  unfold fX0_accepts bX0_accepts_0 bX0_accepts_20 nmc
  rw [cinner h0 h1, Option.bind_some]
  by_cases g : 0 < depth.toInt
  · rw [if_pos g]
    by_cases g2 : openKinds (depth - 1).toNatClampNeg = 6
    · rw [if_pos g2]
      by_cases g3 : named = 0
      · rw [if_pos g3]; exact ⟨1, Or.inr rfl, by simp [g, g2, g3], rfl⟩
      · rw [if_neg g3]; exact ⟨0, Or.inl rfl, by simp [g3], rfl⟩
    · rw [if_neg g2]; exact ⟨0, Or.inl rfl, by simp [g2], rfl⟩
  · rw [if_neg g, if_neg (by decide)]; exact ⟨0, Or.inl rfl, by simp [g], rfl⟩
theorem cacc_name (h0 : 0 ≤ depth.toInt) (h1 : depth.toInt ≤ 30) : ∃ r : Int32, fX0_accepts openKinds size depth named 10 = some r ∧ (r = 0 ↔ ¬ nmc openKinds depth named) := by
  obtain ⟨s0, a, b, c⟩ := cacc (openKinds := openKinds) (size := size) (named := named) h0 h1 10
  refine ⟨s0, ?_, ?_⟩
  · rw [c]; unfold bX0_accepts_21; rw [if_pos rfl, if_pos a]
  · rw [← b]; rcases a with rfl | rfl <;> decide
theorem cacc_end (h0 : 0 ≤ depth.toInt) (h1 : depth.toInt ≤ 30) : ∃ r : Int32, fX0_accepts openKinds size depth named 11 = some r ∧ (r = 0 ↔ ¬ (0 < depth.toInt ∧ named = 0)) := by
  obtain ⟨s0, a, b, c⟩ := cacc (openKinds := openKinds) (size := size) (named := named) h0 h1 11
  rw [c]; unfold bX0_accepts_21
  rw [if_neg (by decide), if_pos rfl]
  by_cases g : 0 < depth.toInt
  · rw [if_neg (by rw [zle, z0]; omega)]
    by_cases g3 : named = 0
    · rw [if_pos g3]; exact ⟨1, rfl, by simp [g, g3]⟩
    · rw [if_neg g3]; exact ⟨0, rfl, by simp [g3]⟩
  · rw [if_pos (by rw [zle, z0]; omega)]; exact ⟨0, rfl, by simp [g]⟩
theorem cacc_value (h0 : 0 ≤ depth.toInt) (h1 : depth.toInt ≤ 30) {x : Int32} (hx : x ≠ 10) (hx2 : x ≠ 11) : ∃ r : Int32, fX0_accepts openKinds size depth named x = some r ∧ (r = 0 ↔ ¬ (¬ (0 < size.toInt ∧ depth.toInt = 0) ∧ ¬ nmc openKinds depth named)) := by
  obtain ⟨s0, a, b, c⟩ := cacc (openKinds := openKinds) (size := size) (named := named) h0 h1 x
  rw [c]; unfold bX0_accepts_21
  rw [if_neg hx, if_neg hx2, cwhole, Option.bind_some]
  rw [← b]
  by_cases g : 0 < size.toInt ∧ depth.toInt = 0
  · rw [if_pos g, if_neg (by decide)]; exact ⟨0, rfl, by simp [g]⟩
  · rw [if_neg g, if_pos rfl]
    rcases a with rfl | rfl
    · rw [if_pos rfl]; exact ⟨1, rfl, by simp [g]⟩
    · rw [if_neg (by decide)]; exact ⟨0, rfl, by simp⟩
theorem ccont (x : Int32) : fX0_isContainer x = some (if x = 5 ∨ x = 6 then 1 else 0) := by
  unfold fX0_isContainer bX0_isContainer_0
  by_cases g : x = 5
  · rw [if_pos g, if_pos (Or.inl g)]
  · rw [if_neg g]
    by_cases g2 : x = 6
    · rw [if_pos g2, if_pos (Or.inr g2)]
    · rw [if_neg g2, if_neg (by simp [g, g2])]
theorem croom {x n : Int32} (hb : 0 ≤ b_size.toInt) (hb2 : b_size.toInt ≤ 5000) : ∃ r : Int32, fX0_hasRoom b_size size depth x n = some r ∧ (r = 0 ↔ ¬ (size.toInt < 1500 ∧ b_size.toInt + n.toInt ≤ 5000 ∧ ((x = 5 ∨ x = 6) → depth.toInt < 30))) := by
  unfold fX0_hasRoom bX0_hasRoom_0 fX2_size bX2_size_0
  rw [Option.bind_some, ccont, Option.bind_some]
  have e : ((5000 : Int32) - b_size).toInt = 5000 - b_size.toInt := by rw [zsub (by rw [z5000]; omega) (by rw [z5000]; omega), z5000]
  by_cases g : size.toInt < 1500
  · rw [if_neg (by rw [zle, z1500]; omega)]
    by_cases g2 : b_size.toInt + n.toInt ≤ 5000
    · rw [if_pos (by rw [zle, e]; omega)]
      by_cases g3 : x = 5 ∨ x = 6
      · rw [if_pos g3, if_neg (by decide)]
        by_cases g4 : depth.toInt < 30
        · rw [if_neg (by rw [zle, z30]; omega)]; exact ⟨1, rfl, by simp [g, g2, g4]⟩
        · rw [if_pos (by rw [zle, z30]; omega)]; exact ⟨0, rfl, by simp [g3, g4]⟩
      · rw [if_neg g3, if_pos rfl]; exact ⟨1, rfl, by simp [g, g2, g3]⟩
    · rw [if_neg (by rw [zle, e]; omega)]; exact ⟨0, rfl, by simp [g2]⟩
  · rw [if_pos (by rw [zle, z1500]; omega)]; exact ⟨0, rfl, by simp [g]⟩
/-- put, when it may be put -/
theorem cput (hs : 0 ≤ size.toInt) (hs2 : size.toInt < 1500) (hd : 0 ≤ depth.toInt) (hd2 : depth.toInt ≤ 30) {x : Int32} {v : Int64} (hc : x = 5 ∨ x = 6 → depth.toInt < 30) (he : x = 11 → 0 < depth.toInt) : fX0_put kinds starts lengths depths numbers b_size openKinds size depth named x v = some (upd kinds size.toNatClampNeg x, upd starts size.toNatClampNeg b_size, upd lengths size.toNatClampNeg 0, upd depths size.toNatClampNeg (if x = 11 then depth - 1 else depth), vp_updL numbers size.toNatClampNeg v, (if x = 5 ∨ x = 6 then upd openKinds depth.toNatClampNeg x else openKinds), size + 1, (if x = 11 then depth - 1 else if x = 5 ∨ x = 6 then depth + 1 else depth), (if x = 10 then 1 else 0)) := by
  have hi : ix size 1500 := ⟨hs, hs2⟩
  unfold fX0_put bX0_put_0
  rw [if_pos (by rw [zlt, z1500]; exact hs2)]
  have h34 : ∀ dd : Int32, 0 ≤ dd.toInt → (x = 5 ∨ x = 6 → dd.toInt < 30) → bX0_put_34 kinds starts lengths depths numbers b_size openKinds size dd named x v = some (upd kinds size.toNatClampNeg x, upd starts size.toNatClampNeg b_size, upd lengths size.toNatClampNeg 0, upd depths size.toNatClampNeg dd, vp_updL numbers size.toNatClampNeg v, (if x = 5 ∨ x = 6 then upd openKinds dd.toNatClampNeg x else openKinds), size + 1, (if x = 5 ∨ x = 6 then dd + 1 else dd), (if x = 10 then 1 else 0)) := by
    intro dd h0 h1
    have h115 : ∀ (k1 k2 k3 k4 : Nat → Int32) (k5 : Nat → Int64) (sz : Int32) (s1 : Int32), (s1 = 0 ∨ s1 = 1) → bX0_put_115 k1 k2 k3 k4 k5 b_size openKinds sz dd named x s1 = some (k1, k2, k3, k4, k5, (if x = 5 ∨ x = 6 then upd openKinds dd.toNatClampNeg x else openKinds), sz, (if x = 5 ∨ x = 6 then dd + 1 else dd), s1) := by
      intro k1 k2 k3 k4 k5 sz s1 hs1
      unfold bX0_put_115
      rw [if_pos hs1, ccont, Option.bind_some]
      by_cases g : x = 5 ∨ x = 6
      · rw [if_pos g, if_pos g, if_pos g, if_neg (by decide), if_neg (by rw [zle, z30]; have := h1 g; omega), if_pos ⟨h0, h1 g⟩]
      · rw [if_neg g, if_neg g, if_neg g, if_pos rfl]
    unfold bX0_put_34 fX2_size bX2_size_0
    rw [if_pos hi, Option.bind_some, if_pos hi, if_pos hi, if_pos hi, if_pos hi]
    by_cases g : x = 10
    · rw [if_pos g, if_pos g]; exact h115 _ _ _ _ _ _ _ (Or.inr rfl)
    · rw [if_neg g, if_neg g]; exact h115 _ _ _ _ _ _ _ (Or.inl rfl)
  by_cases g : x = 11
  · have hg := he g
    have n5 : ¬ (x = 5 ∨ x = 6) := by rw [g]; decide
    rw [if_pos g, if_neg (by rw [zle, z0]; omega), h34 _ (by rw [zsub (by rw [z1]; omega) (by rw [z1]; omega), z1]; omega) (fun h => absurd h n5)]
    simp only [if_pos g, if_neg n5]
  · rw [if_neg g, h34 _ hd hc]
    simp only [if_neg g]
end Doc
