/-! bytes behind the last item, on both sides -/
theorem zNeg {x : Int32} {n : Nat} (h : x.toInt = n) : x = nI n := by
  have := zhi x
  rw [zeq, znI (by omega)]; exact h
section Ext
variable {starts lengths b_cells f_cells : Nat → Int32} {b_size size f_size : Int32} {f_cap : Nat}
theorem cextend (hs : 0 < size.toInt) (hs2 : size.toInt ≤ 1500) (hb : 0 ≤ b_size.toInt) (hb2 : b_size.toInt < 5000) (p : Int32) : fX0_extend starts lengths b_cells b_size 0 size p = some (upd lengths (size.toInt.toNat - 1) (b_size + 1 - starts (size.toInt.toNat - 1)), upd b_cells b_size.toInt.toNat (b8 (b8 p)), b_size + 1, 0) := by
  have e : (size - 1).toInt = size.toInt - 1 := by rw [zsub (by rw [z1]; omega) (by rw [z1]; omega), z1]
  have hi : ix (size - 1) 1500 := by show 0 ≤ _ ∧ _ < _; rw [e]; omega
  have ec : (size - 1).toNatClampNeg = size.toInt.toNat - 1 := by rw [zcl, e]; omega
  unfold fX0_extend bX0_extend_0 fX2_size bX2_size_0
  rw [if_neg (by rw [zle, z0]; omega), cpush (by omega) hb (by omega), Option.bind_some, Option.bind_some, if_pos hi, if_pos hi, ec]
  rfl
theorem cext (hs : 0 < size.toInt) (hs2 : size.toInt ≤ 1500) (hf : f_size.toInt ≤ f_cap) (x2 x3 : Int32) : ∀ (n fuel : Nat) (x4 : Int32) (lengths b_cells : Nat → Int32) (b_size : Int32), n < fuel → 0 ≤ x4.toInt → x4.toInt + n = (x2 + x3).toInt → 0 ≤ b_size.toInt → b_size.toInt + n ≤ 5000 → ∃ L C, bX0_extendBy_3 fuel starts lengths b_cells b_size 0 size f_cap f_cells f_size x2 x3 x4 = some (L, C, b_size + nI n, 0) ∧ (∀ i, i ≠ size.toInt.toNat - 1 → L i = lengths i) ∧ L (size.toInt.toNat - 1) = (if n = 0 then lengths (size.toInt.toNat - 1) else b_size + nI n - starts (size.toInt.toNat - 1)) ∧ (∀ k : Nat, (k : Int) < b_size.toInt → C k = b_cells k) ∧ ∀ j : Nat, j < n → C (b_size.toInt.toNat + j) = b8 (catv f_cells f_size (x4 + nI j)) := by
  intro n
  induction n with
  | zero =>
    intro fuel x4 lengths b_cells b_size hfu h0 hx hb hb2
    obtain ⟨f, rfl⟩ : ∃ f, fuel = f + 1 := ⟨fuel - 1, by omega⟩
    refine ⟨lengths, b_cells, ?_, fun _ _ => rfl, by rw [if_pos rfl], fun _ _ => rfl, fun j hj => by omega⟩
    rw [bX0_extendBy_3, if_pos (by rw [zle]; omega)]
    rw [show b_size + nI 0 = b_size by rw [nI_0, Int32.add_zero]]
  | succ n ih =>
    intro fuel x4 lengths b_cells b_size hfu h0 hx hb hb2
    obtain ⟨f, rfl⟩ : ∃ f, fuel = f + 1 := ⟨fuel - 1, by omega⟩
    have hh := zhi (x2 + x3)
    have e1 : (x4 + 1).toInt = x4.toInt + 1 := by rw [zadd (by rw [z1]; omega) (by rw [z1]; omega), z1]
    have e2 : (b_size + 1).toInt = b_size.toInt + 1 := by rw [zadd (by rw [z1]; omega) (by rw [z1]; omega), z1]
    have e3 : b_size + 1 + nI n = b_size + nI (n + 1) := by rw [nI_succ, Int32.add_assoc, Int32.add_comm 1]
    obtain ⟨L, C, g1, g2, g3, g4, g5⟩ := ih f (x4 + 1) (upd lengths (size.toInt.toNat - 1) (b_size + 1 - starts (size.toInt.toNat - 1))) (upd b_cells b_size.toInt.toNat (b8 (b8 (catv f_cells f_size x4)))) (b_size + 1) (by omega) (by omega) (by omega) (by omega) (by omega)
    rw [e3] at g1 g3
    refine ⟨L, C, ?_, ?_, ?_, ?_, ?_⟩
    · rw [bX0_extendBy_3, if_neg (by rw [zle]; omega), cat hf, Option.bind_some, cextend hs hs2 hb (by omega), Option.bind_some]
      exact g1
    · intro i hi
      rw [g2 i hi, upd_ne hi]
    · rw [if_neg (show ¬ (n + 1 = 0) by omega), g3]
      by_cases hn : n = 0
      · subst hn; rw [if_pos rfl, upd_same, ← e3, nI_0, Int32.add_zero]
      · rw [if_neg hn]
    · intro k hk
      rw [g4 k (by omega), upd_ne (by omega)]
    · intro j hj
      by_cases hj0 : j = 0
      · subst hj0
        rw [Nat.add_zero, g4 _ (by omega), upd_same, b8_b8, nI_0, Int32.add_zero]
      · have := g5 (j - 1) (by omega)
        rw [e2] at this
        rw [show b_size.toInt.toNat + j = (b_size.toInt + 1).toNat + (j - 1) by omega, this]
        congr 2
        rw [show nI j = nI (j - 1 + 1) by rw [show j - 1 + 1 = j by omega], nI_succ, Int32.add_assoc, Int32.add_comm 1]
end Ext
