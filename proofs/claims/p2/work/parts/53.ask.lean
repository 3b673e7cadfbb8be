/-! what is asked -/
section Ask
variable {kinds starts lengths depths b_cells openKinds : Nat → Int32} {numbers : Nat → Int64} {b_size b_tooLong size depth named : Int32} {mk ms ml mw mp mi mb mo mm md : Nat → Int32} {mn : Nat → Int64} {x n : Int32} {v : Int64} {d : Nat}
theorem chas (h : size.toInt ≤ 1500) (p : Int32) : fX0_has size p = some (if 0 ≤ p.toInt ∧ p.toInt < size.toInt then 1 else 0) := by
  unfold fX0_has bX0_has_0
  by_cases g : 0 ≤ p.toInt
  · rw [if_neg (by rw [zlt, z0]; omega)]
    by_cases g2 : p.toInt < size.toInt
    · rw [if_neg (by rw [zle]; omega), if_neg (by rw [zle, z1500]; omega), if_pos ⟨g, g2⟩]
    · rw [if_pos (by rw [zle]; omega), if_neg (fun h => g2 h.2)]
  · rw [if_pos (by rw [zlt, z0]; omega), if_neg (fun h => g h.1)]
theorem chas1 (h : size.toInt ≤ 1500) {p : Int32} (h0 : 0 ≤ p.toInt) (h1 : p.toInt < size.toInt) : fX0_has size p = some 1 := by
  rw [chas h, if_pos ⟨h0, h1⟩]
theorem chas0 (h : size.toInt ≤ 1500) {p : Int32} (h0 : ¬ (0 ≤ p.toInt ∧ p.toInt < size.toInt)) : fX0_has size p = some 0 := by
  rw [chas h, if_neg h0]
theorem risitem (h : mi 0 = size) (p : Int32) : fX7_isItem mi p = some (if 0 ≤ p.toInt ∧ p.toInt < size.toInt then 1 else 0) := by
  have c0 : Int32.toNatClampNeg 0 = 0 := by decide
  unfold fX7_isItem bX7_isItem_0
  rw [c0, h]
  by_cases g : 0 ≤ p.toInt
  · rw [if_neg (by rw [zlt, z0]; omega), if_pos i02]
    by_cases g2 : p.toInt < size.toInt
    · rw [if_neg (by rw [zle]; omega), if_pos ⟨g, g2⟩]
    · rw [if_pos (by rw [zle]; omega), if_neg (fun h => g2 h.2)]
  · rw [if_pos (by rw [zlt, z0]; omega), if_neg (fun h => g h.1)]
theorem ckind (h : size.toInt ≤ 1500) {p : Int32} (h0 : 0 ≤ p.toInt) (h1 : p.toInt < size.toInt) : fX0_kindOf kinds size p = some (kinds p.toInt.toNat) := by
  unfold fX0_kindOf bX0_kindOf_0
  rw [chas1 h h0 h1, Option.bind_some, if_neg (by decide), if_pos ⟨h0, by omega⟩]; rfl
theorem clength (h : size.toInt ≤ 1500) {p : Int32} (h0 : 0 ≤ p.toInt) (h1 : p.toInt < size.toInt) : fX0_lengthOf lengths size p = some (lengths p.toInt.toNat) := by
  unfold fX0_lengthOf bX0_lengthOf_0
  rw [chas1 h h0 h1, Option.bind_some, if_neg (by decide), if_pos ⟨h0, by omega⟩]; rfl
theorem cdepth (h : size.toInt ≤ 1500) {p : Int32} (h0 : 0 ≤ p.toInt) (h1 : p.toInt < size.toInt) : fX0_depthOf depths size p = some (depths p.toInt.toNat) := by
  unfold fX0_depthOf bX0_depthOf_0
  rw [chas1 h h0 h1, Option.bind_some, if_neg (by decide), if_pos ⟨h0, by omega⟩]; rfl
theorem cnumber (h : size.toInt ≤ 1500) {p : Int32} (h0 : 0 ≤ p.toInt) (h1 : p.toInt < size.toInt) : fX0_numberOf numbers size p = some (numbers p.toInt.toNat) := by
  unfold fX0_numberOf bX0_numberOf_0
  rw [chas1 h h0 h1, Option.bind_some, if_neg (by decide), if_pos ⟨h0, by omega⟩]; rfl
theorem sim_item (hR : DR 0 kinds starts lengths depths numbers b_cells b_size b_tooLong openKinds size depth named mk mn ms ml mw mp mi mb mo mm md) (n k : Int32) : ∃ r, fX6_item kinds lengths depths size n k = some r ∧ fX7_item mk ml mw mi n k = some r := by
  obtain ⟨a1, a2, a3, a4, a5, a6, a7, a8, a9, a10, a11, a12⟩ := id hR.1
  unfold fX6_item bX6_item_0 fX7_item bX7_item_0
  rw [risitem a1]
  by_cases g : 0 ≤ n.toInt ∧ n.toInt < size.toInt
  · obtain ⟨b1, b2, b3, b4, b5, -⟩ := hR.2.1 n.toInt.toNat (by omega)
    rw [Nat.mul_zero, Nat.zero_add] at b1 b4 b5
    rw [ckind a6 g.1 g.2, clength a6 g.1 g.2, cdepth a6 g.1 g.2, if_pos g]
    have hi : ix n 3000 := ⟨g.1, by omega⟩
    by_cases c0 : k = 0
    · subst c0
      refine ⟨kinds n.toInt.toNat, rfl, ?_⟩
      rw [Option.bind_some, if_neg (by decide), if_neg (by decide), if_pos (by decide), if_pos rfl, if_pos hi]
      exact congrArg some b1
    by_cases c1 : k = 1
    · subst c1
      refine ⟨lengths n.toInt.toNat, rfl, ?_⟩
      rw [Option.bind_some, if_neg (by decide), if_neg (by decide), if_pos (by decide), if_neg (by decide), if_pos rfl, if_pos hi]
      exact congrArg some b4
    by_cases c2 : k = 2
    · subst c2
      refine ⟨depths n.toInt.toNat, rfl, ?_⟩
      rw [Option.bind_some, if_neg (by decide), if_neg (by decide), if_pos (by decide), if_neg (by decide), if_neg (by decide), if_pos hi]
      exact congrArg some b5
    refine ⟨-1, ?_, ?_⟩
    · rw [if_neg c0, if_neg c1, if_neg c2]
    rw [Option.bind_some, if_neg (by decide)]
    by_cases c3 : k < 0
    · rw [if_pos c3]
    · rw [if_neg c3, if_neg]
      rw [zle, z2]
      rw [zlt, z0] at c3
      rw [zeq, z0] at c0
      rw [zeq, z1] at c1
      rw [zeq, z2] at c2
      omega
  · rw [if_neg g]
    unfold fX0_kindOf bX0_kindOf_0 fX0_lengthOf bX0_lengthOf_0 fX0_depthOf bX0_depthOf_0
    rw [chas0 a6 g]
    refine ⟨-1, ?_, rfl⟩
    (repeat' split) <;> rfl
theorem sim_number (hR : DR 0 kinds starts lengths depths numbers b_cells b_size b_tooLong openKinds size depth named mk mn ms ml mw mp mi mb mo mm md) (n : Int32) : ∃ r, fX6_number numbers size n = some r ∧ fX7_number mn mi n = some r := by
  obtain ⟨a1, a2, a3, a4, a5, a6, a7, a8, a9, a10, a11, a12⟩ := id hR.1
  unfold fX6_number bX6_number_0 fX7_number bX7_number_0
  rw [risitem a1]
  by_cases g : 0 ≤ n.toInt ∧ n.toInt < size.toInt
  · obtain ⟨b1, b2, -⟩ := hR.2.1 n.toInt.toNat (by omega)
    rw [Nat.mul_zero, Nat.zero_add] at b2
    have hi : ix n 3000 := ⟨g.1, by omega⟩
    refine ⟨numbers n.toInt.toNat, ?_, ?_⟩
    · rw [cnumber a6 g.1 g.2]; rfl
    · rw [if_pos g, Option.bind_some, if_neg (by decide), if_pos hi]
      exact congrArg some b2
  · unfold fX0_numberOf bX0_numberOf_0
    rw [chas0 a6 g, if_neg g]
    exact ⟨_, rfl, rfl⟩
theorem sim_byteOf (hR : DR 0 kinds starts lengths depths numbers b_cells b_size b_tooLong openKinds size depth named mk mn ms ml mw mp mi mb mo mm md) (n k : Int32) : ∃ r, fX6_byteOf starts lengths b_cells b_size size n k = some r ∧ fX7_byteOf ms ml mp mi n k = some r := by
  obtain ⟨a1, a2, a3, a4, a5, a6, a7, a8, a9, a10, a11, a12⟩ := id hR.1
  unfold fX6_byteOf bX6_byteOf_0 fX7_byteOf bX7_byteOf_0 fX0_textByte bX0_textByte_0
  rw [risitem a1]
  by_cases g : 0 ≤ n.toInt ∧ n.toInt < size.toInt
  · obtain ⟨b1, b2, b3, b4, b5, b6, b7, b8', -⟩ := hR.2.1 n.toInt.toNat (by omega)
    rw [Nat.mul_zero, Nat.zero_add] at b3 b4
    have hi : ix n 1500 := ⟨g.1, by omega⟩
    have hi2 : ix n 3000 := ⟨g.1, by omega⟩
    have h10 : ¬ ((1 : Int32) = 0) := by decide
    rw [chas1 a6 g.1 g.2, if_pos g, Option.bind_some, Option.bind_some, if_neg h10, if_neg h10]
    by_cases c0 : k < 0
    · rw [if_pos c0, if_pos c0]; exact ⟨_, rfl, rfl⟩
    rw [if_neg c0, if_neg c0, if_pos hi, if_pos hi2, if_pos hi2, if_pos hi, zcl, b4]
    by_cases c1 : lengths n.toInt.toNat ≤ k
    · rw [if_pos c1, if_pos c1]; exact ⟨_, rfl, rfl⟩
    rw [if_neg c1, if_neg c1]
    rw [zlt, z0] at c0
    rw [zle] at c1
    have e1 : (starts n.toInt.toNat + k).toInt = (starts n.toInt.toNat).toInt + k.toInt := zadd (by omega) (by omega)
    have e2 : (ms n.toInt.toNat + k).toInt = (starts n.toInt.toNat).toInt + k.toInt := by rw [zadd (by omega) (by omega), b3]; omega
    have hi3 : ix (ms n.toInt.toNat + k) 16000 := by
      show 0 ≤ _ ∧ _ < _
      rw [e2]; omega
    rw [cat a8, if_pos hi3]
    refine ⟨_, rfl, ?_⟩
    rw [catv_in (by omega) (by omega), zcl, zcl, e1, e2]
    obtain ⟨f1, -⟩ := hR.2.2.1 ((starts n.toInt.toNat).toInt + k.toInt).toNat (by omega)
    rw [Nat.mul_zero, Nat.zero_add] at f1
    rw [f1]
  · rw [chas0 a6 g, if_neg g]
    exact ⟨_, rfl, rfl⟩
theorem sim_count (hR : DR 0 kinds starts lengths depths numbers b_cells b_size b_tooLong openKinds size depth named mk mn ms ml mw mp mi mb mo mm md) (ts ls os : Int32) (n : Int32) : ∃ r, fX6_count ts ls os b_size size depth n = some r ∧ fX7_count mi mb md ts ls os n = some r := by
  obtain ⟨a1, a2, a3, a4, a5, a6, a7, a8, a9, a10, a11, a12⟩ := id hR.1
  have c0 : Int32.toNatClampNeg 0 = 0 := by decide
  have w := rwhole (mi := mi) (md := md) (d := 0) (by omega)
  rw [nI_0, a1, a3] at w
  unfold fX6_count bX6_count_0 fX7_count bX7_count_0 fX0_size bX0_size_0 fX0_textBytes bX0_textBytes_0 fX2_size bX2_size_0
  rw [w, cwhole, c0, a1, a2, if_pos i02, if_pos i02]
  by_cases k0 : n = 0
  · rw [if_pos k0, if_pos k0]; exact ⟨_, rfl, rfl⟩
  rw [if_neg k0, if_neg k0]
  by_cases k1 : n = 1
  · rw [if_pos k1, if_pos k1, Option.bind_some]
    by_cases g : 0 < size.toInt ∧ depth.toInt = 0
    · rw [if_pos g]; exact ⟨_, rfl, rfl⟩
    · rw [if_neg g]; exact ⟨_, rfl, rfl⟩
  rw [if_neg k1, if_neg k1]
  by_cases k2 : n = 2
  · rw [if_pos k2, if_pos k2]; exact ⟨_, rfl, rfl⟩
  rw [if_neg k2, if_neg k2]
  by_cases k3 : n = 3
  · rw [if_pos k3, if_pos k3]; exact ⟨_, rfl, rfl⟩
  rw [if_neg k3, if_neg k3]
  by_cases k4 : n = 4
  · rw [if_pos k4, if_pos k4]; exact ⟨_, rfl, rfl⟩
  rw [if_neg k4, if_neg k4]
  by_cases k5 : n = 5
  · rw [if_pos k5, if_pos k5]; exact ⟨_, rfl, rfl⟩
  rw [if_neg k5, if_neg k5]
  exact ⟨_, rfl, rfl⟩
theorem csound (hX : DX kinds depths size depth) (h0 : 0 ≤ size.toInt) (h1 : size.toInt ≤ 1500) (h2 : depth.toInt ≤ size.toInt) : ∀ (n fuel : Nat) (x1 x2 : Int32), n < fuel → 0 ≤ x2.toInt → x2.toInt + n = size.toInt → 0 ≤ x1.toInt → x1.toInt ≤ 1 → (x2.toInt = 0 → x1.toInt = 0) → bX0_isSound_4 fuel kinds depths size depth x1 x2 = some 1 := by
  intro n
  induction n with
  | zero =>
    intro fuel x1 x2 hf h3 h4 h5 h6 h7
    obtain ⟨f, rfl⟩ : ∃ f, fuel = f + 1 := ⟨fuel - 1, by omega⟩
    rw [bX0_isSound_4, if_pos (by rw [zle]; omega), if_neg (by rw [zlt, z1]; omega), if_neg (by rw [zlt]; omega)]
  | succ n ih =>
    intro fuel x1 x2 hf h3 h4 h5 h6 h7
    obtain ⟨f, rfl⟩ : ∃ f, fuel = f + 1 := ⟨fuel - 1, by omega⟩
    have e : (x2 + 1).toInt = x2.toInt + 1 := by rw [zadd (by rw [z1]; omega) (by rw [z1]; omega), z1]
    rw [bX0_isSound_4, if_neg (by rw [zle]; omega), cdepth h1 h3 (by omega), Option.bind_some, ckind h1 h3 (by omega), Option.bind_some]
    by_cases g : depths x2.toInt.toNat = 0
    · rw [if_pos g]
      by_cases g2 : kinds x2.toInt.toNat = 11
      · rw [if_pos g2]
        exact ih f x1 (x2 + 1) (by omega) (by omega) (by omega) h5 h6 (by omega)
      · rw [if_neg g2]
        have g3 : x2.toInt = 0 := by
          refine Classical.byContradiction fun h => g2 (hX.1 x2.toInt.toNat (by omega) (by omega) ?_)
          rw [g, z0]
        have h8 := h7 g3
        have e1 : (x1 + 1).toInt = 1 := by rw [zadd (by rw [z1]; omega) (by rw [z1]; omega), z1]; omega
        exact ih f (x1 + 1) (x2 + 1) (by omega) (by omega) (by omega) (by omega) (by omega) (by omega)
    · rw [if_neg g]
      exact ih f x1 (x2 + 1) (by omega) (by omega) (by omega) h5 h6 (by omega)
theorem sim_check (hR : DR 0 kinds starts lengths depths numbers b_cells b_size b_tooLong openKinds size depth named mk mn ms ml mw mp mi mb mo mm md) : ∃ r, fX6_check kinds depths size depth = some r ∧ fX7_check = some r := by
  obtain ⟨a1, a2, a3, a4, a5, a6, a7, a8, a9, a10, a11, a12⟩ := id hR.1
  unfold fX6_check bX6_check_0 fX0_isSound bX0_isSound_0 fX7_check bX7_check_0
  rw [csound hR.2.2.2.2 a5 a6 a11 size.toInt.toNat FU 0 0 (by unfold FU; omega) (by decide) (by rw [z0]; omega) (by decide) (by decide) (fun _ => by decide), Option.bind_some]
  exact ⟨_, rfl, rfl⟩
end Ask
section AskRow
variable {c m : Nat → Int32} {s t ms : Int32}
theorem sim_written (h : RR 6000 c s t m ms) (n : Int32) : ∃ r, fX6_written c s n = some r ∧ fX7_written m ms n = some r := by
  obtain ⟨h1, h2, h3, h4, h5⟩ := h
  unfold fX6_written bX6_written_0 fX7_written bX7_written_0
  rw [cat h4, Option.bind_some, h1]
  refine ⟨_, rfl, ?_⟩
  unfold catv
  by_cases g : n < 0
  · rw [if_pos g, if_pos g]
  by_cases g2 : s ≤ n
  · rw [if_neg g, if_neg g, if_pos g2, if_pos g2]
  · rw [if_neg g, if_neg g, if_neg g2, if_neg g2]
    rw [zlt, z0] at g
    rw [zle] at g2
    rw [if_pos ⟨by omega, by omega⟩, zcl, (h5 n.toInt.toNat (by omega)).1]
theorem sim_type (h : RR 1000 c s t m ms) (v : Int64) (n : Int32) : ∃ r r', fX6_type c s t v n = some r ∧ fX7_type m ms v n = some r' ∧ r.1 = r'.1 ∧ RR 1000 r.2.1 r.2.2.1 r.2.2.2 r'.2.1 r'.2.2 := by
  obtain ⟨h1, h2, h3, h4, h5⟩ := id h
  unfold fX6_type bX6_type_0 fX2_pushLowest bX2_pushLowest_0 fX7_type bX7_type_0
  by_cases g1 : n < 1
  · rw [if_pos g1, if_pos g1]; exact ⟨_, _, rfl, rfl, rfl, h⟩
  rw [if_neg g1, if_neg g1]
  by_cases g8 : 8 < n
  · rw [if_pos g8, if_pos g8]; exact ⟨_, _, rfl, rfl, rfl, h⟩
  rw [if_neg g8, if_neg g8]
  rw [zlt, z1] at g1
  rw [zlt, show (8 : Int32).toInt = 8 by decide] at g8
  have e1 : (nI 1000 - s).toInt = 1000 - s.toInt := by rw [zsub (by rw [znI (by omega)]; omega) (by rw [znI (by omega)]; omega), znI (by omega)]; rfl
  have e2 : (ms + n).toInt = s.toInt + n.toInt := by rw [h1, zadd (by omega) (by omega)]
  by_cases g : s.toInt + n.toInt ≤ 1000
  · rw [if_pos (by rw [zle, e1]; omega), if_pos (by rw [zle, e2, show (1000 : Int32).toInt = 1000 by decide]; omega)]
    subst h1 h2
    have e3 : n = nI n.toInt.toNat := zNeg (by omega)
    obtain ⟨c', s', m', k1, k2, k3⟩ := ctype v n.toInt.toNat FU c m ms (by unfold FU; omega) (by omega) (by omega) h
    rw [← e3] at k1 k2
    rw [k1, k2, Option.bind_some]
    exact ⟨_, _, rfl, rfl, rfl, k3⟩
  · rw [if_neg (by rw [zle, e1]; omega), if_neg (by rw [zle, e2, show (1000 : Int32).toInt = 1000 by decide]; omega)]
    exact ⟨_, _, rfl, rfl, rfl, h⟩
theorem sim_load (h : RR 6000 c s t m ms) (v : Int64) (n : Int32) : ∃ r r', fX6_load c s t v n = some r ∧ fX7_load m ms v n = some r' ∧ r.1 = r'.1 ∧ RR 6000 r.2.1 r.2.2.1 r.2.2.2 r'.2.1 r'.2.2 := by
  obtain ⟨h1, h2, h3, h4, h5⟩ := id h
  unfold fX6_load bX6_load_0 fX2_pushLowest bX2_pushLowest_0 fX7_load bX7_load_0
  by_cases g1 : n < 1
  · rw [if_pos g1, if_pos g1]; exact ⟨_, _, rfl, rfl, rfl, h⟩
  rw [if_neg g1, if_neg g1]
  by_cases g8 : 8 < n
  · rw [if_pos g8, if_pos g8]; exact ⟨_, _, rfl, rfl, rfl, h⟩
  rw [if_neg g8, if_neg g8]
  rw [zlt, z1] at g1
  rw [zlt, show (8 : Int32).toInt = 8 by decide] at g8
  have e1 : (nI 6000 - s).toInt = 6000 - s.toInt := by rw [zsub (by rw [znI (by omega)]; omega) (by rw [znI (by omega)]; omega), znI (by omega)]; rfl
  have e2 : (ms + n).toInt = s.toInt + n.toInt := by rw [h1, zadd (by omega) (by omega)]
  by_cases g : s.toInt + n.toInt ≤ 6000
  · rw [if_pos (by rw [zle, e1]; omega), if_pos (by rw [zle, e2, show (6000 : Int32).toInt = 6000 by decide]; omega)]
    subst h1 h2
    have e3 : n = nI n.toInt.toNat := zNeg (by omega)
    obtain ⟨c', s', m', k1, k2, k3⟩ := cload v n.toInt.toNat FU c m ms (by unfold FU; omega) (by omega) (by omega) h
    rw [← e3] at k1 k2
    rw [k1, k2, Option.bind_some]
    exact ⟨_, _, rfl, rfl, rfl, k3⟩
  · rw [if_neg (by rw [zle, e1]; omega), if_neg (by rw [zle, e2, show (6000 : Int32).toInt = 6000 by decide]; omega)]
    exact ⟨_, _, rfl, rfl, rfl, h⟩
end AskRow
