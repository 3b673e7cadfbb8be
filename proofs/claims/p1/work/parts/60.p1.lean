/-! ONE CALL ON FRESH OBJECTS -/
set_option maxRecDepth 100000 in
set_option maxHeartbeats 4000000 in
theorem L_end (xs : Nat → Int32) (L nn : Nat) (typed_cells : Nat → Int32) (typed_size : Int32) (typed_tooLong : Int32) (loaded_cells : Nat → Int32) (loaded_size : Int32) (loaded_tooLong : Int32) (output_cells : Nat → Int32) (output_size : Int32) (output_tooLong : Int32) (spareOutput_cells : Nat → Int32) (spareOutput_size : Int32) (spareOutput_tooLong : Int32) (doc_kinds : Nat → Int32) (doc_starts : Nat → Int32) (doc_lengths : Nat → Int32) (doc_depths : Nat → Int32) (doc_numbers : Nat → Int64) (doc_b_cells : Nat → Int32) (doc_b_size : Int32) (doc_b_tooLong : Int32) (doc_openKinds : Nat → Int32) (doc_size : Int32) (doc_depth : Int32) (doc_named : Int32) (sd_kinds : Nat → Int32) (sd_starts : Nat → Int32) (sd_lengths : Nat → Int32) (sd_depths : Nat → Int32) (sd_numbers : Nat → Int64) (sd_b_cells : Nat → Int32) (sd_b_size : Int32) (sd_b_tooLong : Int32) (sd_openKinds : Nat → Int32) (sd_size : Int32) (sd_depth : Int32) (sd_named : Int32) (nt_items : Nat → Int32) (nt_chain : Nat → Int32) (nt_heads : Nat → Int32) (nt_size : Int32) (tt_items : Nat → Int32) (tt_chain : Nat → Int32) (tt_heads : Nat → Int32) (tt_size : Int32) (w_opened : Nat → Int32) (w_flags : Int32) (r_flags : Int32) (r_at : Int32) (r_fault : Int32) (r_faultAt : Int32) (r_first : Int32) (r_kind : Int32) (r_number : Int64) (r_form : Int32) (r_start : Int32) (r_length : Int32) (r_told : Int32) (r_over : Int32) (m_typed : Nat → Int32) (m_loaded : Nat → Int32) (m_written : Nat → Int32) (m_draft : Nat → Int32) (m_kind : Nat → Int32) (m_number : Nat → Int64) (m_start : Nat → Int32) (m_length : Nat → Int32) (m_within : Nat → Int32) (m_pool : Nat → Int32) (m_items : Nat → Int32) (m_bytes : Nat → Int32) (m_isObject : Nat → Int32) (m_named : Nat → Int32) (m_depth : Nat → Int32) (m_table : Nat → Int32) (m_tableSize : Nat → Int32) (m_ends : Nat → Int32) (m_typedSize : Int32) (m_loadedSize : Int32) (m_writtenSize : Int32) (m_draftSize : Int32) (m_at : Int32) (m_flags : Int32) (m_fault : Int32) (m_place : Int32) (m_first : Int32) (m_got : Int32) (x3 : Int32) (h : ((nI L) - 4) < x3) : bL_18 xs L (nn + 1) typed_cells typed_size typed_tooLong loaded_cells loaded_size loaded_tooLong output_cells output_size output_tooLong spareOutput_cells spareOutput_size spareOutput_tooLong doc_kinds doc_starts doc_lengths doc_depths doc_numbers doc_b_cells doc_b_size doc_b_tooLong doc_openKinds doc_size doc_depth doc_named sd_kinds sd_starts sd_lengths sd_depths sd_numbers sd_b_cells sd_b_size sd_b_tooLong sd_openKinds sd_size sd_depth sd_named nt_items nt_chain nt_heads nt_size tt_items tt_chain tt_heads tt_size w_opened w_flags r_flags r_at r_fault r_faultAt r_first r_kind r_number r_form r_start r_length r_told r_over m_typed m_loaded m_written m_draft m_kind m_number m_start m_length m_within m_pool m_items m_bytes m_isObject m_named m_depth m_table m_tableSize m_ends m_typedSize m_loadedSize m_writtenSize m_draftSize m_at m_flags m_fault m_place m_first m_got x3 = some 1 := by
  unfold bL_18
  exact if_pos h
theorem o_bnd {α β : Type} {x : Option α} {f : α → Option β} {r : α} {y : Option β} (h : x = some r) (h2 : f r = y) : x.bind f = y := by subst h; exact h2
theorem o_map {α β : Type} {x : Option α} {g : α → β} {b : β} (h : x.map g = some b) : ∃ r, x = some r ∧ g r = b := by
  cases x with
  | none => cases h
  | some r => exact ⟨r, rfl, Option.some.inj h⟩
theorem p1_pm (x : Int32) : x + (-1) = x - 1 := (Int32.sub_eq_add_neg x 1).symm
theorem p1_pl (x1 : Int64) (cap : Nat) (hc : cap < 2 ^ 31) : ∀ (k fuel : Nat) (cells : Nat → Int32) (s : Nat) (t : Int32), k < fuel → s + k ≤ cap → ∃ c', bX2_pushLowest_32 fuel cap cells (nI s) t x1 (nI k - 1) = some (nI (s + k), c', nI (s + k), t) := by
  intro k
  induction k with
  | zero =>
    intro fuel cells s t hf hs
    obtain ⟨f, rfl⟩ : ∃ f, fuel = f + 1 := ⟨fuel - 1, by omega⟩
    refine ⟨cells, ?_⟩
    unfold bX2_pushLowest_32
    exact if_pos (by decide)
  | succ k ih =>
    intro fuel cells s t hf hs
    obtain ⟨f, rfl⟩ : ∃ f, fuel = f + 1 := ⟨fuel - 1, by omega⟩
    rw [nI_pred]
    unfold bX2_pushLowest_32
    rw [if_neg (nI_pos (by omega))]
    unfold fX2_push bX2_push_0
    rw [if_neg (nI_ge (by omega) hc), if_pos ⟨by rw [nI_toInt (by omega)]; omega, by rw [nI_toInt (by omega)]; omega⟩, Option.bind_some, nI_1, p1_pm]
    obtain ⟨c', h⟩ := ih f _ (s + 1) t (by omega) (by omega)
    exact ⟨c', h.trans (by rw [show s + 1 + k = s + (k + 1) by omega])⟩
theorem p1_tl (x1 : Int64) : ∀ (k fuel : Nat) (cells : Nat → Int32) (s : Nat), k < fuel → s + k ≤ 1000 → ∃ c', bX7_type_30 fuel cells (nI s) x1 (nI k - 1) = some (nI (s + k), c', nI (s + k)) := by
  intro k
  induction k with
  | zero =>
    intro fuel cells s hf hs
    obtain ⟨f, rfl⟩ : ∃ f, fuel = f + 1 := ⟨fuel - 1, by omega⟩
    refine ⟨cells, ?_⟩
    unfold bX7_type_30
    exact if_pos (by decide)
  | succ k ih =>
    intro fuel cells s hf hs
    obtain ⟨f, rfl⟩ : ∃ f, fuel = f + 1 := ⟨fuel - 1, by omega⟩
    rw [nI_pred]
    unfold bX7_type_30
    rw [if_neg (nI_pos (by omega)), if_pos ⟨by rw [nI_toInt (by omega)]; omega, by rw [nI_toInt (by omega)]; omega⟩, nI_1, p1_pm]
    obtain ⟨c', h⟩ := ih f _ (s + 1) (by omega) (by omega)
    exact ⟨c', h.trans (by rw [show s + 1 + k = s + (k + 1) by omega])⟩
theorem p1_ll (x1 : Int64) : ∀ (k fuel : Nat) (cells : Nat → Int32) (s : Nat), k < fuel → s + k ≤ 6000 → ∃ c', bX7_load_30 fuel cells (nI s) x1 (nI k - 1) = some (nI (s + k), c', nI (s + k)) := by
  intro k
  induction k with
  | zero =>
    intro fuel cells s hf hs
    obtain ⟨f, rfl⟩ : ∃ f, fuel = f + 1 := ⟨fuel - 1, by omega⟩
    refine ⟨cells, ?_⟩
    unfold bX7_load_30
    exact if_pos (by decide)
  | succ k ih =>
    intro fuel cells s hf hs
    obtain ⟨f, rfl⟩ : ∃ f, fuel = f + 1 := ⟨fuel - 1, by omega⟩
    rw [nI_pred]
    unfold bX7_load_30
    rw [if_neg (nI_pos (by omega)), if_pos ⟨by rw [nI_toInt (by omega)]; omega, by rw [nI_toInt (by omega)]; omega⟩, nI_1, p1_pm]
    obtain ⟨c', h⟩ := ih f _ (s + 1) (by omega) (by omega)
    exact ⟨c', h.trans (by rw [show s + 1 + k = s + (k + 1) by omega])⟩
theorem p1_8 {n : Int32} (h1 : ¬ n < 1) (h8 : ¬ 8 < n) : ∃ k : Nat, 1 ≤ k ∧ k ≤ 8 ∧ n = nI k := by
  rw [Int32.lt_iff_toInt_lt] at h1 h8
  have e1 : (1 : Int32).toInt = 1 := by decide
  have e8 : (8 : Int32).toInt = 8 := by decide
  rw [e1] at h1; rw [e8] at h8
  refine ⟨n.toInt.toNat, by omega, by omega, ?_⟩
  apply Int32.toInt_inj.mp
  rw [nI_toInt (by omega)]; omega
theorem p1_r {v : Int64} : ((Int64.toUInt64 v >>> ((Int32.toInt64 32).toUInt64 &&& Int64.toUInt64 63)).toInt64 = 0) ↔ (¬ v < 0 ∧ v < 4294967296) := by
  have e : ((Int32.toInt64 32).toUInt64 &&& Int64.toUInt64 63) = 32 := by decide
  rw [e]
  have hs : (v.toUInt64 >>> (32 : UInt64)).toNat = v.toBitVec.toNat / 2 ^ 32 := by
    rw [UInt64.toNat_shiftRight]
    show v.toBitVec.toNat >>> (32 % 64) = _
    rw [Nat.shiftRight_eq_div_pow]
  have hz : (v.toUInt64 >>> (32 : UInt64)).toInt64 = 0 ↔ (v.toUInt64 >>> (32 : UInt64)).toNat = 0 := by
    constructor
    · intro h
      have h2 := congrArg Int64.toUInt64 h
      rw [UInt64.toUInt64_toInt64] at h2
      rw [h2]; rfl
    · intro h
      have h2 : v.toUInt64 >>> (32 : UInt64) = 0 := UInt64.toNat_inj.mp h
      rw [h2]; rfl
  rw [hz, hs, Int64.lt_iff_toInt_lt, Int64.lt_iff_toInt_lt]
  have e0 : (0 : Int64).toInt = 0 := by decide
  have e1 : (4294967296 : Int64).toInt = 4294967296 := by decide
  rw [e0, e1]
  have hi : v.toInt = if 2 * v.toBitVec.toNat < 2 ^ 64 then (v.toBitVec.toNat : Int) else v.toBitVec.toNat - 2 ^ 64 := BitVec.toInt_eq_toNat_cond v.toBitVec
  have hb := v.toBitVec.isLt
  rw [hi]
  split <;> omega
theorem p1_has (n : Int32) : fX0_has 0 n = some 0 := by
  unfold fX0_has bX0_has_0
  by_cases h : n < 0
  · exact if_pos h
  · rw [if_neg h, if_pos (Int32.not_lt.mp h)]
theorem p1_isItem (n : Int32) : fX7_isItem (fun _ => 0) n = some 0 := by
  unfold fX7_isItem bX7_isItem_0
  by_cases h : n < 0
  · exact if_pos h
  · exact (if_neg h).trans ((if_pos (by decide)).trans (if_pos (Int32.not_lt.mp h)))
set_option maxRecDepth 100000 in
set_option maxHeartbeats 4000000 in
theorem p1_type (v : Int64) (n : Int32) : ∃ r r', fX6_type (fun _ => 0) 0 0 v n = some r ∧ fX7_type (fun _ => 0) 0 v n = some r' ∧ r.1 = r'.1 := by
  unfold fX6_type bX6_type_0 fX2_pushLowest bX2_pushLowest_0 fX7_type bX7_type_0
  by_cases h1 : n < 1
  · rw [if_pos h1, if_pos h1]; exact ⟨_, _, rfl, rfl, rfl⟩
  rw [if_neg h1, if_neg h1]
  by_cases h8 : 8 < n
  · rw [if_pos h8, if_pos h8]; exact ⟨_, _, rfl, rfl, rfl⟩
  rw [if_neg h8, if_neg h8]
  obtain ⟨k, hk1, hk8, rfl⟩ := p1_8 h1 h8
  rw [if_pos (show nI k ≤ nI 1000 - 0 from by rw [show (nI 1000 - 0 : Int32) = nI 1000 by decide]; exact nI_le (by omega) (by omega)), if_pos (show (0 : Int32) + nI k ≤ 1000 from by rw [show (0 : Int32) + nI k = nI k by rw [← nI_0, nI_add, Nat.zero_add]]; exact nI_le (b := 1000) (by omega) (by omega))]
  obtain ⟨c1, e1⟩ := p1_pl v 1000 (by decide) k FU (fun _ => 0) 0 0 (by unfold FU; omega) (by omega)
  obtain ⟨c2, e2⟩ := p1_tl v k FU (fun _ => 0) 0 (by unfold FU; omega) (by omega)
  rw [nI_0] at e1 e2
  rw [e1, e2]
  exact ⟨_, _, rfl, rfl, rfl⟩
set_option maxRecDepth 100000 in
set_option maxHeartbeats 4000000 in
theorem p1_value (n : Int32) : ∃ r r', fX6_value (fun _ => 0) 0 0 (fun _ => 0) (fun _ => 0) (fun _ => 0) (fun _ => 0) (fun _ => 0) (fun _ => 0) 0 0 (fun _ => 0) 0 0 0 n = some r ∧ fX7_value (fun _ => 0) (fun _ => 0) (fun _ => 0) (fun _ => 0) (fun _ => 0) (fun _ => 0) (fun _ => 0) (fun _ => 0) (fun _ => 0) (fun _ => 0) (fun _ => 0) (fun _ => 0) 0 n = some r' ∧ r.1 = r'.1 := by
  by_cases h0 : n < 0
  · have n3 : ¬ n = 3 := fun h => absurd (h ▸ h0) (by decide)
    have n4 : ¬ n = 4 := fun h => absurd (h ▸ h0) (by decide)
    unfold fX6_value bX6_value_0 fX7_value bX7_value_0 bX7_value_15
    rw [if_pos h0, if_neg n3, if_neg n4, if_pos h0]
    exact ⟨_, _, rfl, rfl, rfl⟩
  by_cases h6 : 6 < n
  · have n3 : ¬ n = 3 := fun h => absurd (h ▸ h6) (by decide)
    have n4 : ¬ n = 4 := fun h => absurd (h ▸ h6) (by decide)
    unfold fX6_value bX6_value_0 fX7_value bX7_value_0 bX7_value_15
    rw [if_neg h0, if_neg (Int32.not_le.mpr h6), if_neg n3, if_neg n4, if_neg h0, if_pos h6]
    exact ⟨_, _, rfl, rfl, rfl⟩
  obtain ⟨k, hk, rfl⟩ : ∃ k : Nat, k ≤ 6 ∧ n = nI k := by
    rw [Int32.lt_iff_toInt_lt] at h0 h6
    have e0 : (0 : Int32).toInt = 0 := by decide
    have e6 : (6 : Int32).toInt = 6 := by decide
    rw [e0] at h0; rw [e6] at h6
    refine ⟨n.toInt.toNat, by omega, ?_⟩
    apply Int32.toInt_inj.mp
    rw [nI_toInt (by omega)]; omega
  rcases (show k = 0 ∨ k = 1 ∨ k = 2 ∨ k = 3 ∨ k = 4 ∨ k = 5 ∨ k = 6 by omega) with rfl | rfl | rfl | rfl | rfl | rfl | rfl
  · obtain ⟨r, h, e⟩ := o_map (show (fX6_value (fun _ => 0) 0 0 (fun _ => 0) (fun _ => 0) (fun _ => 0) (fun _ => 0) (fun _ => 0) (fun _ => 0) 0 0 (fun _ => 0) 0 0 0 (nI 0)).map (fun r => r.1) = some (1 : Int32) by decide +kernel); obtain ⟨r', h', e'⟩ := o_map (show (fX7_value (fun _ => 0) (fun _ => 0) (fun _ => 0) (fun _ => 0) (fun _ => 0) (fun _ => 0) (fun _ => 0) (fun _ => 0) (fun _ => 0) (fun _ => 0) (fun _ => 0) (fun _ => 0) 0 (nI 0)).map (fun r => r.1) = some (1 : Int32) by decide +kernel); exact ⟨r, r', h, h', e.trans e'.symm⟩
  · obtain ⟨r, h, e⟩ := o_map (show (fX6_value (fun _ => 0) 0 0 (fun _ => 0) (fun _ => 0) (fun _ => 0) (fun _ => 0) (fun _ => 0) (fun _ => 0) 0 0 (fun _ => 0) 0 0 0 (nI 1)).map (fun r => r.1) = some (1 : Int32) by decide +kernel); obtain ⟨r', h', e'⟩ := o_map (show (fX7_value (fun _ => 0) (fun _ => 0) (fun _ => 0) (fun _ => 0) (fun _ => 0) (fun _ => 0) (fun _ => 0) (fun _ => 0) (fun _ => 0) (fun _ => 0) (fun _ => 0) (fun _ => 0) 0 (nI 1)).map (fun r => r.1) = some (1 : Int32) by decide +kernel); exact ⟨r, r', h, h', e.trans e'.symm⟩
  · obtain ⟨r, h, e⟩ := o_map (show (fX6_value (fun _ => 0) 0 0 (fun _ => 0) (fun _ => 0) (fun _ => 0) (fun _ => 0) (fun _ => 0) (fun _ => 0) 0 0 (fun _ => 0) 0 0 0 (nI 2)).map (fun r => r.1) = some (1 : Int32) by decide +kernel); obtain ⟨r', h', e'⟩ := o_map (show (fX7_value (fun _ => 0) (fun _ => 0) (fun _ => 0) (fun _ => 0) (fun _ => 0) (fun _ => 0) (fun _ => 0) (fun _ => 0) (fun _ => 0) (fun _ => 0) (fun _ => 0) (fun _ => 0) 0 (nI 2)).map (fun r => r.1) = some (1 : Int32) by decide +kernel); exact ⟨r, r', h, h', e.trans e'.symm⟩
  · obtain ⟨r, h, e⟩ := o_map (show (fX6_value (fun _ => 0) 0 0 (fun _ => 0) (fun _ => 0) (fun _ => 0) (fun _ => 0) (fun _ => 0) (fun _ => 0) 0 0 (fun _ => 0) 0 0 0 (nI 3)).map (fun r => r.1) = some (1 : Int32) by decide +kernel); obtain ⟨r', h', e'⟩ := o_map (show (fX7_value (fun _ => 0) (fun _ => 0) (fun _ => 0) (fun _ => 0) (fun _ => 0) (fun _ => 0) (fun _ => 0) (fun _ => 0) (fun _ => 0) (fun _ => 0) (fun _ => 0) (fun _ => 0) 0 (nI 3)).map (fun r => r.1) = some (1 : Int32) by decide +kernel); exact ⟨r, r', h, h', e.trans e'.symm⟩
  · obtain ⟨r, h, e⟩ := o_map (show (fX6_value (fun _ => 0) 0 0 (fun _ => 0) (fun _ => 0) (fun _ => 0) (fun _ => 0) (fun _ => 0) (fun _ => 0) 0 0 (fun _ => 0) 0 0 0 (nI 4)).map (fun r => r.1) = some (1 : Int32) by decide +kernel); obtain ⟨r', h', e'⟩ := o_map (show (fX7_value (fun _ => 0) (fun _ => 0) (fun _ => 0) (fun _ => 0) (fun _ => 0) (fun _ => 0) (fun _ => 0) (fun _ => 0) (fun _ => 0) (fun _ => 0) (fun _ => 0) (fun _ => 0) 0 (nI 4)).map (fun r => r.1) = some (1 : Int32) by decide +kernel); exact ⟨r, r', h, h', e.trans e'.symm⟩
  · obtain ⟨r, h, e⟩ := o_map (show (fX6_value (fun _ => 0) 0 0 (fun _ => 0) (fun _ => 0) (fun _ => 0) (fun _ => 0) (fun _ => 0) (fun _ => 0) 0 0 (fun _ => 0) 0 0 0 (nI 5)).map (fun r => r.1) = some (1 : Int32) by decide +kernel); obtain ⟨r', h', e'⟩ := o_map (show (fX7_value (fun _ => 0) (fun _ => 0) (fun _ => 0) (fun _ => 0) (fun _ => 0) (fun _ => 0) (fun _ => 0) (fun _ => 0) (fun _ => 0) (fun _ => 0) (fun _ => 0) (fun _ => 0) 0 (nI 5)).map (fun r => r.1) = some (1 : Int32) by decide +kernel); exact ⟨r, r', h, h', e.trans e'.symm⟩
  · obtain ⟨r, h, e⟩ := o_map (show (fX6_value (fun _ => 0) 0 0 (fun _ => 0) (fun _ => 0) (fun _ => 0) (fun _ => 0) (fun _ => 0) (fun _ => 0) 0 0 (fun _ => 0) 0 0 0 (nI 6)).map (fun r => r.1) = some (1 : Int32) by decide +kernel); obtain ⟨r', h', e'⟩ := o_map (show (fX7_value (fun _ => 0) (fun _ => 0) (fun _ => 0) (fun _ => 0) (fun _ => 0) (fun _ => 0) (fun _ => 0) (fun _ => 0) (fun _ => 0) (fun _ => 0) (fun _ => 0) (fun _ => 0) 0 (nI 6)).map (fun r => r.1) = some (1 : Int32) by decide +kernel); exact ⟨r, r', h, h', e.trans e'.symm⟩
set_option maxRecDepth 100000 in
set_option maxHeartbeats 4000000 in
theorem p1_integer (v : Int64) : ∃ r r', fX6_integer (fun _ => 0) (fun _ => 0) (fun _ => 0) (fun _ => 0) (fun _ => 0) 0 (fun _ => 0) 0 0 0 v = some r ∧ fX7_integer (fun _ => 0) (fun _ => 0) (fun _ => 0) (fun _ => 0) (fun _ => 0) (fun _ => 0) (fun _ => 0) (fun _ => 0) (fun _ => 0) (fun _ => 0) v = some r' ∧ r.1 = r'.1 := by
  exact ⟨_, _, rfl, rfl, rfl⟩
set_option maxRecDepth 100000 in
set_option maxHeartbeats 4000000 in
theorem p1_real (v : Int64) (n : Int32) : ∃ r r', fX6_real (fun _ => 0) (fun _ => 0) (fun _ => 0) (fun _ => 0) (fun _ => 0) 0 (fun _ => 0) 0 0 0 v n = some r ∧ fX7_real (fun _ => 0) (fun _ => 0) (fun _ => 0) (fun _ => 0) (fun _ => 0) (fun _ => 0) (fun _ => 0) (fun _ => 0) (fun _ => 0) (fun _ => 0) v n = some r' ∧ r.1 = r'.1 := by
  by_cases h1 : n = 1
  · subst h1; exact ⟨_, _, rfl, rfl, rfl⟩
  unfold fX6_real bX6_real_0 fX7_real bX7_real_0
  rw [if_neg h1, if_neg h1]
  by_cases h0 : n = 0
  · rw [if_pos h0, if_pos h0]
    simp only [lg_cmp_eq, lg_cmp_lt, lg_cmp_ge]
    by_cases hr : ((Int64.toUInt64 v >>> ((Int32.toInt64 32).toUInt64 &&& Int64.toUInt64 63)).toInt64 = 0)
    · obtain ⟨a, b⟩ := p1_r.mp hr
      rw [if_pos hr, if_neg a, if_neg (Int64.not_le.mpr b)]
      subst h0
      exact ⟨_, _, rfl, rfl, rfl⟩
    · rw [if_neg hr]
      by_cases a : v < 0
      · rw [if_pos a]; exact ⟨_, _, rfl, rfl, rfl⟩
      · rw [if_neg a, if_pos (Int64.not_lt.mp (fun b => hr (p1_r.mpr ⟨a, b⟩)))]; exact ⟨_, _, rfl, rfl, rfl⟩
  · rw [if_neg h0, if_neg h0]; exact ⟨_, _, rfl, rfl, rfl⟩
set_option maxRecDepth 100000 in
theorem p1_name_6 : (fX6_name (fun _ => 0) 0 0 (fun _ => 0) (fun _ => 0) (fun _ => 0) (fun _ => 0) (fun _ => 0) (fun _ => 0) 0 0 (fun _ => 0) 0 0 0).map (fun r => r.1) = some (((-1)) : Int32) := by decide +kernel
set_option maxRecDepth 100000 in
theorem p1_name_7 : (fX7_name (fun _ => 0) (fun _ => 0) (fun _ => 0) (fun _ => 0) (fun _ => 0) (fun _ => 0) (fun _ => 0) (fun _ => 0) (fun _ => 0) (fun _ => 0) (fun _ => 0) (fun _ => 0) 0).map (fun r => r.1) = some (((-1)) : Int32) := by decide +kernel
theorem p1_name : ∃ r r', fX6_name (fun _ => 0) 0 0 (fun _ => 0) (fun _ => 0) (fun _ => 0) (fun _ => 0) (fun _ => 0) (fun _ => 0) 0 0 (fun _ => 0) 0 0 0 = some r ∧ fX7_name (fun _ => 0) (fun _ => 0) (fun _ => 0) (fun _ => 0) (fun _ => 0) (fun _ => 0) (fun _ => 0) (fun _ => 0) (fun _ => 0) (fun _ => 0) (fun _ => 0) (fun _ => 0) 0 = some r' ∧ r.1 = r'.1 := by
  obtain ⟨r, h, e⟩ := o_map p1_name_6; obtain ⟨r', h', e'⟩ := o_map p1_name_7; exact ⟨r, r', h, h', e.trans e'.symm⟩
set_option maxRecDepth 100000 in
theorem p1_end_6 : (fX6_end (fun _ => 0) (fun _ => 0) (fun _ => 0) (fun _ => 0) (fun _ => 0) 0 (fun _ => 0) 0 0 0).map (fun r => r.1) = some (((-1)) : Int32) := by decide +kernel
set_option maxRecDepth 100000 in
theorem p1_end_7 : (fX7_end (fun _ => 0) (fun _ => 0) (fun _ => 0) (fun _ => 0) (fun _ => 0) (fun _ => 0) (fun _ => 0) (fun _ => 0) (fun _ => 0) (fun _ => 0)).map (fun r => r.1) = some (((-1)) : Int32) := by decide +kernel
theorem p1_end : ∃ r r', fX6_end (fun _ => 0) (fun _ => 0) (fun _ => 0) (fun _ => 0) (fun _ => 0) 0 (fun _ => 0) 0 0 0 = some r ∧ fX7_end (fun _ => 0) (fun _ => 0) (fun _ => 0) (fun _ => 0) (fun _ => 0) (fun _ => 0) (fun _ => 0) (fun _ => 0) (fun _ => 0) (fun _ => 0) = some r' ∧ r.1 = r'.1 := by
  obtain ⟨r, h, e⟩ := o_map p1_end_6; obtain ⟨r', h', e'⟩ := o_map p1_end_7; exact ⟨r, r', h, h', e.trans e'.symm⟩
set_option maxRecDepth 100000 in
theorem p1_drop_6 : (fX6_drop 0 0 0 0 0).map (fun r => r.1) = some ((0) : Int32) := by decide +kernel
set_option maxRecDepth 100000 in
theorem p1_drop_7 : (fX7_drop (fun _ => 0) (fun _ => 0) (fun _ => 0)).map (fun r => r.1) = some ((0) : Int32) := by decide +kernel
theorem p1_drop : ∃ r r', fX6_drop 0 0 0 0 0 = some r ∧ fX7_drop (fun _ => 0) (fun _ => 0) (fun _ => 0) = some r' ∧ r.1 = r'.1 := by
  obtain ⟨r, h, e⟩ := o_map p1_drop_6; obtain ⟨r', h', e'⟩ := o_map p1_drop_7; exact ⟨r, r', h, h', e.trans e'.symm⟩
set_option maxRecDepth 100000 in
set_option maxHeartbeats 4000000 in
theorem p1_write (n : Int32) : ∃ r r', fX6_write (fun _ => 0) 0 0 (fun _ => 0) (fun _ => 0) (fun _ => 0) (fun _ => 0) (fun _ => 0) (fun _ => 0) 0 0 0 (fun _ => 0) (fun _ => 0) (fun _ => 0) 0 (fun _ => 0) (fun _ => 0) (fun _ => 0) 0 (fun _ => 0) 0 n = some r ∧ fX7_write (fun _ => 0) (fun _ => 0) (fun _ => 0) (fun _ => 0) (fun _ => 0) (fun _ => 0) (fun _ => 0) (fun _ => 0) (fun _ => 0) (fun _ => 0) (fun _ => 0) (fun _ => 0) (fun _ => 0) 0 0 n = some r' ∧ r.1 = r'.1 ∧ r.2.1 = 0 := by
  unfold fX6_write bX6_write_0
  by_cases h0 : n < 0
  · rw [if_pos h0]; exact ⟨_, _, rfl, rfl, rfl, rfl⟩
  rw [if_neg h0]
  by_cases h7 : 7 < n
  · rw [if_pos h7]; exact ⟨_, _, rfl, rfl, rfl, rfl⟩
  rw [if_neg h7]
  exact ⟨_, _, rfl, rfl, rfl, rfl⟩
set_option maxRecDepth 100000 in
set_option maxHeartbeats 4000000 in
theorem p1_written (n : Int32) : ∃ r r', fX6_written (fun _ => 0) 0 n = some r ∧ fX7_written (fun _ => 0) 0 n = some r' ∧ r = r' := by
  unfold fX6_written bX6_written_0 fX2_at bX2_at_0 fX7_written bX7_written_0
  by_cases h0 : n < 0
  · rw [if_pos h0]; exact ⟨_, _, rfl, rfl, rfl⟩
  have h1 : 0 ≤ n := Int32.not_lt.mp h0
  rw [if_neg h0, if_pos h1]; exact ⟨_, _, rfl, rfl, rfl⟩
set_option maxRecDepth 100000 in
set_option maxHeartbeats 4000000 in
theorem p1_load (v : Int64) (n : Int32) : ∃ r r', fX6_load (fun _ => 0) 0 0 v n = some r ∧ fX7_load (fun _ => 0) 0 v n = some r' ∧ r.1 = r'.1 := by
  unfold fX6_load bX6_load_0 fX2_pushLowest bX2_pushLowest_0 fX7_load bX7_load_0
  by_cases h1 : n < 1
  · rw [if_pos h1, if_pos h1]; exact ⟨_, _, rfl, rfl, rfl⟩
  rw [if_neg h1, if_neg h1]
  by_cases h8 : 8 < n
  · rw [if_pos h8, if_pos h8]; exact ⟨_, _, rfl, rfl, rfl⟩
  rw [if_neg h8, if_neg h8]
  obtain ⟨k, hk1, hk8, rfl⟩ := p1_8 h1 h8
  rw [if_pos (show nI k ≤ nI 6000 - 0 from by rw [show (nI 6000 - 0 : Int32) = nI 6000 by decide]; exact nI_le (by omega) (by omega)), if_pos (show (0 : Int32) + nI k ≤ 6000 from by rw [show (0 : Int32) + nI k = nI k by rw [← nI_0, nI_add, Nat.zero_add]]; exact nI_le (b := 6000) (by omega) (by omega))]
  obtain ⟨c1, e1⟩ := p1_pl v 6000 (by decide) k FU (fun _ => 0) 0 0 (by unfold FU; omega) (by omega)
  obtain ⟨c2, e2⟩ := p1_ll v k FU (fun _ => 0) 0 (by unfold FU; omega) (by omega)
  rw [nI_0] at e1 e2
  rw [e1, e2]
  exact ⟨_, _, rfl, rfl, rfl⟩
set_option maxRecDepth 100000 in
theorem p1_loop_6 : (fX6_loop (fun _ => 0) 0 0 (fun _ => 0) 0).map (fun r => r.1) = some ((0) : Int32) := by decide +kernel
set_option maxRecDepth 100000 in
theorem p1_loop_7 : (fX7_loop (fun _ => 0) (fun _ => 0) 0 0).map (fun r => r.1) = some ((0) : Int32) := by decide +kernel
theorem p1_loop : ∃ r r', fX6_loop (fun _ => 0) 0 0 (fun _ => 0) 0 = some r ∧ fX7_loop (fun _ => 0) (fun _ => 0) 0 0 = some r' ∧ r.1 = r'.1 := by
  obtain ⟨r, h, e⟩ := o_map p1_loop_6; obtain ⟨r', h', e'⟩ := o_map p1_loop_7; exact ⟨r, r', h, h', e.trans e'.symm⟩
set_option maxRecDepth 100000 in
theorem p1_read_6 : (fX6_read (fun _ => 0) 0 0 (fun _ => 0) (fun _ => 0) (fun _ => 0) (fun _ => 0) (fun _ => 0) (fun _ => 0) 0 0 (fun _ => 0) 0 0 0 (fun _ => 0) (fun _ => 0) (fun _ => 0) 0 (fun _ => 0) (fun _ => 0) (fun _ => 0) 0 0 0 0 (-1) 0 0 0 0 0 0 0 0).map (fun r => (r.1, r.2.1)) = some ((1, 0) : Int32 × Int32) := by decide +kernel
set_option maxRecDepth 100000 in
theorem p1_read_7 : (fX7_read (fun _ => 0) (fun _ => 0) (fun _ => 0) (fun _ => 0) (fun _ => 0) (fun _ => 0) (fun _ => 0) (fun _ => 0) (fun _ => 0) (fun _ => 0) (fun _ => 0) (fun _ => 0) (fun _ => 0) (fun _ => 0) 0 0 0 0 (-1) 0 0).map (fun r => r.1) = some ((1) : Int32) := by decide +kernel
theorem p1_read : ∃ r r', fX6_read (fun _ => 0) 0 0 (fun _ => 0) (fun _ => 0) (fun _ => 0) (fun _ => 0) (fun _ => 0) (fun _ => 0) 0 0 (fun _ => 0) 0 0 0 (fun _ => 0) (fun _ => 0) (fun _ => 0) 0 (fun _ => 0) (fun _ => 0) (fun _ => 0) 0 0 0 0 (-1) 0 0 0 0 0 0 0 0 = some r ∧ fX7_read (fun _ => 0) (fun _ => 0) (fun _ => 0) (fun _ => 0) (fun _ => 0) (fun _ => 0) (fun _ => 0) (fun _ => 0) (fun _ => 0) (fun _ => 0) (fun _ => 0) (fun _ => 0) (fun _ => 0) (fun _ => 0) 0 0 0 0 (-1) 0 0 = some r' ∧ r.1 = r'.1 ∧ r.2.1 = 0 := by
  obtain ⟨r, h, e⟩ := o_map p1_read_6; obtain ⟨r', h', e'⟩ := o_map p1_read_7; exact ⟨r, r', h, h', (Prod.ext_iff.mp e).1.trans e'.symm, (Prod.ext_iff.mp e).2⟩
set_option maxRecDepth 100000 in
theorem p1_place_6 : (fX6_place (-1)).map id = some (((-1)) : Int32) := by decide +kernel
set_option maxRecDepth 100000 in
theorem p1_place_7 : (fX7_place (-1)).map id = some (((-1)) : Int32) := by decide +kernel
theorem p1_place : ∃ r r', fX6_place (-1) = some r ∧ fX7_place (-1) = some r' ∧ r = r' := by
  obtain ⟨r, h, e⟩ := o_map p1_place_6; obtain ⟨r', h', e'⟩ := o_map p1_place_7; exact ⟨r, r', h, h', e.trans e'.symm⟩
set_option maxRecDepth 100000 in
set_option maxHeartbeats 4000000 in
theorem p1_item (n : Int32) (k : Int32) : ∃ r r', fX6_item (fun _ => 0) (fun _ => 0) (fun _ => 0) 0 n k = some r ∧ fX7_item (fun _ => 0) (fun _ => 0) (fun _ => 0) (fun _ => 0) n k = some r' ∧ r = r' := by
  unfold fX6_item bX6_item_0 fX0_kindOf bX0_kindOf_0 fX0_lengthOf bX0_lengthOf_0 fX0_depthOf bX0_depthOf_0 fX7_item bX7_item_0
  rw [p1_has, p1_isItem]
  by_cases c0 : k = 0
  · rw [if_pos c0]; exact ⟨_, _, rfl, rfl, rfl⟩
  rw [if_neg c0]
  by_cases c1 : k = 1
  · rw [if_pos c1]; exact ⟨_, _, rfl, rfl, rfl⟩
  rw [if_neg c1]
  by_cases c2 : k = 2
  · rw [if_pos c2]; exact ⟨_, _, rfl, rfl, rfl⟩
  rw [if_neg c2]; exact ⟨_, _, rfl, rfl, rfl⟩
set_option maxRecDepth 100000 in
set_option maxHeartbeats 4000000 in
theorem p1_number (n : Int32) : ∃ r r', fX6_number (fun _ => 0) 0 n = some r ∧ fX7_number (fun _ => 0) (fun _ => 0) n = some r' ∧ r = r' := by
  unfold fX6_number bX6_number_0 fX0_numberOf bX0_numberOf_0 fX7_number bX7_number_0
  rw [p1_has, p1_isItem]; exact ⟨_, _, rfl, rfl, rfl⟩
set_option maxRecDepth 100000 in
set_option maxHeartbeats 4000000 in
theorem p1_byteOf (n : Int32) (k : Int32) : ∃ r r', fX6_byteOf (fun _ => 0) (fun _ => 0) (fun _ => 0) 0 0 n k = some r ∧ fX7_byteOf (fun _ => 0) (fun _ => 0) (fun _ => 0) (fun _ => 0) n k = some r' ∧ r = r' := by
  unfold fX6_byteOf bX6_byteOf_0 fX0_textByte bX0_textByte_0 fX7_byteOf bX7_byteOf_0
  rw [p1_has, p1_isItem]; exact ⟨_, _, rfl, rfl, rfl⟩
set_option maxRecDepth 100000 in
set_option maxHeartbeats 4000000 in
theorem p1_count (n : Int32) : ∃ r r', fX6_count 0 0 0 0 0 0 n = some r ∧ fX7_count (fun _ => 0) (fun _ => 0) (fun _ => 0) 0 0 0 n = some r' ∧ r = r' := by
  unfold fX6_count bX6_count_0 fX7_count bX7_count_0
  by_cases c0 : n = 0
  · rw [if_pos c0, if_pos c0]; exact ⟨_, _, rfl, rfl, rfl⟩
  rw [if_neg c0, if_neg c0]
  by_cases c1 : n = 1
  · rw [if_pos c1, if_pos c1]; exact ⟨_, _, rfl, rfl, rfl⟩
  rw [if_neg c1, if_neg c1]
  by_cases c2 : n = 2
  · rw [if_pos c2, if_pos c2]; exact ⟨_, _, rfl, rfl, rfl⟩
  rw [if_neg c2, if_neg c2]
  by_cases c3 : n = 3
  · rw [if_pos c3, if_pos c3]; exact ⟨_, _, rfl, rfl, rfl⟩
  rw [if_neg c3, if_neg c3]
  by_cases c4 : n = 4
  · rw [if_pos c4, if_pos c4]; exact ⟨_, _, rfl, rfl, rfl⟩
  rw [if_neg c4, if_neg c4]
  by_cases c5 : n = 5
  · rw [if_pos c5, if_pos c5]; exact ⟨_, _, rfl, rfl, rfl⟩
  rw [if_neg c5, if_neg c5]; exact ⟨_, _, rfl, rfl, rfl⟩
set_option maxRecDepth 100000 in
theorem p1_check_6 : (fX6_check (fun _ => 0) (fun _ => 0) 0 0).map id = some ((1) : Int32) := by decide +kernel
set_option maxRecDepth 100000 in
theorem p1_check_7 : (fX7_check ).map id = some ((1) : Int32) := by decide +kernel
theorem p1_check : ∃ r r', fX6_check (fun _ => 0) (fun _ => 0) 0 0 = some r ∧ fX7_check  = some r' ∧ r = r' := by
  obtain ⟨r, h, e⟩ := o_map p1_check_6; obtain ⟨r', h', e'⟩ := o_map p1_check_7; exact ⟨r, r', h, h', e.trans e'.symm⟩
set_option maxRecDepth 100000 in
set_option maxHeartbeats 40000000 in
theorem law_p1 (xs : Nat → Int32) (L : Nat) (hL : L ≤ 4) : bL_18 xs L FU (fun _ => 0) 0 0 (fun _ => 0) 0 0 (fun _ => 0) 0 0 (fun _ => 0) 0 0 (fun _ => 0) (fun _ => 0) (fun _ => 0) (fun _ => 0) (fun _ => 0) (fun _ => 0) 0 0 (fun _ => 0) 0 0 0 (fun _ => 0) (fun _ => 0) (fun _ => 0) (fun _ => 0) (fun _ => 0) (fun _ => 0) 0 0 (fun _ => 0) 0 0 0 (fun _ => 0) (fun _ => 0) (fun _ => 0) 0 (fun _ => 0) (fun _ => 0) (fun _ => 0) 0 (fun _ => 0) 0 0 0 0 (-1) 0 0 0 0 0 0 0 0 (fun _ => 0) (fun _ => 0) (fun _ => 0) (fun _ => 0) (fun _ => 0) (fun _ => 0) (fun _ => 0) (fun _ => 0) (fun _ => 0) (fun _ => 0) (fun _ => 0) (fun _ => 0) (fun _ => 0) (fun _ => 0) (fun _ => 0) (fun _ => 0) (fun _ => 0) (fun _ => 0) 0 0 0 0 0 0 0 (-1) 0 0 0 = some 1 := by
  have hF : FU = 999998 + 1 + 1 := rfl
  rw [hF]
  by_cases h4 : L = 4
  · subst h4
    have g0 : ix 0 4 := by decide
    have g1 : ix (0 + 1) 4 := by decide
    have g2 : ix (0 + 2) 4 := by decide
    have g3 : ix (0 + 3) 4 := by decide
    have he : ((nI 4) - 4 : Int32) < 0 + 4 := by decide
    unfold bL_18
    refine (if_neg (show ¬ (((nI 4) - 4 : Int32) < 0) by decide)).trans ?_
    refine (if_pos g0).trans ?_
    by_cases c0 : ((xs (Int32.toNatClampNeg 0)) &&& 31) = 0
    · refine (if_pos c0).trans ?_; refine (if_pos g1).trans ?_; refine (if_pos g2).trans ?_; refine (if_pos g3).trans ?_; 
      obtain ⟨r, r', h, h', e⟩ := p1_type (((Int32.toInt64 (xs (Int32.toNatClampNeg (0 + 1)))) <<< (Int32.toInt64 32 &&& 63)) ||| ((Int32.toInt64 (xs (Int32.toNatClampNeg (0 + 2)))) &&& 4294967295)) (xs (Int32.toNatClampNeg (0 + 3)))
      refine o_bnd h ?_
      refine (if_pos g1).trans ?_; refine (if_pos g2).trans ?_; refine (if_pos g3).trans ?_; refine o_bnd h' ?_; refine (if_pos e).trans ?_
      exact L_end xs 4 999998 _ _ _ _ _ _ _ _ _ _ _ _ _ _ _ _ _ _ _ _ _ _ _ _ _ _ _ _ _ _ _ _ _ _ _ _ _ _ _ _ _ _ _ _ _ _ _ _ _ _ _ _ _ _ _ _ _ _ _ _ _ _ _ _ _ _ _ _ _ _ _ _ _ _ _ _ _ _ _ _ _ _ _ _ _ _ _ he
    refine (if_neg c0).trans ?_
    by_cases c1 : ((xs (Int32.toNatClampNeg 0)) &&& 31) = 1
    · refine (if_pos c1).trans ?_; refine (if_pos g1).trans ?_; 
      obtain ⟨r, r', h, h', e⟩ := p1_value (xs (Int32.toNatClampNeg (0 + 1)))
      refine o_bnd h ?_
      refine (if_pos g1).trans ?_; refine o_bnd h' ?_; refine (if_pos e).trans ?_
      exact L_end xs 4 999998 _ _ _ _ _ _ _ _ _ _ _ _ _ _ _ _ _ _ _ _ _ _ _ _ _ _ _ _ _ _ _ _ _ _ _ _ _ _ _ _ _ _ _ _ _ _ _ _ _ _ _ _ _ _ _ _ _ _ _ _ _ _ _ _ _ _ _ _ _ _ _ _ _ _ _ _ _ _ _ _ _ _ _ _ _ _ _ he
    refine (if_neg c1).trans ?_
    by_cases c2 : ((xs (Int32.toNatClampNeg 0)) &&& 31) = 2
    · refine (if_pos c2).trans ?_; refine (if_pos g1).trans ?_; refine (if_pos g2).trans ?_; 
      obtain ⟨r, r', h, h', e⟩ := p1_integer (((Int32.toInt64 (xs (Int32.toNatClampNeg (0 + 1)))) <<< (Int32.toInt64 32 &&& 63)) ||| ((Int32.toInt64 (xs (Int32.toNatClampNeg (0 + 2)))) &&& 4294967295))
      refine o_bnd h ?_
      refine (if_pos g1).trans ?_; refine (if_pos g2).trans ?_; refine o_bnd h' ?_; refine (if_pos e).trans ?_
      exact L_end xs 4 999998 _ _ _ _ _ _ _ _ _ _ _ _ _ _ _ _ _ _ _ _ _ _ _ _ _ _ _ _ _ _ _ _ _ _ _ _ _ _ _ _ _ _ _ _ _ _ _ _ _ _ _ _ _ _ _ _ _ _ _ _ _ _ _ _ _ _ _ _ _ _ _ _ _ _ _ _ _ _ _ _ _ _ _ _ _ _ _ he
    refine (if_neg c2).trans ?_
    by_cases c3 : ((xs (Int32.toNatClampNeg 0)) &&& 31) = 3
    · refine (if_pos c3).trans ?_; refine (if_pos g1).trans ?_; refine (if_pos g2).trans ?_; refine (if_pos g3).trans ?_; 
      obtain ⟨r, r', h, h', e⟩ := p1_real (((Int32.toInt64 (xs (Int32.toNatClampNeg (0 + 1)))) <<< (Int32.toInt64 32 &&& 63)) ||| ((Int32.toInt64 (xs (Int32.toNatClampNeg (0 + 2)))) &&& 4294967295)) (xs (Int32.toNatClampNeg (0 + 3)))
      refine o_bnd h ?_
      refine (if_pos g1).trans ?_; refine (if_pos g2).trans ?_; refine (if_pos g3).trans ?_; refine o_bnd h' ?_; refine (if_pos e).trans ?_
      exact L_end xs 4 999998 _ _ _ _ _ _ _ _ _ _ _ _ _ _ _ _ _ _ _ _ _ _ _ _ _ _ _ _ _ _ _ _ _ _ _ _ _ _ _ _ _ _ _ _ _ _ _ _ _ _ _ _ _ _ _ _ _ _ _ _ _ _ _ _ _ _ _ _ _ _ _ _ _ _ _ _ _ _ _ _ _ _ _ _ _ _ _ he
    refine (if_neg c3).trans ?_
    by_cases c4 : ((xs (Int32.toNatClampNeg 0)) &&& 31) = 4
    · refine (if_pos c4).trans ?_; 
      obtain ⟨r, r', h, h', e⟩ := p1_name
      refine o_bnd h ?_
      refine o_bnd h' ?_; refine (if_pos e).trans ?_
      exact L_end xs 4 999998 _ _ _ _ _ _ _ _ _ _ _ _ _ _ _ _ _ _ _ _ _ _ _ _ _ _ _ _ _ _ _ _ _ _ _ _ _ _ _ _ _ _ _ _ _ _ _ _ _ _ _ _ _ _ _ _ _ _ _ _ _ _ _ _ _ _ _ _ _ _ _ _ _ _ _ _ _ _ _ _ _ _ _ _ _ _ _ he
    refine (if_neg c4).trans ?_
    by_cases c5 : ((xs (Int32.toNatClampNeg 0)) &&& 31) = 5
    · refine (if_pos c5).trans ?_; 
      obtain ⟨r, r', h, h', e⟩ := p1_end
      refine o_bnd h ?_
      refine o_bnd h' ?_; refine (if_pos e).trans ?_
      exact L_end xs 4 999998 _ _ _ _ _ _ _ _ _ _ _ _ _ _ _ _ _ _ _ _ _ _ _ _ _ _ _ _ _ _ _ _ _ _ _ _ _ _ _ _ _ _ _ _ _ _ _ _ _ _ _ _ _ _ _ _ _ _ _ _ _ _ _ _ _ _ _ _ _ _ _ _ _ _ _ _ _ _ _ _ _ _ _ _ _ _ _ he
    refine (if_neg c5).trans ?_
    by_cases c6 : ((xs (Int32.toNatClampNeg 0)) &&& 31) = 6
    · refine (if_pos c6).trans ?_; 
      obtain ⟨r, r', h, h', e⟩ := p1_drop
      refine o_bnd h ?_
      refine o_bnd h' ?_; refine (if_pos e).trans ?_
      exact L_end xs 4 999998 _ _ _ _ _ _ _ _ _ _ _ _ _ _ _ _ _ _ _ _ _ _ _ _ _ _ _ _ _ _ _ _ _ _ _ _ _ _ _ _ _ _ _ _ _ _ _ _ _ _ _ _ _ _ _ _ _ _ _ _ _ _ _ _ _ _ _ _ _ _ _ _ _ _ _ _ _ _ _ _ _ _ _ _ _ _ _ he
    refine (if_neg c6).trans ?_
    by_cases c7 : ((xs (Int32.toNatClampNeg 0)) &&& 31) = 7
    · refine (if_pos c7).trans ?_; refine (if_pos g1).trans ?_; 
      obtain ⟨r, r', h, h', e, e0⟩ := p1_write (xs (Int32.toNatClampNeg (0 + 1)))
      refine o_bnd h ?_
      refine (if_pos e0).trans ?_
      refine (if_pos g1).trans ?_; refine o_bnd h' ?_; refine (if_pos e).trans ?_
      exact L_end xs 4 999998 _ _ _ _ _ _ _ _ _ _ _ _ _ _ _ _ _ _ _ _ _ _ _ _ _ _ _ _ _ _ _ _ _ _ _ _ _ _ _ _ _ _ _ _ _ _ _ _ _ _ _ _ _ _ _ _ _ _ _ _ _ _ _ _ _ _ _ _ _ _ _ _ _ _ _ _ _ _ _ _ _ _ _ _ _ _ _ he
    refine (if_neg c7).trans ?_
    by_cases c8 : ((xs (Int32.toNatClampNeg 0)) &&& 31) = 8
    · refine (if_pos c8).trans ?_; refine (if_pos g1).trans ?_; 
      obtain ⟨r, r', h, h', e⟩ := p1_written (xs (Int32.toNatClampNeg (0 + 1)))
      refine o_bnd h ?_
      refine (if_pos g1).trans ?_; refine o_bnd h' ?_; refine (if_pos e).trans ?_
      exact L_end xs 4 999998 _ _ _ _ _ _ _ _ _ _ _ _ _ _ _ _ _ _ _ _ _ _ _ _ _ _ _ _ _ _ _ _ _ _ _ _ _ _ _ _ _ _ _ _ _ _ _ _ _ _ _ _ _ _ _ _ _ _ _ _ _ _ _ _ _ _ _ _ _ _ _ _ _ _ _ _ _ _ _ _ _ _ _ _ _ _ _ he
    refine (if_neg c8).trans ?_
    by_cases c9 : ((xs (Int32.toNatClampNeg 0)) &&& 31) = 9
    · refine (if_pos c9).trans ?_; refine (if_pos g1).trans ?_; refine (if_pos g2).trans ?_; refine (if_pos g3).trans ?_; 
      obtain ⟨r, r', h, h', e⟩ := p1_load (((Int32.toInt64 (xs (Int32.toNatClampNeg (0 + 1)))) <<< (Int32.toInt64 32 &&& 63)) ||| ((Int32.toInt64 (xs (Int32.toNatClampNeg (0 + 2)))) &&& 4294967295)) (xs (Int32.toNatClampNeg (0 + 3)))
      refine o_bnd h ?_
      refine (if_pos g1).trans ?_; refine (if_pos g2).trans ?_; refine (if_pos g3).trans ?_; refine o_bnd h' ?_; refine (if_pos e).trans ?_
      exact L_end xs 4 999998 _ _ _ _ _ _ _ _ _ _ _ _ _ _ _ _ _ _ _ _ _ _ _ _ _ _ _ _ _ _ _ _ _ _ _ _ _ _ _ _ _ _ _ _ _ _ _ _ _ _ _ _ _ _ _ _ _ _ _ _ _ _ _ _ _ _ _ _ _ _ _ _ _ _ _ _ _ _ _ _ _ _ _ _ _ _ _ he
    refine (if_neg c9).trans ?_
    by_cases c10 : ((xs (Int32.toNatClampNeg 0)) &&& 31) = 10
    · refine (if_pos c10).trans ?_; 
      obtain ⟨r, r', h, h', e⟩ := p1_loop
      refine o_bnd h ?_
      refine o_bnd h' ?_; refine (if_pos e).trans ?_
      exact L_end xs 4 999998 _ _ _ _ _ _ _ _ _ _ _ _ _ _ _ _ _ _ _ _ _ _ _ _ _ _ _ _ _ _ _ _ _ _ _ _ _ _ _ _ _ _ _ _ _ _ _ _ _ _ _ _ _ _ _ _ _ _ _ _ _ _ _ _ _ _ _ _ _ _ _ _ _ _ _ _ _ _ _ _ _ _ _ _ _ _ _ he
    refine (if_neg c10).trans ?_
    by_cases c11 : ((xs (Int32.toNatClampNeg 0)) &&& 31) = 11
    · refine (if_pos c11).trans ?_; 
      obtain ⟨r, r', h, h', e, e0⟩ := p1_read
      refine o_bnd h ?_
      refine (if_pos e0).trans ?_
      refine o_bnd h' ?_; refine (if_pos e).trans ?_
      exact L_end xs 4 999998 _ _ _ _ _ _ _ _ _ _ _ _ _ _ _ _ _ _ _ _ _ _ _ _ _ _ _ _ _ _ _ _ _ _ _ _ _ _ _ _ _ _ _ _ _ _ _ _ _ _ _ _ _ _ _ _ _ _ _ _ _ _ _ _ _ _ _ _ _ _ _ _ _ _ _ _ _ _ _ _ _ _ _ _ _ _ _ he
    refine (if_neg c11).trans ?_
    by_cases c12 : ((xs (Int32.toNatClampNeg 0)) &&& 31) = 12
    · refine (if_pos c12).trans ?_; 
      obtain ⟨r, r', h, h', e⟩ := p1_place
      refine o_bnd h ?_
      refine o_bnd h' ?_; refine (if_pos e).trans ?_
      exact L_end xs 4 999998 _ _ _ _ _ _ _ _ _ _ _ _ _ _ _ _ _ _ _ _ _ _ _ _ _ _ _ _ _ _ _ _ _ _ _ _ _ _ _ _ _ _ _ _ _ _ _ _ _ _ _ _ _ _ _ _ _ _ _ _ _ _ _ _ _ _ _ _ _ _ _ _ _ _ _ _ _ _ _ _ _ _ _ _ _ _ _ he
    refine (if_neg c12).trans ?_
    by_cases c13 : ((xs (Int32.toNatClampNeg 0)) &&& 31) = 13
    · refine (if_pos c13).trans ?_; refine (if_pos g1).trans ?_; refine (if_pos g2).trans ?_; 
      obtain ⟨r, r', h, h', e⟩ := p1_item (xs (Int32.toNatClampNeg (0 + 1))) (xs (Int32.toNatClampNeg (0 + 2)))
      refine o_bnd h ?_
      refine (if_pos g1).trans ?_; refine (if_pos g2).trans ?_; refine o_bnd h' ?_; refine (if_pos e).trans ?_
      exact L_end xs 4 999998 _ _ _ _ _ _ _ _ _ _ _ _ _ _ _ _ _ _ _ _ _ _ _ _ _ _ _ _ _ _ _ _ _ _ _ _ _ _ _ _ _ _ _ _ _ _ _ _ _ _ _ _ _ _ _ _ _ _ _ _ _ _ _ _ _ _ _ _ _ _ _ _ _ _ _ _ _ _ _ _ _ _ _ _ _ _ _ he
    refine (if_neg c13).trans ?_
    by_cases c14 : ((xs (Int32.toNatClampNeg 0)) &&& 31) = 14
    · refine (if_pos c14).trans ?_; refine (if_pos g1).trans ?_; 
      obtain ⟨r, r', h, h', e⟩ := p1_number (xs (Int32.toNatClampNeg (0 + 1)))
      refine o_bnd h ?_
      refine (if_pos g1).trans ?_; refine o_bnd h' ?_; refine (if_pos ((lg_cmp_eq _ _).mpr e)).trans ?_
      exact L_end xs 4 999998 _ _ _ _ _ _ _ _ _ _ _ _ _ _ _ _ _ _ _ _ _ _ _ _ _ _ _ _ _ _ _ _ _ _ _ _ _ _ _ _ _ _ _ _ _ _ _ _ _ _ _ _ _ _ _ _ _ _ _ _ _ _ _ _ _ _ _ _ _ _ _ _ _ _ _ _ _ _ _ _ _ _ _ _ _ _ _ he
    refine (if_neg c14).trans ?_
    by_cases c15 : ((xs (Int32.toNatClampNeg 0)) &&& 31) = 15
    · refine (if_pos c15).trans ?_; refine (if_pos g1).trans ?_; refine (if_pos g2).trans ?_; 
      obtain ⟨r, r', h, h', e⟩ := p1_byteOf (xs (Int32.toNatClampNeg (0 + 1))) (xs (Int32.toNatClampNeg (0 + 2)))
      refine o_bnd h ?_
      refine (if_pos g1).trans ?_; refine (if_pos g2).trans ?_; refine o_bnd h' ?_; refine (if_pos e).trans ?_
      exact L_end xs 4 999998 _ _ _ _ _ _ _ _ _ _ _ _ _ _ _ _ _ _ _ _ _ _ _ _ _ _ _ _ _ _ _ _ _ _ _ _ _ _ _ _ _ _ _ _ _ _ _ _ _ _ _ _ _ _ _ _ _ _ _ _ _ _ _ _ _ _ _ _ _ _ _ _ _ _ _ _ _ _ _ _ _ _ _ _ _ _ _ he
    refine (if_neg c15).trans ?_
    by_cases c16 : ((xs (Int32.toNatClampNeg 0)) &&& 31) = 16
    · refine (if_pos c16).trans ?_; refine (if_pos g1).trans ?_; 
      obtain ⟨r, r', h, h', e⟩ := p1_count (xs (Int32.toNatClampNeg (0 + 1)))
      refine o_bnd h ?_
      refine (if_pos g1).trans ?_; refine o_bnd h' ?_; refine (if_pos e).trans ?_
      exact L_end xs 4 999998 _ _ _ _ _ _ _ _ _ _ _ _ _ _ _ _ _ _ _ _ _ _ _ _ _ _ _ _ _ _ _ _ _ _ _ _ _ _ _ _ _ _ _ _ _ _ _ _ _ _ _ _ _ _ _ _ _ _ _ _ _ _ _ _ _ _ _ _ _ _ _ _ _ _ _ _ _ _ _ _ _ _ _ _ _ _ _ he
    refine (if_neg c16).trans ?_
    by_cases c17 : ((xs (Int32.toNatClampNeg 0)) &&& 31) = 17
    · refine (if_pos c17).trans ?_; 
      obtain ⟨r, r', h, h', e⟩ := p1_check
      refine o_bnd h ?_
      refine o_bnd h' ?_; refine (if_pos e).trans ?_
      exact L_end xs 4 999998 _ _ _ _ _ _ _ _ _ _ _ _ _ _ _ _ _ _ _ _ _ _ _ _ _ _ _ _ _ _ _ _ _ _ _ _ _ _ _ _ _ _ _ _ _ _ _ _ _ _ _ _ _ _ _ _ _ _ _ _ _ _ _ _ _ _ _ _ _ _ _ _ _ _ _ _ _ _ _ _ _ _ _ _ _ _ _ he
    refine (if_neg c17).trans ?_
    exact L_end xs 4 999998 _ _ _ _ _ _ _ _ _ _ _ _ _ _ _ _ _ _ _ _ _ _ _ _ _ _ _ _ _ _ _ _ _ _ _ _ _ _ _ _ _ _ _ _ _ _ _ _ _ _ _ _ _ _ _ _ _ _ _ _ _ _ _ _ _ _ _ _ _ _ _ _ _ _ _ _ _ _ _ _ _ _ _ _ _ _ _ he
  · refine L_end xs L (999998 + 1) _ _ _ _ _ _ _ _ _ _ _ _ _ _ _ _ _ _ _ _ _ _ _ _ _ _ _ _ _ _ _ _ _ _ _ _ _ _ _ _ _ _ _ _ _ _ _ _ _ _ _ _ _ _ _ _ _ _ _ _ _ _ _ _ _ _ _ _ _ _ _ _ _ _ _ _ _ _ _ _ _ _ _ _ _ _ _ ?_
    rcases (show L = 0 ∨ L = 1 ∨ L = 2 ∨ L = 3 by omega) with rfl | rfl | rfl | rfl <;> decide
