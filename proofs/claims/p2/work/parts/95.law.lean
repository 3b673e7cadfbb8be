/-! THE LAW: every call -/
theorem o_bnd {α β : Type} {x : Option α} {f : α → Option β} {r : α} {y : Option β} (h : x = some r) (h2 : f r = y) : x.bind f = y := by subst h; exact h2
set_option maxRecDepth 100000 in
set_option maxHeartbeats 40000000 in
theorem law_all (xs : Nat → Int32) (L : Nat) (hL : L ≤ 2048) : ∀ (m nn j : Nat) (typed_cells : Nat → Int32) (typed_size : Int32) (typed_tooLong : Int32) (loaded_cells : Nat → Int32) (loaded_size : Int32) (loaded_tooLong : Int32) (output_cells : Nat → Int32) (output_size : Int32) (output_tooLong : Int32) (spareOutput_cells : Nat → Int32) (spareOutput_size : Int32) (spareOutput_tooLong : Int32) (doc_kinds : Nat → Int32) (doc_starts : Nat → Int32) (doc_lengths : Nat → Int32) (doc_depths : Nat → Int32) (doc_numbers : Nat → Int64) (doc_b_cells : Nat → Int32) (doc_b_size : Int32) (doc_b_tooLong : Int32) (doc_openKinds : Nat → Int32) (doc_size : Int32) (doc_depth : Int32) (doc_named : Int32) (sd_kinds : Nat → Int32) (sd_starts : Nat → Int32) (sd_lengths : Nat → Int32) (sd_depths : Nat → Int32) (sd_numbers : Nat → Int64) (sd_b_cells : Nat → Int32) (sd_b_size : Int32) (sd_b_tooLong : Int32) (sd_openKinds : Nat → Int32) (sd_size : Int32) (sd_depth : Int32) (sd_named : Int32) (nt_items : Nat → Int32) (nt_chain : Nat → Int32) (nt_heads : Nat → Int32) (nt_size : Int32) (tt_items : Nat → Int32) (tt_chain : Nat → Int32) (tt_heads : Nat → Int32) (tt_size : Int32) (w_opened : Nat → Int32) (w_flags : Int32) (r_flags : Int32) (r_at : Int32) (r_fault : Int32) (r_faultAt : Int32) (r_first : Int32) (r_kind : Int32) (r_number : Int64) (r_form : Int32) (r_start : Int32) (r_length : Int32) (r_told : Int32) (r_over : Int32) (m_typed : Nat → Int32) (m_loaded : Nat → Int32) (m_written : Nat → Int32) (m_draft : Nat → Int32) (m_kind : Nat → Int32) (m_number : Nat → Int64) (m_start : Nat → Int32) (m_length : Nat → Int32) (m_within : Nat → Int32) (m_pool : Nat → Int32) (m_items : Nat → Int32) (m_bytes : Nat → Int32) (m_isObject : Nat → Int32) (m_named : Nat → Int32) (m_depth : Nat → Int32) (m_table : Nat → Int32) (m_tableSize : Nat → Int32) (m_ends : Nat → Int32) (m_typedSize : Int32) (m_loadedSize : Int32) (m_writtenSize : Int32) (m_draftSize : Int32) (m_at : Int32) (m_flags : Int32) (m_fault : Int32) (m_place : Int32) (m_first : Int32) (m_got : Int32) (x3 : Int32), m < nn → L ≤ j + 4 * m + 3 → x3.toInt = (j : Int) → RR 1000 typed_cells typed_size typed_tooLong m_typed m_typedSize → RR 6000 loaded_cells loaded_size loaded_tooLong m_loaded m_loadedSize → RR 6000 output_cells output_size output_tooLong m_written m_writtenSize → DR 0 doc_kinds doc_starts doc_lengths doc_depths doc_numbers doc_b_cells doc_b_size doc_b_tooLong doc_openKinds doc_size doc_depth doc_named m_kind m_number m_start m_length m_within m_pool m_items m_bytes m_isObject m_named m_depth → bL_18 xs L nn typed_cells typed_size typed_tooLong loaded_cells loaded_size loaded_tooLong output_cells output_size output_tooLong spareOutput_cells spareOutput_size spareOutput_tooLong doc_kinds doc_starts doc_lengths doc_depths doc_numbers doc_b_cells doc_b_size doc_b_tooLong doc_openKinds doc_size doc_depth doc_named sd_kinds sd_starts sd_lengths sd_depths sd_numbers sd_b_cells sd_b_size sd_b_tooLong sd_openKinds sd_size sd_depth sd_named nt_items nt_chain nt_heads nt_size tt_items tt_chain tt_heads tt_size w_opened w_flags r_flags r_at r_fault r_faultAt r_first r_kind r_number r_form r_start r_length r_told r_over m_typed m_loaded m_written m_draft m_kind m_number m_start m_length m_within m_pool m_items m_bytes m_isObject m_named m_depth m_table m_tableSize m_ends m_typedSize m_loadedSize m_writtenSize m_draftSize m_at m_flags m_fault m_place m_first m_got x3 = some 1 := by
  have z4 : (4 : Int32).toInt = 4 := by decide
  have z2' : (2 : Int32).toInt = 2 := by decide
  have z3' : (3 : Int32).toInt = 3 := by decide
  have eL : ((nI L) - 4).toInt = (L : Int) - 4 := by rw [zsub (by rw [znI (by omega), z4]; omega) (by rw [znI (by omega), z4]; omega), znI (by omega), z4]
  intro m
  induction m with
  | zero =>
    intro nn j typed_cells typed_size typed_tooLong loaded_cells loaded_size loaded_tooLong output_cells output_size output_tooLong spareOutput_cells spareOutput_size spareOutput_tooLong doc_kinds doc_starts doc_lengths doc_depths doc_numbers doc_b_cells doc_b_size doc_b_tooLong doc_openKinds doc_size doc_depth doc_named sd_kinds sd_starts sd_lengths sd_depths sd_numbers sd_b_cells sd_b_size sd_b_tooLong sd_openKinds sd_size sd_depth sd_named nt_items nt_chain nt_heads nt_size tt_items tt_chain tt_heads tt_size w_opened w_flags r_flags r_at r_fault r_faultAt r_first r_kind r_number r_form r_start r_length r_told r_over m_typed m_loaded m_written m_draft m_kind m_number m_start m_length m_within m_pool m_items m_bytes m_isObject m_named m_depth m_table m_tableSize m_ends m_typedSize m_loadedSize m_writtenSize m_draftSize m_at m_flags m_fault m_place m_first m_got x3 hm hj hx hT hLo hO hD
    obtain ⟨f, rfl⟩ : ∃ f, nn = f + 1 := ⟨nn - 1, by omega⟩
    unfold bL_18
    exact if_pos (by rw [zlt, eL, hx]; omega)
  | succ m ih =>
    intro nn j typed_cells typed_size typed_tooLong loaded_cells loaded_size loaded_tooLong output_cells output_size output_tooLong spareOutput_cells spareOutput_size spareOutput_tooLong doc_kinds doc_starts doc_lengths doc_depths doc_numbers doc_b_cells doc_b_size doc_b_tooLong doc_openKinds doc_size doc_depth doc_named sd_kinds sd_starts sd_lengths sd_depths sd_numbers sd_b_cells sd_b_size sd_b_tooLong sd_openKinds sd_size sd_depth sd_named nt_items nt_chain nt_heads nt_size tt_items tt_chain tt_heads tt_size w_opened w_flags r_flags r_at r_fault r_faultAt r_first r_kind r_number r_form r_start r_length r_told r_over m_typed m_loaded m_written m_draft m_kind m_number m_start m_length m_within m_pool m_items m_bytes m_isObject m_named m_depth m_table m_tableSize m_ends m_typedSize m_loadedSize m_writtenSize m_draftSize m_at m_flags m_fault m_place m_first m_got x3 hm hj hx hT hLo hO hD
    obtain ⟨f, rfl⟩ : ∃ f, nn = f + 1 := ⟨nn - 1, by omega⟩
    unfold bL_18
    by_cases he : ((nI L) - 4) < x3
    · exact if_pos he
    refine (if_neg he).trans ?_
    have hjl : j + 4 ≤ L := by rw [zlt, eL, hx] at he; omega
    have g0 : ix x3 L := ⟨by omega, by omega⟩
    have g1 : ix (x3 + 1) L := by unfold ix; rw [zadd (by rw [z1]; omega) (by rw [z1]; omega), z1]; omega
    have g2 : ix (x3 + 2) L := by unfold ix; rw [zadd (by rw [z2']; omega) (by rw [z2']; omega), z2']; omega
    have g3 : ix (x3 + 3) L := by unfold ix; rw [zadd (by rw [z3']; omega) (by rw [z3']; omega), z3']; omega
    have hx4 : (x3 + 4).toInt = ((j + 4 : Nat) : Int) := by rw [zadd (by rw [z4]; omega) (by rw [z4]; omega), z4]; omega
    have eT : typed_size = m_typedSize := hT.1.symm
    have eLo : loaded_size = m_loadedSize := hLo.1.symm
    have eO : output_size = m_writtenSize := hO.1.symm
    subst eT eLo eO
    refine (if_pos g0).trans ?_
    by_cases c0_ : ((xs (Int32.toNatClampNeg x3)) &&& 31) = 0
    · refine (if_pos c0_).trans ?_; refine (if_pos g1).trans ?_; refine (if_pos g2).trans ?_; refine (if_pos g3).trans ?_; 
      obtain ⟨r, r', h, h', e, c1⟩ := sim_type hT (((Int32.toInt64 (xs (Int32.toNatClampNeg (x3 + 1)))) <<< (Int32.toInt64 32 &&& 63)) ||| ((Int32.toInt64 (xs (Int32.toNatClampNeg (x3 + 2)))) &&& 4294967295)) (xs (Int32.toNatClampNeg (x3 + 3)))
      refine o_bnd h ?_; refine (if_pos g1).trans ?_; refine (if_pos g2).trans ?_; refine (if_pos g3).trans ?_; refine o_bnd h' ?_; refine (if_pos e).trans ?_; 
      exact ih f (j + 4) _ _ _ _ _ _ _ _ _ _ _ _ _ _ _ _ _ _ _ _ _ _ _ _ _ _ _ _ _ _ _ _ _ _ _ _ _ _ _ _ _ _ _ _ _ _ _ _ _ _ _ _ _ _ _ _ _ _ _ _ _ _ _ _ _ _ _ _ _ _ _ _ _ _ _ _ _ _ _ _ _ _ _ _ _ _ _ (by omega) (by omega) hx4 c1 hLo hO hD
    refine (if_neg c0_).trans ?_
    by_cases c1_ : ((xs (Int32.toNatClampNeg x3)) &&& 31) = 1
    · refine (if_pos c1_).trans ?_; refine (if_pos g1).trans ?_; 
      obtain ⟨r, r', h, h', e, c1, c2⟩ := sim_value hD hT (xs (Int32.toNatClampNeg (x3 + 1)))
      refine o_bnd h ?_; refine (if_pos g1).trans ?_; refine o_bnd h' ?_; 
      exact ih f (j + 4) _ _ _ _ _ _ _ _ _ _ _ _ _ _ _ _ _ _ _ _ _ _ _ _ _ _ _ _ _ _ _ _ _ _ _ _ _ _ _ _ _ _ _ _ _ _ _ _ _ _ _ _ _ _ _ _ _ _ _ _ _ _ _ _ _ _ _ _ _ _ _ _ _ _ _ _ _ _ _ _ _ _ _ _ _ _ _ (by omega) (by omega) hx4 c2 hLo hO c1
    refine (if_neg c1_).trans ?_
    by_cases c2_ : ((xs (Int32.toNatClampNeg x3)) &&& 31) = 2
    · refine (if_pos c2_).trans ?_; refine (if_pos g1).trans ?_; refine (if_pos g2).trans ?_; 
      obtain ⟨r, r', h, h', e, c1⟩ := sim_integer hD (((Int32.toInt64 (xs (Int32.toNatClampNeg (x3 + 1)))) <<< (Int32.toInt64 32 &&& 63)) ||| ((Int32.toInt64 (xs (Int32.toNatClampNeg (x3 + 2)))) &&& 4294967295))
      refine o_bnd h ?_; refine (if_pos g1).trans ?_; refine (if_pos g2).trans ?_; refine o_bnd h' ?_; 
      exact ih f (j + 4) _ _ _ _ _ _ _ _ _ _ _ _ _ _ _ _ _ _ _ _ _ _ _ _ _ _ _ _ _ _ _ _ _ _ _ _ _ _ _ _ _ _ _ _ _ _ _ _ _ _ _ _ _ _ _ _ _ _ _ _ _ _ _ _ _ _ _ _ _ _ _ _ _ _ _ _ _ _ _ _ _ _ _ _ _ _ _ (by omega) (by omega) hx4 hT hLo hO c1
    refine (if_neg c2_).trans ?_
    by_cases c3_ : ((xs (Int32.toNatClampNeg x3)) &&& 31) = 3
    · refine (if_pos c3_).trans ?_; refine (if_pos g1).trans ?_; refine (if_pos g2).trans ?_; refine (if_pos g3).trans ?_; 
      obtain ⟨r, r', h, h', e, c1⟩ := sim_real hD (((Int32.toInt64 (xs (Int32.toNatClampNeg (x3 + 1)))) <<< (Int32.toInt64 32 &&& 63)) ||| ((Int32.toInt64 (xs (Int32.toNatClampNeg (x3 + 2)))) &&& 4294967295)) (xs (Int32.toNatClampNeg (x3 + 3)))
      refine o_bnd h ?_; refine (if_pos g1).trans ?_; refine (if_pos g2).trans ?_; refine (if_pos g3).trans ?_; refine o_bnd h' ?_; 
      exact ih f (j + 4) _ _ _ _ _ _ _ _ _ _ _ _ _ _ _ _ _ _ _ _ _ _ _ _ _ _ _ _ _ _ _ _ _ _ _ _ _ _ _ _ _ _ _ _ _ _ _ _ _ _ _ _ _ _ _ _ _ _ _ _ _ _ _ _ _ _ _ _ _ _ _ _ _ _ _ _ _ _ _ _ _ _ _ _ _ _ _ (by omega) (by omega) hx4 hT hLo hO c1
    refine (if_neg c3_).trans ?_
    by_cases c4_ : ((xs (Int32.toNatClampNeg x3)) &&& 31) = 4
    · refine (if_pos c4_).trans ?_; 
      obtain ⟨r, r', h, h', e, c1, c2⟩ := sim_name hD hT
      refine o_bnd h ?_; refine o_bnd h' ?_; 
      exact ih f (j + 4) _ _ _ _ _ _ _ _ _ _ _ _ _ _ _ _ _ _ _ _ _ _ _ _ _ _ _ _ _ _ _ _ _ _ _ _ _ _ _ _ _ _ _ _ _ _ _ _ _ _ _ _ _ _ _ _ _ _ _ _ _ _ _ _ _ _ _ _ _ _ _ _ _ _ _ _ _ _ _ _ _ _ _ _ _ _ _ (by omega) (by omega) hx4 c2 hLo hO c1
    refine (if_neg c4_).trans ?_
    by_cases c5_ : ((xs (Int32.toNatClampNeg x3)) &&& 31) = 5
    · refine (if_pos c5_).trans ?_; 
      obtain ⟨r, r', h, h', e, c1⟩ := sim_end hD
      refine o_bnd h ?_; refine o_bnd h' ?_; 
      exact ih f (j + 4) _ _ _ _ _ _ _ _ _ _ _ _ _ _ _ _ _ _ _ _ _ _ _ _ _ _ _ _ _ _ _ _ _ _ _ _ _ _ _ _ _ _ _ _ _ _ _ _ _ _ _ _ _ _ _ _ _ _ _ _ _ _ _ _ _ _ _ _ _ _ _ _ _ _ _ _ _ _ _ _ _ _ _ _ _ _ _ (by omega) (by omega) hx4 hT hLo hO c1
    refine (if_neg c5_).trans ?_
    by_cases c6_ : ((xs (Int32.toNatClampNeg x3)) &&& 31) = 6
    · refine (if_pos c6_).trans ?_; 
      obtain ⟨r, r', h, h', e, c1⟩ := sim_drop hD
      refine o_bnd h ?_; refine o_bnd h' ?_; 
      exact ih f (j + 4) _ _ _ _ _ _ _ _ _ _ _ _ _ _ _ _ _ _ _ _ _ _ _ _ _ _ _ _ _ _ _ _ _ _ _ _ _ _ _ _ _ _ _ _ _ _ _ _ _ _ _ _ _ _ _ _ _ _ _ _ _ _ _ _ _ _ _ _ _ _ _ _ _ _ _ _ _ _ _ _ _ _ _ _ _ _ _ (by omega) (by omega) hx4 hT hLo hO c1
    refine (if_neg c6_).trans ?_
    by_cases c7_ : ((xs (Int32.toNatClampNeg x3)) &&& 31) = 7
    · refine (if_pos c7_).trans ?_; refine (if_pos g1).trans ?_; 
      obtain ⟨r, r', h, h', e, c1⟩ := sim_write (wr := m_written) (dr := m_draft) (tb := m_table) (tz := m_tableSize) (ends := m_ends) (ws := output_size) (ds := m_draftSize) (oc := spareOutput_cells) (os := spareOutput_size) (ot := spareOutput_tooLong) (ni := nt_items) (nc := nt_chain) (nh := nt_heads) (nz := nt_size) (ti := tt_items) (tc := tt_chain) (th := tt_heads) (tz0 := tt_size) (opened := w_opened) hD w_flags (xs (Int32.toNatClampNeg (x3 + 1)))
      refine o_bnd h ?_
      rcases c1 with ⟨q0 | q2, w1, w2⟩ | ⟨q1, w1⟩
      · refine (if_pos q0).trans ?_; refine (if_pos g1).trans ?_; refine o_bnd h' ?_; 
        exact ih f (j + 4) _ _ _ _ _ _ _ _ _ _ _ _ _ _ _ _ _ _ _ _ _ _ _ _ _ _ _ _ _ _ _ _ _ _ _ _ _ _ _ _ _ _ _ _ _ _ _ _ _ _ _ _ _ _ _ _ _ _ _ _ _ _ _ _ _ _ _ _ _ _ _ _ _ _ _ _ _ _ _ _ _ _ _ _ _ _ _ (by omega) (by omega) hx4 hT hLo (by rw [w1, w2]; exact hO) hD
      · refine (if_neg (by rw [q2]; decide)).trans ?_; refine (if_neg (by rw [q2]; decide)).trans ?_; refine (if_pos g1).trans ?_; refine o_bnd h' ?_; 
        exact ih f (j + 4) _ _ _ _ _ _ _ _ _ _ _ _ _ _ _ _ _ _ _ _ _ _ _ _ _ _ _ _ _ _ _ _ _ _ _ _ _ _ _ _ _ _ _ _ _ _ _ _ _ _ _ _ _ _ _ _ _ _ _ _ _ _ _ _ _ _ _ _ _ _ _ _ _ _ _ _ _ _ _ _ _ _ _ _ _ _ _ (by omega) (by omega) hx4 hT hLo (by rw [w1, w2]; exact hO) hD
      · refine (if_neg (by rw [q1]; decide)).trans ?_; refine (if_pos q1).trans ?_; refine (if_pos g1).trans ?_; refine o_bnd h' ?_; 
        exact ih f (j + 4) _ _ _ _ _ _ _ _ _ _ _ _ _ _ _ _ _ _ _ _ _ _ _ _ _ _ _ _ _ _ _ _ _ _ _ _ _ _ _ _ _ _ _ _ _ _ _ _ _ _ _ _ _ _ _ _ _ _ _ _ _ _ _ _ _ _ _ _ _ _ _ _ _ _ _ _ _ _ _ _ _ _ _ _ _ _ _ (by omega) (by omega) hx4 hT hLo w1 hD
    refine (if_neg c7_).trans ?_
    by_cases c8_ : ((xs (Int32.toNatClampNeg x3)) &&& 31) = 8
    · refine (if_pos c8_).trans ?_; refine (if_pos g1).trans ?_; 
      obtain ⟨r, h, h'⟩ := sim_written hO (xs (Int32.toNatClampNeg (x3 + 1)))
      refine o_bnd h ?_; refine (if_pos g1).trans ?_; refine o_bnd h' ?_; 
      exact ih f (j + 4) _ _ _ _ _ _ _ _ _ _ _ _ _ _ _ _ _ _ _ _ _ _ _ _ _ _ _ _ _ _ _ _ _ _ _ _ _ _ _ _ _ _ _ _ _ _ _ _ _ _ _ _ _ _ _ _ _ _ _ _ _ _ _ _ _ _ _ _ _ _ _ _ _ _ _ _ _ _ _ _ _ _ _ _ _ _ _ (by omega) (by omega) hx4 hT hLo hO hD
    refine (if_neg c8_).trans ?_
    by_cases c9_ : ((xs (Int32.toNatClampNeg x3)) &&& 31) = 9
    · refine (if_pos c9_).trans ?_; refine (if_pos g1).trans ?_; refine (if_pos g2).trans ?_; refine (if_pos g3).trans ?_; 
      obtain ⟨r, r', h, h', e, c1⟩ := sim_load hLo (((Int32.toInt64 (xs (Int32.toNatClampNeg (x3 + 1)))) <<< (Int32.toInt64 32 &&& 63)) ||| ((Int32.toInt64 (xs (Int32.toNatClampNeg (x3 + 2)))) &&& 4294967295)) (xs (Int32.toNatClampNeg (x3 + 3)))
      refine o_bnd h ?_; refine (if_pos g1).trans ?_; refine (if_pos g2).trans ?_; refine (if_pos g3).trans ?_; refine o_bnd h' ?_; 
      exact ih f (j + 4) _ _ _ _ _ _ _ _ _ _ _ _ _ _ _ _ _ _ _ _ _ _ _ _ _ _ _ _ _ _ _ _ _ _ _ _ _ _ _ _ _ _ _ _ _ _ _ _ _ _ _ _ _ _ _ _ _ _ _ _ _ _ _ _ _ _ _ _ _ _ _ _ _ _ _ _ _ _ _ _ _ _ _ _ _ _ _ (by omega) (by omega) hx4 hT c1 hO hD
    refine (if_neg c9_).trans ?_
    by_cases c10_ : ((xs (Int32.toNatClampNeg x3)) &&& 31) = 10
    · refine (if_pos c10_).trans ?_; 
      obtain ⟨r, r', h, h', e, c1⟩ := sim_loop hLo hO
      refine o_bnd h ?_; refine o_bnd h' ?_; 
      exact ih f (j + 4) _ _ _ _ _ _ _ _ _ _ _ _ _ _ _ _ _ _ _ _ _ _ _ _ _ _ _ _ _ _ _ _ _ _ _ _ _ _ _ _ _ _ _ _ _ _ _ _ _ _ _ _ _ _ _ _ _ _ _ _ _ _ _ _ _ _ _ _ _ _ _ _ _ _ _ _ _ _ _ _ _ _ _ _ _ _ _ (by omega) (by omega) hx4 hT c1 hO hD
    refine (if_neg c10_).trans ?_
    by_cases c11_ : ((xs (Int32.toNatClampNeg x3)) &&& 31) = 11
    · refine (if_pos c11_).trans ?_; 
      obtain ⟨r, r', h, h', c1, c2⟩ := sim_read (skinds := sd_kinds) (sstarts := sd_starts) (slengths := sd_lengths) (sdepths := sd_depths) (snumbers := sd_numbers) (sb_cells := sd_b_cells) (sb_size := sd_b_size) (sb_tooLong := sd_b_tooLong) (sopenKinds := sd_openKinds) (ssize := sd_size) (sdepth := sd_depth) (snamed := sd_named) (ni := nt_items) (nc := nt_chain) (nh := nt_heads) (nz := nt_size) (ti := tt_items) (tc := tt_chain) (th := tt_heads) (tz0 := tt_size) (fl := r_flags) (at_ := r_at) (ft := r_fault) (fa := r_faultAt) (first := r_first) (kd := r_kind) (nu := r_number) (fm := r_form) (st := r_start) (le := r_length) (to := r_told) (ov := r_over) (tb := m_table) (tz := m_tableSize) (rat := m_at) (rfl_ := m_flags) (rft := m_fault) (rpl := m_place) (rfirst := m_first) (rgt := m_got) hD hLo
      refine o_bnd h ?_
      rcases c2 with ⟨q0, w1⟩ | ⟨q0, w1⟩
      · refine (if_pos q0).trans ?_; refine o_bnd h' ?_
        exact ih f (j + 4) _ _ _ _ _ _ _ _ _ _ _ _ _ _ _ _ _ _ _ _ _ _ _ _ _ _ _ _ _ _ _ _ _ _ _ _ _ _ _ _ _ _ _ _ _ _ _ _ _ _ _ _ _ _ _ _ _ _ _ _ _ _ _ _ _ _ _ _ _ _ _ _ _ _ _ _ _ _ _ _ _ _ _ _ _ _ _ (by omega) (by omega) hx4 hT c1 hO w1
      · refine (if_neg q0).trans ?_; refine o_bnd h' ?_
        exact ih f (j + 4) _ _ _ _ _ _ _ _ _ _ _ _ _ _ _ _ _ _ _ _ _ _ _ _ _ _ _ _ _ _ _ _ _ _ _ _ _ _ _ _ _ _ _ _ _ _ _ _ _ _ _ _ _ _ _ _ _ _ _ _ _ _ _ _ _ _ _ _ _ _ _ _ _ _ _ _ _ _ _ _ _ _ _ _ _ _ _ (by omega) (by omega) hx4 hT c1 hO w1
    refine (if_neg c11_).trans ?_
    by_cases c12_ : ((xs (Int32.toNatClampNeg x3)) &&& 31) = 12
    · refine (if_pos c12_).trans ?_; 
      obtain ⟨r, r', h, h'⟩ := tot_place r_faultAt m_place
      refine o_bnd h ?_; refine o_bnd h' ?_
      exact ih f (j + 4) _ _ _ _ _ _ _ _ _ _ _ _ _ _ _ _ _ _ _ _ _ _ _ _ _ _ _ _ _ _ _ _ _ _ _ _ _ _ _ _ _ _ _ _ _ _ _ _ _ _ _ _ _ _ _ _ _ _ _ _ _ _ _ _ _ _ _ _ _ _ _ _ _ _ _ _ _ _ _ _ _ _ _ _ _ _ _ (by omega) (by omega) hx4 hT hLo hO hD
    refine (if_neg c12_).trans ?_
    by_cases c13_ : ((xs (Int32.toNatClampNeg x3)) &&& 31) = 13
    · refine (if_pos c13_).trans ?_; refine (if_pos g1).trans ?_; refine (if_pos g2).trans ?_; 
      obtain ⟨r, h, h'⟩ := sim_item hD (xs (Int32.toNatClampNeg (x3 + 1))) (xs (Int32.toNatClampNeg (x3 + 2)))
      refine o_bnd h ?_; refine (if_pos g1).trans ?_; refine (if_pos g2).trans ?_; refine o_bnd h' ?_; 
      exact ih f (j + 4) _ _ _ _ _ _ _ _ _ _ _ _ _ _ _ _ _ _ _ _ _ _ _ _ _ _ _ _ _ _ _ _ _ _ _ _ _ _ _ _ _ _ _ _ _ _ _ _ _ _ _ _ _ _ _ _ _ _ _ _ _ _ _ _ _ _ _ _ _ _ _ _ _ _ _ _ _ _ _ _ _ _ _ _ _ _ _ (by omega) (by omega) hx4 hT hLo hO hD
    refine (if_neg c13_).trans ?_
    by_cases c14_ : ((xs (Int32.toNatClampNeg x3)) &&& 31) = 14
    · refine (if_pos c14_).trans ?_; refine (if_pos g1).trans ?_; 
      obtain ⟨r, h, h'⟩ := sim_number hD (xs (Int32.toNatClampNeg (x3 + 1)))
      refine o_bnd h ?_; refine (if_pos g1).trans ?_; refine o_bnd h' ?_; 
      exact ih f (j + 4) _ _ _ _ _ _ _ _ _ _ _ _ _ _ _ _ _ _ _ _ _ _ _ _ _ _ _ _ _ _ _ _ _ _ _ _ _ _ _ _ _ _ _ _ _ _ _ _ _ _ _ _ _ _ _ _ _ _ _ _ _ _ _ _ _ _ _ _ _ _ _ _ _ _ _ _ _ _ _ _ _ _ _ _ _ _ _ (by omega) (by omega) hx4 hT hLo hO hD
    refine (if_neg c14_).trans ?_
    by_cases c15_ : ((xs (Int32.toNatClampNeg x3)) &&& 31) = 15
    · refine (if_pos c15_).trans ?_; refine (if_pos g1).trans ?_; refine (if_pos g2).trans ?_; 
      obtain ⟨r, h, h'⟩ := sim_byteOf hD (xs (Int32.toNatClampNeg (x3 + 1))) (xs (Int32.toNatClampNeg (x3 + 2)))
      refine o_bnd h ?_; refine (if_pos g1).trans ?_; refine (if_pos g2).trans ?_; refine o_bnd h' ?_; 
      exact ih f (j + 4) _ _ _ _ _ _ _ _ _ _ _ _ _ _ _ _ _ _ _ _ _ _ _ _ _ _ _ _ _ _ _ _ _ _ _ _ _ _ _ _ _ _ _ _ _ _ _ _ _ _ _ _ _ _ _ _ _ _ _ _ _ _ _ _ _ _ _ _ _ _ _ _ _ _ _ _ _ _ _ _ _ _ _ _ _ _ _ (by omega) (by omega) hx4 hT hLo hO hD
    refine (if_neg c15_).trans ?_
    by_cases c16_ : ((xs (Int32.toNatClampNeg x3)) &&& 31) = 16
    · refine (if_pos c16_).trans ?_; refine (if_pos g1).trans ?_; 
      obtain ⟨r, h, h'⟩ := sim_count hD typed_size loaded_size output_size (xs (Int32.toNatClampNeg (x3 + 1)))
      refine o_bnd h ?_; refine (if_pos g1).trans ?_; refine o_bnd h' ?_; 
      exact ih f (j + 4) _ _ _ _ _ _ _ _ _ _ _ _ _ _ _ _ _ _ _ _ _ _ _ _ _ _ _ _ _ _ _ _ _ _ _ _ _ _ _ _ _ _ _ _ _ _ _ _ _ _ _ _ _ _ _ _ _ _ _ _ _ _ _ _ _ _ _ _ _ _ _ _ _ _ _ _ _ _ _ _ _ _ _ _ _ _ _ (by omega) (by omega) hx4 hT hLo hO hD
    refine (if_neg c16_).trans ?_
    by_cases c17_ : ((xs (Int32.toNatClampNeg x3)) &&& 31) = 17
    · refine (if_pos c17_).trans ?_; 
      obtain ⟨r, h, h'⟩ := sim_check hD
      refine o_bnd h ?_; refine o_bnd h' ?_; 
      exact ih f (j + 4) _ _ _ _ _ _ _ _ _ _ _ _ _ _ _ _ _ _ _ _ _ _ _ _ _ _ _ _ _ _ _ _ _ _ _ _ _ _ _ _ _ _ _ _ _ _ _ _ _ _ _ _ _ _ _ _ _ _ _ _ _ _ _ _ _ _ _ _ _ _ _ _ _ _ _ _ _ _ _ _ _ _ _ _ _ _ _ (by omega) (by omega) hx4 hT hLo hO hD
    refine (if_neg c17_).trans ?_
    exact ih f (j + 4) _ _ _ _ _ _ _ _ _ _ _ _ _ _ _ _ _ _ _ _ _ _ _ _ _ _ _ _ _ _ _ _ _ _ _ _ _ _ _ _ _ _ _ _ _ _ _ _ _ _ _ _ _ _ _ _ _ _ _ _ _ _ _ _ _ _ _ _ _ _ _ _ _ _ _ _ _ _ _ _ _ _ _ _ _ _ _ (by omega) (by omega) hx4 hT hLo hO hD
theorem law_pure : LawPure := by
  intro xs L hL
  have hE : ∀ cap : Nat, RR cap (fun _ => 0) 0 0 (fun _ => 0) 0 := fun cap => ⟨rfl, rfl, by decide, by rw [z0]; omega, fun k hk => by rw [z0] at hk; omega⟩
  exact law_all xs L hL 512 FU 0 _ _ _ _ _ _ _ _ _ _ _ _ _ _ _ _ _ _ _ _ _ _ _ _ _ _ _ _ _ _ _ _ _ _ _ _ _ _ _ _ _ _ _ _ _ _ _ _ _ _ _ _ _ _ _ _ _ _ _ _ _ _ _ _ _ _ _ _ _ _ _ _ _ _ _ _ _ _ _ _ _ _ _ _ _ _ _ (by unfold FU; omega) (by omega) (by decide) (hE 1000) (hE 6000) (hE 6000) (DR.clear (d := 0) (by omega) rfl rfl rfl)
