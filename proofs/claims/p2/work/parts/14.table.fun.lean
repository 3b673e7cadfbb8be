def bX3_clear_0  (heads : Nat → Int32) (size : Int32)  : Option ((Nat → Int32) × (Int32)) :=
  ((fJ7_fill_53178 256 heads (-1)).bind fun v2 => some (v2, 0))
def fX3_clear (heads : Nat → Int32) (size : Int32)  : Option ((Nat → Int32) × (Int32)) := bX3_clear_0 heads size
set_option maxRecDepth 100000 in
set_option maxHeartbeats 4000000 in
theorem tX3_clear_0 {G : jG} {X : jX} {ad : Nat → Nat} {r : (Nat → Int32) × (Int32)} {items : Nat → Int32} {chain : Nat → Int32} (B : jB G X cX3_clear 1 RX3 { frames := 1, cells := 0, slots := 0, locals := 23 }) (E : jR G X (pd ad none [ob 3 [.ref (ad 1), .ref (ad 2), .ref (ad 3), .int r.2], aI G 1024 items, aI G 1024 chain, aI G 256 r.1]) { frames := 1, cells := 0, slots := 0, locals := 23 } none) {heads : Nat → Int32} {size : Int32}  (h : bX3_clear_0  heads size = some r) : J G X 1 ad 0 0 [ob 3 [.ref (ad 1), .ref (ad 2), .ref (ad 3), .int size], aI G 1024 items, aI G 1024 chain, aI G 256 heads] [(0, .ref (ad 0))] 0 [] := by
  unfold bX3_clear_0 at h
  refine jv_aload_n B dX3_clear_0 rfl ?_
  refine jv_iconst (v := 0) B dX3_clear_1 (by decide) ?_
  refine jv_put (fs' := [_, _, _, _]) (ws' := [_, _, _, _]) B kX3 3 (by decide) wf_X3_21 rfl rfl rfl rfl (Nat.le_of_ble_eq_true rfl) rfl rfl dX3_clear_2 ?_
  refine jv_aload_n B dX3_clear_5 rfl ?_
  refine jv_get B kX3 2 (by decide) wf_X3_18 rfl rfl dX3_clear_6 ?_
  refine jv_iconst (v := (-1)) B dX3_clear_9 (by decide) ?_
  obtain ⟨v2, hv2, h⟩ := dc_b h
  refine jv_callS (ws' := [_, _, _, _]) B jyJ7_fill_53178 jtJ7_fill_53178 wm_X3_25 [3] (qJ7_fill_53178 _ G _ hv2) ⟨⟨by decide, by decide⟩, by decide, by decide⟩ rfl rfl (by decide) rfl rfl rfl (Nat.le_of_ble_eq_true rfl) dX3_clear_10 ?_
  obtain rfl := Option.some.inj h
  exact jv_vret B E ⟨rfl, rfl⟩ ⟨by decide, by decide⟩ dX3_clear_13
set_option maxRecDepth 100000 in
set_option maxHeartbeats 4000000 in
theorem qX3_clear (l : Launch) (G : jG) (ad : Nat → Nat) {items : Nat → Int32} {chain : Nat → Int32} {heads : Nat → Int32} {size : Int32}  {r : (Nat → Int32) × (Int32)} (h : fX3_clear heads size = some r) : CT l G yX3_clear cX3_clear 1 none { frames := 1, cells := 0, slots := 0, locals := 23 } ad [.ref (ad 0)] [ob 3 [.ref (ad 1), .ref (ad 2), .ref (ad 3), .int size], aI G 1024 items, aI G 1024 chain, aI G 256 heads] 0 (pd ad none [ob 3 [.ref (ad 1), .ref (ad 2), .ref (ad 3), .int r.2], aI G 1024 items, aI G 1024 chain, aI G 256 r.1]) :=
  CT.of jyX3_clear (Nat.le_of_ble_eq_true rfl) (fun X B E _ _ => tX3_clear_0 B E h)
def bX3_takes_0   (p0 : Int32) : Option (Int32) :=
  (if p0 < 1 then some (0) else (if 64 < p0 then some (0) else some (1)))
def fX3_takes  (p0 : Int32) : Option (Int32) := bX3_takes_0 p0
set_option maxRecDepth 100000 in
set_option maxHeartbeats 4000000 in
theorem tX3_takes_0 {G : jG} {X : jX} {ad : Nat → Nat} {r : Int32}  (B : jB G X cX3_takes 1 RX3 { frames := 0, cells := 0, slots := 0, locals := 0 }) (E : jR G X (pd ad (some (.int r)) []) { frames := 0, cells := 0, slots := 0, locals := 0 } (some .boolean))  {p0 : Int32} (h : bX3_takes_0  p0 = some r) : J G X 1 ad 0 0 [] [(0, .int p0)] 0 [] := by
  unfold bX3_takes_0 at h
  refine jv_iload_n B dX3_takes_0 rfl ?_
  refine jv_iconst (v := 1) B dX3_takes_1 (by decide) ?_
  refine jv_icmp_lt (tgt := 15) B dX3_takes_2 (by decide) (fun c2 => ?_) (fun c2 => ?_)
  · replace h := dc_t c2 h
    refine jv_iconst (v := 0) B dX3_takes_15 (by decide) ?_
    obtain rfl := Option.some.inj h
    exact jv_zret B E (Or.inl rfl) ⟨rfl, rfl⟩ ⟨by decide, by decide⟩ dX3_takes_16
  · replace h := dc_f c2 h
    refine jv_iload_n B dX3_takes_5 rfl ?_
    refine jv_bipush (v := 64) B dX3_takes_6 (by decide) ?_
    refine jv_icmp_gt (tgt := 15) B dX3_takes_8 (by decide) (fun c8 => ?_) (fun c8 => ?_)
    · replace h := dc_t c8 h
      refine jv_iconst (v := 0) B dX3_takes_15 (by decide) ?_
      obtain rfl := Option.some.inj h
      exact jv_zret B E (Or.inl rfl) ⟨rfl, rfl⟩ ⟨by decide, by decide⟩ dX3_takes_16
    · replace h := dc_f c8 h
      refine jv_iconst (v := 1) B dX3_takes_11 (by decide) ?_
      refine jv_goto (tgt := 16) B dX3_takes_12 (by decide) ?_
      obtain rfl := Option.some.inj h
      exact jv_zret B E (Or.inr rfl) ⟨rfl, rfl⟩ ⟨by decide, by decide⟩ dX3_takes_16
set_option maxRecDepth 100000 in
set_option maxHeartbeats 4000000 in
theorem qX3_takes (l : Launch) (G : jG) (ad : Nat → Nat)  {p0 : Int32} {r : Int32} (h : fX3_takes p0 = some r) : CT l G yX3_takes cX3_takes 1 (some .boolean) { frames := 0, cells := 0, slots := 0, locals := 0 } ad [.int p0] [] 0 (pd ad (some (.int r)) []) :=
  CT.of jyX3_takes (Nat.le_of_ble_eq_true rfl) (fun X B E _ _ => tX3_takes_0 B E h)
def bX3_bucketOf_0   (p0 : Int32) : Option (Int32) :=
  some (((p0 ^^^ ((Int32.toUInt32 p0 >>> (Int32.toUInt32 8 &&& Int32.toUInt32 31)).toInt32)) &&& 255))
def fX3_bucketOf  (p0 : Int32) : Option (Int32) := bX3_bucketOf_0 p0
set_option maxRecDepth 100000 in
set_option maxHeartbeats 4000000 in
theorem tX3_bucketOf_0 {G : jG} {X : jX} {ad : Nat → Nat} {r : Int32}  (B : jB G X cX3_bucketOf 1 RX3 { frames := 0, cells := 0, slots := 0, locals := 0 }) (E : jR G X (pd ad (some (.int r)) []) { frames := 0, cells := 0, slots := 0, locals := 0 } (some .int))  {p0 : Int32} (h : bX3_bucketOf_0  p0 = some r) : J G X 1 ad 0 0 [] [(0, .int p0)] 0 [] := by
  unfold bX3_bucketOf_0 at h
  refine jv_iload_n B dX3_bucketOf_0 rfl ?_
  refine jv_iload_n B dX3_bucketOf_1 rfl ?_
  refine jv_bipush (v := 8) B dX3_bucketOf_2 (by decide) ?_
  refine jv_iushr B dX3_bucketOf_4 ?_
  refine jv_ixor B dX3_bucketOf_5 ?_
  refine jv_sipush (v := 255) B dX3_bucketOf_6 (by decide) ?_
  refine jv_iand B dX3_bucketOf_9 ?_
  obtain rfl := Option.some.inj h
  exact jv_iret B E ⟨rfl, rfl⟩ ⟨by decide, by decide⟩ dX3_bucketOf_10
set_option maxRecDepth 100000 in
set_option maxHeartbeats 4000000 in
theorem qX3_bucketOf (l : Launch) (G : jG) (ad : Nat → Nat)  {p0 : Int32} {r : Int32} (h : fX3_bucketOf p0 = some r) : CT l G yX3_bucketOf cX3_bucketOf 1 (some .int) { frames := 0, cells := 0, slots := 0, locals := 0 } ad [.int p0] [] 0 (pd ad (some (.int r)) []) :=
  CT.of jyX3_bucketOf (Nat.le_of_ble_eq_true rfl) (fun X B E _ _ => tX3_bucketOf_0 B E h)
def bX3_placeOf_17  : Nat → (Nat → Int32) → (Nat → Int32) → (Nat → Int32) → Int32 → (Nat → Int32) → (Nat → Int32) → (Nat → Int32) → Int32 → Int32 → Int32 → Int32 → Int32 → Option (Int32)
  | 0, _, _, _, _, _, _, _, _, _, _, _, _ => none
  | nn + 1, items, chain, heads, size, d_starts, d_lengths, d_b_cells, d_b_size, d_size, x2, x3, x4 =>
    (if size ≤ x4 then some ((-1)) else (if x3 < 0 then some ((-1)) else (if size ≤ x3 then some ((-1)) else (if ix x3 1024 then ((fX0_haveSameText d_starts d_lengths d_b_cells d_b_size d_size (items (Int32.toNatClampNeg x3)) x2).bind fun v4 => (if v4 = 0 then (if ix x3 1024 then bX3_placeOf_17  nn items chain heads size d_starts d_lengths d_b_cells d_b_size d_size x2 (chain (Int32.toNatClampNeg x3)) (x4 + 1) else none) else some (x3))) else none))))
def bX3_placeOf_0  (items : Nat → Int32) (chain : Nat → Int32) (heads : Nat → Int32) (size : Int32) (d_starts : Nat → Int32) (d_lengths : Nat → Int32) (d_b_cells : Nat → Int32) (d_b_size : Int32) (d_size : Int32) (p0 : Int32) : Option (Int32) :=
  ((fX0_mixOf d_starts d_lengths d_b_cells d_b_size d_size p0).bind fun v5 => ((fX3_bucketOf v5).bind fun v6 => (if ix v6 256 then bX3_placeOf_17  FU items chain heads size d_starts d_lengths d_b_cells d_b_size d_size p0 (heads (Int32.toNatClampNeg v6)) 0 else none)))
def fX3_placeOf (items : Nat → Int32) (chain : Nat → Int32) (heads : Nat → Int32) (size : Int32) (d_starts : Nat → Int32) (d_lengths : Nat → Int32) (d_b_cells : Nat → Int32) (d_b_size : Int32) (d_size : Int32) (p0 : Int32) : Option (Int32) := bX3_placeOf_0 items chain heads size d_starts d_lengths d_b_cells d_b_size d_size p0
set_option maxRecDepth 100000 in
set_option maxHeartbeats 4000000 in
theorem tX3_placeOf_17 {G : jG} {X : jX} {ad : Nat → Nat} {r : Int32} {items : Nat → Int32} {chain : Nat → Int32} {heads : Nat → Int32} {size : Int32} {d_kinds : Nat → Int32} {d_starts : Nat → Int32} {d_lengths : Nat → Int32} {d_depths : Nat → Int32} {d_numbers : Nat → Int64} {d_b_cells : Nat → Int32} {d_b_size : Int32} {d_b_tooLong : Int32} {d_openKinds : Nat → Int32} {d_size : Int32} {d_depth : Int32} {d_named : Int32} (B : jB G X cX3_placeOf 5 RX3 { frames := 2, cells := 0, slots := 0, locals := 44 }) (E : jR G X (pd ad (some (.int r)) [ob 3 [.ref (ad 1), .ref (ad 2), .ref (ad 3), .int size], aI G 1024 items, aI G 1024 chain, aI G 256 heads, ob 0 [.ref (ad 5), .ref (ad 6), .ref (ad 7), .ref (ad 8), .ref (ad 9), .ref (ad 10), .ref (ad 12), .int d_size, .int d_depth, .int d_named], aI G 1500 d_kinds, aI G 1500 d_starts, aI G 1500 d_lengths, aI G 1500 d_depths, aL G 1500 d_numbers, ob 2 [.ref (ad 11), .int d_b_size, .int d_b_tooLong], aB G 5000 d_b_cells, aI G 30 d_openKinds]) { frames := 2, cells := 0, slots := 0, locals := 44 } (some .int)) : ∀ (nn : Nat)  (x2 : Int32) (x3 : Int32) (x4 : Int32), bX3_placeOf_17  nn items chain heads size d_starts d_lengths d_b_cells d_b_size d_size x2 x3 x4 = some r → J G X 5 ad 0 0 [ob 3 [.ref (ad 1), .ref (ad 2), .ref (ad 3), .int size], aI G 1024 items, aI G 1024 chain, aI G 256 heads, ob 0 [.ref (ad 5), .ref (ad 6), .ref (ad 7), .ref (ad 8), .ref (ad 9), .ref (ad 10), .ref (ad 12), .int d_size, .int d_depth, .int d_named], aI G 1500 d_kinds, aI G 1500 d_starts, aI G 1500 d_lengths, aI G 1500 d_depths, aL G 1500 d_numbers, ob 2 [.ref (ad 11), .int d_b_size, .int d_b_tooLong], aB G 5000 d_b_cells, aI G 30 d_openKinds] [(0, .ref (ad 0)), (1, .ref (ad 4)), (2, .int x2), (3, .int x3), (4, .int x4)] 17 [] := by
  intro nn
  induction nn with
  | zero => intro x2 x3 x4 h; cases h
  | succ nn ih =>
    intro x2 x3 x4 h
    unfold bX3_placeOf_17 at h
    refine jv_iload B dX3_placeOf_17 rfl ?_
    refine jv_aload_n B dX3_placeOf_19 rfl ?_
    refine jv_get B kX3 3 (by decide) wf_X3_21 rfl rfl dX3_placeOf_20 ?_
    refine jv_icmp_ge (tgt := 67) B dX3_placeOf_23 (by decide) (fun c23 => ?_) (fun c23 => ?_)
    · replace h := dc_t c23 h
      refine jv_iconst (v := (-1)) B dX3_placeOf_67 (by decide) ?_
      obtain rfl := Option.some.inj h
      exact jv_iret B E ⟨rfl, rfl⟩ ⟨by decide, by decide⟩ dX3_placeOf_68
    · replace h := dc_f c23 h
      refine jv_iload_n B dX3_placeOf_26 rfl ?_
      refine jv_if_lt (tgt := 67) B dX3_placeOf_27 (by decide) (fun c27 => ?_) (fun c27 => ?_)
      · replace h := dc_t c27 h
        refine jv_iconst (v := (-1)) B dX3_placeOf_67 (by decide) ?_
        obtain rfl := Option.some.inj h
        exact jv_iret B E ⟨rfl, rfl⟩ ⟨by decide, by decide⟩ dX3_placeOf_68
      · replace h := dc_f c27 h
        refine jv_iload_n B dX3_placeOf_30 rfl ?_
        refine jv_aload_n B dX3_placeOf_31 rfl ?_
        refine jv_get B kX3 3 (by decide) wf_X3_21 rfl rfl dX3_placeOf_32 ?_
        refine jv_icmp_ge (tgt := 67) B dX3_placeOf_35 (by decide) (fun c35 => ?_) (fun c35 => ?_)
        · replace h := dc_t c35 h
          refine jv_iconst (v := (-1)) B dX3_placeOf_67 (by decide) ?_
          obtain rfl := Option.some.inj h
          exact jv_iret B E ⟨rfl, rfl⟩ ⟨by decide, by decide⟩ dX3_placeOf_68
        · replace h := dc_f c35 h
          refine jv_aload_n B dX3_placeOf_38 rfl ?_
          refine jv_aload_n B dX3_placeOf_39 rfl ?_
          refine jv_get B kX3 0 (by decide) wf_X3_9 rfl rfl dX3_placeOf_40 ?_
          refine jv_iload_n B dX3_placeOf_43 rfl ?_
          obtain ⟨g44, h⟩ := dc_if h
          refine jx_iald B rfl g44 dX3_placeOf_44 ?_
          refine jv_iload_n B dX3_placeOf_45 rfl ?_
          obtain ⟨v4, hv4, h⟩ := dc_b h
          refine jv_callV (ws' := [_, _, _, _, ob 0 [.ref (ad 5), .ref (ad 6), .ref (ad 7), .ref (ad 8), .ref (ad 9), .ref (ad 10), .ref (ad 12), _, _, _], _, _, _, _, _, ob 2 [.ref (ad 11), _, _], _, _]) B jyX0_haveSameText jiX0_haveSameText wm_X3_47 [4, 5, 6, 7, 8, 9, 10, 11, 12] (qX0_haveSameText _ G _ hv4) ⟨⟨by decide, by decide⟩, by decide, by decide⟩ rfl rfl rfl rfl rfl (by decide) rfl rfl rfl (Nat.le_of_ble_eq_true rfl) dX3_placeOf_46 ?_
          refine jv_if_eq (tgt := 54) B dX3_placeOf_49 (by decide) (fun c49 => ?_) (fun c49 => ?_)
          · replace h := dc_t c49 h
            refine jv_aload_n B dX3_placeOf_54 rfl ?_
            refine jv_get B kX3 1 (by decide) wf_X3_15 rfl rfl dX3_placeOf_55 ?_
            refine jv_iload_n B dX3_placeOf_58 rfl ?_
            obtain ⟨g59, h⟩ := dc_if h
            refine jx_iald B rfl g59 dX3_placeOf_59 ?_
            refine jv_istore_n (lv' := [(0, _), (1, _), (2, _), (3, _), (4, _)]) B dX3_placeOf_60 (by decide) (lvi_cons rfl (lvi_cons rfl (lvi_cons rfl (lvi_cons rfl (lvi_cons rfl lvi_nil))))) ?_
            refine jv_iinc (v := x4 + 1) (lv' := [(0, _), (1, _), (2, _), (3, _), (4, _)]) B dX3_placeOf_61 rfl (by rfl) (by decide) (lvi_cons rfl (lvi_cons rfl (lvi_cons rfl (lvi_cons rfl (lvi_cons rfl lvi_nil))))) ?_
            refine jv_goto (tgt := 17) B dX3_placeOf_64 (by decide) ?_
            exact jv_lv (lv' := [(0, _), (1, _), (2, _), (3, _), (4, _)]) (lvi_cons rfl (lvi_cons rfl (lvi_cons rfl (lvi_cons rfl (lvi_cons rfl lvi_nil))))) (ih _ _ _ h)
          · replace h := dc_f c49 h
            refine jv_iload_n B dX3_placeOf_52 rfl ?_
            obtain rfl := Option.some.inj h
            exact jv_iret B E ⟨rfl, rfl⟩ ⟨by decide, by decide⟩ dX3_placeOf_53
set_option maxRecDepth 100000 in
set_option maxHeartbeats 4000000 in
theorem tX3_placeOf_0 {G : jG} {X : jX} {ad : Nat → Nat} {r : Int32} {items : Nat → Int32} {chain : Nat → Int32} {heads : Nat → Int32} {size : Int32} {d_kinds : Nat → Int32} {d_starts : Nat → Int32} {d_lengths : Nat → Int32} {d_depths : Nat → Int32} {d_numbers : Nat → Int64} {d_b_cells : Nat → Int32} {d_b_size : Int32} {d_b_tooLong : Int32} {d_openKinds : Nat → Int32} {d_size : Int32} {d_depth : Int32} {d_named : Int32} (B : jB G X cX3_placeOf 5 RX3 { frames := 2, cells := 0, slots := 0, locals := 44 }) (E : jR G X (pd ad (some (.int r)) [ob 3 [.ref (ad 1), .ref (ad 2), .ref (ad 3), .int size], aI G 1024 items, aI G 1024 chain, aI G 256 heads, ob 0 [.ref (ad 5), .ref (ad 6), .ref (ad 7), .ref (ad 8), .ref (ad 9), .ref (ad 10), .ref (ad 12), .int d_size, .int d_depth, .int d_named], aI G 1500 d_kinds, aI G 1500 d_starts, aI G 1500 d_lengths, aI G 1500 d_depths, aL G 1500 d_numbers, ob 2 [.ref (ad 11), .int d_b_size, .int d_b_tooLong], aB G 5000 d_b_cells, aI G 30 d_openKinds]) { frames := 2, cells := 0, slots := 0, locals := 44 } (some .int))  {p0 : Int32} (h : bX3_placeOf_0  items chain heads size d_starts d_lengths d_b_cells d_b_size d_size p0 = some r) : J G X 5 ad 0 0 [ob 3 [.ref (ad 1), .ref (ad 2), .ref (ad 3), .int size], aI G 1024 items, aI G 1024 chain, aI G 256 heads, ob 0 [.ref (ad 5), .ref (ad 6), .ref (ad 7), .ref (ad 8), .ref (ad 9), .ref (ad 10), .ref (ad 12), .int d_size, .int d_depth, .int d_named], aI G 1500 d_kinds, aI G 1500 d_starts, aI G 1500 d_lengths, aI G 1500 d_depths, aL G 1500 d_numbers, ob 2 [.ref (ad 11), .int d_b_size, .int d_b_tooLong], aB G 5000 d_b_cells, aI G 30 d_openKinds] [(0, .ref (ad 0)), (1, .ref (ad 4)), (2, .int p0)] 0 [] := by
  unfold bX3_placeOf_0 at h
  refine jv_aload_n B dX3_placeOf_0 rfl ?_
  refine jv_get B kX3 2 (by decide) wf_X3_18 rfl rfl dX3_placeOf_1 ?_
  refine jv_aload_n B dX3_placeOf_4 rfl ?_
  refine jv_iload_n B dX3_placeOf_5 rfl ?_
  obtain ⟨v5, hv5, h⟩ := dc_b h
  refine jv_callV (ws' := [_, _, _, _, ob 0 [.ref (ad 5), .ref (ad 6), .ref (ad 7), .ref (ad 8), .ref (ad 9), .ref (ad 10), .ref (ad 12), _, _, _], _, _, _, _, _, ob 2 [.ref (ad 11), _, _], _, _]) B jyX0_mixOf jiX0_mixOf wm_X3_38 [4, 5, 6, 7, 8, 9, 10, 11, 12] (qX0_mixOf _ G _ hv5) ⟨⟨by decide, by decide⟩, by decide, by decide⟩ rfl rfl rfl rfl rfl (by decide) rfl rfl rfl (Nat.le_of_ble_eq_true rfl) dX3_placeOf_6 ?_
  obtain ⟨v6, hv6, h⟩ := dc_b h
  refine jv_callS (ws' := [_, _, _, _, _, _, _, _, _, _, _, _, _]) B jyX3_bucketOf jtX3_bucketOf wm_X3_44 [] (qX3_bucketOf _ G _ hv6) ⟨⟨by decide, by decide⟩, by decide, by decide⟩ rfl rfl (by decide) rfl rfl rfl (Nat.le_of_ble_eq_true rfl) dX3_placeOf_9 ?_
  obtain ⟨g12, h⟩ := dc_if h
  refine jx_iald B rfl g12 dX3_placeOf_12 ?_
  refine jv_istore_n (lv' := [(0, _), (1, _), (2, _), (3, _)]) B dX3_placeOf_13 (by decide) (lvi_cons rfl (lvi_cons rfl (lvi_cons rfl (lvi_cons rfl lvi_nil)))) ?_
  refine jv_iconst (v := 0) B dX3_placeOf_14 (by decide) ?_
  refine jv_istore (lv' := [(0, _), (1, _), (2, _), (3, _), (4, _)]) B dX3_placeOf_15 (by decide) (lvi_cons rfl (lvi_cons rfl (lvi_cons rfl (lvi_cons rfl (lvi_cons rfl lvi_nil))))) ?_
  exact jv_lv (lv' := [(0, _), (1, _), (2, _), (3, _), (4, _)]) (lvi_cons rfl (lvi_cons rfl (lvi_cons rfl (lvi_cons rfl (lvi_cons rfl lvi_nil))))) (tX3_placeOf_17 B E  FU _ _ _ h)
set_option maxRecDepth 100000 in
set_option maxHeartbeats 4000000 in
theorem qX3_placeOf (l : Launch) (G : jG) (ad : Nat → Nat) {items : Nat → Int32} {chain : Nat → Int32} {heads : Nat → Int32} {size : Int32} {d_kinds : Nat → Int32} {d_starts : Nat → Int32} {d_lengths : Nat → Int32} {d_depths : Nat → Int32} {d_numbers : Nat → Int64} {d_b_cells : Nat → Int32} {d_b_size : Int32} {d_b_tooLong : Int32} {d_openKinds : Nat → Int32} {d_size : Int32} {d_depth : Int32} {d_named : Int32} {p0 : Int32} {r : Int32} (h : fX3_placeOf items chain heads size d_starts d_lengths d_b_cells d_b_size d_size p0 = some r) : CT l G yX3_placeOf cX3_placeOf 5 (some .int) { frames := 2, cells := 0, slots := 0, locals := 44 } ad [.ref (ad 0), .ref (ad 4), .int p0] [ob 3 [.ref (ad 1), .ref (ad 2), .ref (ad 3), .int size], aI G 1024 items, aI G 1024 chain, aI G 256 heads, ob 0 [.ref (ad 5), .ref (ad 6), .ref (ad 7), .ref (ad 8), .ref (ad 9), .ref (ad 10), .ref (ad 12), .int d_size, .int d_depth, .int d_named], aI G 1500 d_kinds, aI G 1500 d_starts, aI G 1500 d_lengths, aI G 1500 d_depths, aL G 1500 d_numbers, ob 2 [.ref (ad 11), .int d_b_size, .int d_b_tooLong], aB G 5000 d_b_cells, aI G 30 d_openKinds] 0 (pd ad (some (.int r)) [ob 3 [.ref (ad 1), .ref (ad 2), .ref (ad 3), .int size], aI G 1024 items, aI G 1024 chain, aI G 256 heads, ob 0 [.ref (ad 5), .ref (ad 6), .ref (ad 7), .ref (ad 8), .ref (ad 9), .ref (ad 10), .ref (ad 12), .int d_size, .int d_depth, .int d_named], aI G 1500 d_kinds, aI G 1500 d_starts, aI G 1500 d_lengths, aI G 1500 d_depths, aL G 1500 d_numbers, ob 2 [.ref (ad 11), .int d_b_size, .int d_b_tooLong], aB G 5000 d_b_cells, aI G 30 d_openKinds]) :=
  CT.of jyX3_placeOf (Nat.le_of_ble_eq_true rfl) (fun X B E _ _ => tX3_placeOf_0 B E h)
def bX3_canBeTold_0   (p0 : Int32) : Option (Int32) :=
  (if 254 ≤ (p0 &&& 255) then some (0) else some (1))
def fX3_canBeTold  (p0 : Int32) : Option (Int32) := bX3_canBeTold_0 p0
set_option maxRecDepth 100000 in
set_option maxHeartbeats 4000000 in
theorem tX3_canBeTold_0 {G : jG} {X : jX} {ad : Nat → Nat} {r : Int32}  (B : jB G X cX3_canBeTold 1 RX3 { frames := 0, cells := 0, slots := 0, locals := 0 }) (E : jR G X (pd ad (some (.int r)) []) { frames := 0, cells := 0, slots := 0, locals := 0 } (some .boolean))  {p0 : Int32} (h : bX3_canBeTold_0  p0 = some r) : J G X 1 ad 0 0 [] [(0, .int p0)] 0 [] := by
  unfold bX3_canBeTold_0 at h
  refine jv_iload_n B dX3_canBeTold_0 rfl ?_
  refine jv_sipush (v := 255) B dX3_canBeTold_1 (by decide) ?_
  refine jv_iand B dX3_canBeTold_4 ?_
  refine jv_sipush (v := 254) B dX3_canBeTold_5 (by decide) ?_
  refine jv_icmp_ge (tgt := 15) B dX3_canBeTold_8 (by decide) (fun c8 => ?_) (fun c8 => ?_)
  · replace h := dc_t c8 h
    refine jv_iconst (v := 0) B dX3_canBeTold_15 (by decide) ?_
    obtain rfl := Option.some.inj h
    exact jv_zret B E (Or.inl rfl) ⟨rfl, rfl⟩ ⟨by decide, by decide⟩ dX3_canBeTold_16
  · replace h := dc_f c8 h
    refine jv_iconst (v := 1) B dX3_canBeTold_11 (by decide) ?_
    refine jv_goto (tgt := 16) B dX3_canBeTold_12 (by decide) ?_
    obtain rfl := Option.some.inj h
    exact jv_zret B E (Or.inr rfl) ⟨rfl, rfl⟩ ⟨by decide, by decide⟩ dX3_canBeTold_16
set_option maxRecDepth 100000 in
set_option maxHeartbeats 4000000 in
theorem qX3_canBeTold (l : Launch) (G : jG) (ad : Nat → Nat)  {p0 : Int32} {r : Int32} (h : fX3_canBeTold p0 = some r) : CT l G yX3_canBeTold cX3_canBeTold 1 (some .boolean) { frames := 0, cells := 0, slots := 0, locals := 0 } ad [.int p0] [] 0 (pd ad (some (.int r)) []) :=
  CT.of jyX3_canBeTold (Nat.le_of_ble_eq_true rfl) (fun X B E _ _ => tX3_canBeTold_0 B E h)
def bX3_put_14  (items : Nat → Int32) (chain : Nat → Int32) (heads : Nat → Int32) (size : Int32) (d_starts : Nat → Int32) (d_lengths : Nat → Int32) (d_b_cells : Nat → Int32) (d_b_size : Int32) (d_size : Int32) (x2 : Int32) : Option ((Nat → Int32) × (Nat → Int32) × (Nat → Int32) × (Int32)) :=
  (if ix size 1024 then ((fX3_canBeTold size).bind fun v5 => (if v5 = 0 then some ((upd items (Int32.toNatClampNeg size) x2), chain, heads, (size + 1)) else ((fX0_mixOf d_starts d_lengths d_b_cells d_b_size d_size x2).bind fun v6 => ((fX3_bucketOf v6).bind fun v7 => (if ix v7 256 then (if ix size 1024 then (if ix v7 256 then some ((upd items (Int32.toNatClampNeg size) x2), (upd chain (Int32.toNatClampNeg size) (heads (Int32.toNatClampNeg v7))), (upd heads (Int32.toNatClampNeg v7) size), (size + 1)) else none) else none) else none))))) else none)
def bX3_put_0  (items : Nat → Int32) (chain : Nat → Int32) (heads : Nat → Int32) (size : Int32) (d_starts : Nat → Int32) (d_lengths : Nat → Int32) (d_b_cells : Nat → Int32) (d_b_size : Int32) (d_size : Int32) (p0 : Int32) : Option ((Nat → Int32) × (Nat → Int32) × (Nat → Int32) × (Int32)) :=
  (if size < 1024 then bX3_put_14  items chain heads size d_starts d_lengths d_b_cells d_b_size d_size p0 else ((fX3_clear heads size).bind fun v8 => bX3_put_14  items chain v8.1 v8.2 d_starts d_lengths d_b_cells d_b_size d_size p0))
def fX3_put (items : Nat → Int32) (chain : Nat → Int32) (heads : Nat → Int32) (size : Int32) (d_starts : Nat → Int32) (d_lengths : Nat → Int32) (d_b_cells : Nat → Int32) (d_b_size : Int32) (d_size : Int32) (p0 : Int32) : Option ((Nat → Int32) × (Nat → Int32) × (Nat → Int32) × (Int32)) := bX3_put_0 items chain heads size d_starts d_lengths d_b_cells d_b_size d_size p0
set_option maxRecDepth 100000 in
set_option maxHeartbeats 4000000 in
theorem tX3_put_14 {G : jG} {X : jX} {ad : Nat → Nat} {r : (Nat → Int32) × (Nat → Int32) × (Nat → Int32) × (Int32)} {d_kinds : Nat → Int32} {d_starts : Nat → Int32} {d_lengths : Nat → Int32} {d_depths : Nat → Int32} {d_numbers : Nat → Int64} {d_b_cells : Nat → Int32} {d_b_size : Int32} {d_b_tooLong : Int32} {d_openKinds : Nat → Int32} {d_size : Int32} {d_depth : Int32} {d_named : Int32} (B : jB G X cX3_put 4 RX3 { frames := 2, cells := 0, slots := 0, locals := 44 }) (E : jR G X (pd ad none [ob 3 [.ref (ad 1), .ref (ad 2), .ref (ad 3), .int r.2.2.2], aI G 1024 r.1, aI G 1024 r.2.1, aI G 256 r.2.2.1, ob 0 [.ref (ad 5), .ref (ad 6), .ref (ad 7), .ref (ad 8), .ref (ad 9), .ref (ad 10), .ref (ad 12), .int d_size, .int d_depth, .int d_named], aI G 1500 d_kinds, aI G 1500 d_starts, aI G 1500 d_lengths, aI G 1500 d_depths, aL G 1500 d_numbers, ob 2 [.ref (ad 11), .int d_b_size, .int d_b_tooLong], aB G 5000 d_b_cells, aI G 30 d_openKinds]) { frames := 2, cells := 0, slots := 0, locals := 44 } none) {items : Nat → Int32} {chain : Nat → Int32} {heads : Nat → Int32} {size : Int32} {x2 : Int32} (h : bX3_put_14  items chain heads size d_starts d_lengths d_b_cells d_b_size d_size x2 = some r) : J G X 4 ad 0 0 [ob 3 [.ref (ad 1), .ref (ad 2), .ref (ad 3), .int size], aI G 1024 items, aI G 1024 chain, aI G 256 heads, ob 0 [.ref (ad 5), .ref (ad 6), .ref (ad 7), .ref (ad 8), .ref (ad 9), .ref (ad 10), .ref (ad 12), .int d_size, .int d_depth, .int d_named], aI G 1500 d_kinds, aI G 1500 d_starts, aI G 1500 d_lengths, aI G 1500 d_depths, aL G 1500 d_numbers, ob 2 [.ref (ad 11), .int d_b_size, .int d_b_tooLong], aB G 5000 d_b_cells, aI G 30 d_openKinds] [(0, .ref (ad 0)), (1, .ref (ad 4)), (2, .int x2)] 14 [] := by
  unfold bX3_put_14 at h
  refine jv_aload_n B dX3_put_14 rfl ?_
  refine jv_get B kX3 0 (by decide) wf_X3_9 rfl rfl dX3_put_15 ?_
  refine jv_aload_n B dX3_put_18 rfl ?_
  refine jv_get B kX3 3 (by decide) wf_X3_21 rfl rfl dX3_put_19 ?_
  refine jv_iload_n B dX3_put_22 rfl ?_
  obtain ⟨g23, h⟩ := dc_if h
  refine jx_iast (ws' := [_, _, _, _, _, _, _, _, _, _, _, _, _]) B rfl g23 rfl dX3_put_23 ?_
  refine jv_aload_n B dX3_put_24 rfl ?_
  refine jv_get B kX3 3 (by decide) wf_X3_21 rfl rfl dX3_put_25 ?_
  obtain ⟨v5, hv5, h⟩ := dc_b h
  refine jv_callS (ws' := [_, _, _, _, _, _, _, _, _, _, _, _, _]) B jyX3_canBeTold jtX3_canBeTold wm_X3_31 [] (qX3_canBeTold _ G _ hv5) ⟨⟨by decide, by decide⟩, by decide, by decide⟩ rfl rfl (by decide) rfl rfl rfl (Nat.le_of_ble_eq_true rfl) dX3_put_28 ?_
  refine jv_if_eq (tgt := 68) B dX3_put_31 (by decide) (fun c31 => ?_) (fun c31 => ?_)
  · replace h := dc_t c31 h
    refine jv_aload_n B dX3_put_68 rfl ?_
    refine jv_dup B dX3_put_69 rfl ?_
    refine jv_get B kX3 3 (by decide) wf_X3_21 rfl rfl dX3_put_70 ?_
    refine jv_iconst (v := 1) B dX3_put_73 (by decide) ?_
    refine jv_iadd B dX3_put_74 ?_
    refine jv_put (fs' := [_, _, _, _]) (ws' := [_, _, _, _, _, _, _, _, _, _, _, _, _]) B kX3 3 (by decide) wf_X3_21 rfl rfl rfl rfl (Nat.le_of_ble_eq_true rfl) rfl rfl dX3_put_75 ?_
    obtain rfl := Option.some.inj h
    exact jv_vret B E ⟨rfl, rfl⟩ ⟨by decide, by decide⟩ dX3_put_78
  · replace h := dc_f c31 h
    refine jv_aload_n B dX3_put_34 rfl ?_
    refine jv_iload_n B dX3_put_35 rfl ?_
    obtain ⟨v6, hv6, h⟩ := dc_b h
    refine jv_callV (ws' := [_, _, _, _, ob 0 [.ref (ad 5), .ref (ad 6), .ref (ad 7), .ref (ad 8), .ref (ad 9), .ref (ad 10), .ref (ad 12), _, _, _], _, _, _, _, _, ob 2 [.ref (ad 11), _, _], _, _]) B jyX0_mixOf jiX0_mixOf wm_X3_38 [4, 5, 6, 7, 8, 9, 10, 11, 12] (qX0_mixOf _ G _ hv6) ⟨⟨by decide, by decide⟩, by decide, by decide⟩ rfl rfl rfl rfl rfl (by decide) rfl rfl rfl (Nat.le_of_ble_eq_true rfl) dX3_put_36 ?_
    obtain ⟨v7, hv7, h⟩ := dc_b h
    refine jv_callS (ws' := [_, _, _, _, _, _, _, _, _, _, _, _, _]) B jyX3_bucketOf jtX3_bucketOf wm_X3_44 [] (qX3_bucketOf _ G _ hv7) ⟨⟨by decide, by decide⟩, by decide, by decide⟩ rfl rfl (by decide) rfl rfl rfl (Nat.le_of_ble_eq_true rfl) dX3_put_39 ?_
    refine jv_istore_n (lv' := [(0, _), (3, _)]) B dX3_put_42 (by decide) (lvi_cons rfl (lvi_cons rfl lvi_nil)) ?_
    refine jv_aload_n B dX3_put_43 rfl ?_
    refine jv_get B kX3 1 (by decide) wf_X3_15 rfl rfl dX3_put_44 ?_
    refine jv_aload_n B dX3_put_47 rfl ?_
    refine jv_get B kX3 3 (by decide) wf_X3_21 rfl rfl dX3_put_48 ?_
    refine jv_aload_n B dX3_put_51 rfl ?_
    refine jv_get B kX3 2 (by decide) wf_X3_18 rfl rfl dX3_put_52 ?_
    refine jv_iload_n B dX3_put_55 rfl ?_
    obtain ⟨g56, h⟩ := dc_if h
    refine jx_iald B rfl g56 dX3_put_56 ?_
    obtain ⟨g57, h⟩ := dc_if h
    refine jx_iast (ws' := [_, _, _, _, _, _, _, _, _, _, _, _, _]) B rfl g57 rfl dX3_put_57 ?_
    refine jv_aload_n B dX3_put_58 rfl ?_
    refine jv_get B kX3 2 (by decide) wf_X3_18 rfl rfl dX3_put_59 ?_
    refine jv_iload_n B dX3_put_62 rfl ?_
    refine jv_aload_n B dX3_put_63 rfl ?_
    refine jv_get B kX3 3 (by decide) wf_X3_21 rfl rfl dX3_put_64 ?_
    obtain ⟨g67, h⟩ := dc_if h
    refine jx_iast (ws' := [_, _, _, _, _, _, _, _, _, _, _, _, _]) B rfl g67 rfl dX3_put_67 ?_
    refine jv_aload_n B dX3_put_68 rfl ?_
    refine jv_dup B dX3_put_69 rfl ?_
    refine jv_get B kX3 3 (by decide) wf_X3_21 rfl rfl dX3_put_70 ?_
    refine jv_iconst (v := 1) B dX3_put_73 (by decide) ?_
    refine jv_iadd B dX3_put_74 ?_
    refine jv_put (fs' := [_, _, _, _]) (ws' := [_, _, _, _, _, _, _, _, _, _, _, _, _]) B kX3 3 (by decide) wf_X3_21 rfl rfl rfl rfl (Nat.le_of_ble_eq_true rfl) rfl rfl dX3_put_75 ?_
    obtain rfl := Option.some.inj h
    exact jv_vret B E ⟨rfl, rfl⟩ ⟨by decide, by decide⟩ dX3_put_78
set_option maxRecDepth 100000 in
set_option maxHeartbeats 4000000 in
theorem tX3_put_0 {G : jG} {X : jX} {ad : Nat → Nat} {r : (Nat → Int32) × (Nat → Int32) × (Nat → Int32) × (Int32)} {d_kinds : Nat → Int32} {d_starts : Nat → Int32} {d_lengths : Nat → Int32} {d_depths : Nat → Int32} {d_numbers : Nat → Int64} {d_b_cells : Nat → Int32} {d_b_size : Int32} {d_b_tooLong : Int32} {d_openKinds : Nat → Int32} {d_size : Int32} {d_depth : Int32} {d_named : Int32} (B : jB G X cX3_put 4 RX3 { frames := 2, cells := 0, slots := 0, locals := 44 }) (E : jR G X (pd ad none [ob 3 [.ref (ad 1), .ref (ad 2), .ref (ad 3), .int r.2.2.2], aI G 1024 r.1, aI G 1024 r.2.1, aI G 256 r.2.2.1, ob 0 [.ref (ad 5), .ref (ad 6), .ref (ad 7), .ref (ad 8), .ref (ad 9), .ref (ad 10), .ref (ad 12), .int d_size, .int d_depth, .int d_named], aI G 1500 d_kinds, aI G 1500 d_starts, aI G 1500 d_lengths, aI G 1500 d_depths, aL G 1500 d_numbers, ob 2 [.ref (ad 11), .int d_b_size, .int d_b_tooLong], aB G 5000 d_b_cells, aI G 30 d_openKinds]) { frames := 2, cells := 0, slots := 0, locals := 44 } none) {items : Nat → Int32} {chain : Nat → Int32} {heads : Nat → Int32} {size : Int32} {p0 : Int32} (h : bX3_put_0  items chain heads size d_starts d_lengths d_b_cells d_b_size d_size p0 = some r) : J G X 4 ad 0 0 [ob 3 [.ref (ad 1), .ref (ad 2), .ref (ad 3), .int size], aI G 1024 items, aI G 1024 chain, aI G 256 heads, ob 0 [.ref (ad 5), .ref (ad 6), .ref (ad 7), .ref (ad 8), .ref (ad 9), .ref (ad 10), .ref (ad 12), .int d_size, .int d_depth, .int d_named], aI G 1500 d_kinds, aI G 1500 d_starts, aI G 1500 d_lengths, aI G 1500 d_depths, aL G 1500 d_numbers, ob 2 [.ref (ad 11), .int d_b_size, .int d_b_tooLong], aB G 5000 d_b_cells, aI G 30 d_openKinds] [(0, .ref (ad 0)), (1, .ref (ad 4)), (2, .int p0)] 0 [] := by
  unfold bX3_put_0 at h
  refine jv_aload_n B dX3_put_0 rfl ?_
  refine jv_get B kX3 3 (by decide) wf_X3_21 rfl rfl dX3_put_1 ?_
  refine jv_sipush (v := 1024) B dX3_put_4 (by decide) ?_
  refine jv_icmp_lt (tgt := 14) B dX3_put_7 (by decide) (fun c7 => ?_) (fun c7 => ?_)
  · replace h := dc_t c7 h
    exact jv_lv (lv' := [(0, _), (1, _), (2, _)]) (lvi_cons rfl (lvi_cons rfl (lvi_cons rfl lvi_nil))) (tX3_put_14 B E  h)
  · replace h := dc_f c7 h
    refine jv_aload_n B dX3_put_10 rfl ?_
    obtain ⟨v8, hv8, h⟩ := dc_b h
    refine jv_callV (ws' := [ob 3 [.ref (ad 1), .ref (ad 2), .ref (ad 3), _], _, _, _, _, _, _, _, _, _, _, _, _]) B jyX3_clear jiX3_clear wm_X3_35 [0, 1, 2, 3] (qX3_clear _ G _ hv8) ⟨⟨by decide, by decide⟩, by decide, by decide⟩ rfl rfl rfl rfl rfl (by decide) rfl rfl rfl (Nat.le_of_ble_eq_true rfl) dX3_put_11 ?_
    exact jv_lv (lv' := [(0, _), (1, _), (2, _)]) (lvi_cons rfl (lvi_cons rfl (lvi_cons rfl lvi_nil))) (tX3_put_14 B E  h)
set_option maxRecDepth 100000 in
set_option maxHeartbeats 4000000 in
theorem qX3_put (l : Launch) (G : jG) (ad : Nat → Nat) {items : Nat → Int32} {chain : Nat → Int32} {heads : Nat → Int32} {size : Int32} {d_kinds : Nat → Int32} {d_starts : Nat → Int32} {d_lengths : Nat → Int32} {d_depths : Nat → Int32} {d_numbers : Nat → Int64} {d_b_cells : Nat → Int32} {d_b_size : Int32} {d_b_tooLong : Int32} {d_openKinds : Nat → Int32} {d_size : Int32} {d_depth : Int32} {d_named : Int32} {p0 : Int32} {r : (Nat → Int32) × (Nat → Int32) × (Nat → Int32) × (Int32)} (h : fX3_put items chain heads size d_starts d_lengths d_b_cells d_b_size d_size p0 = some r) : CT l G yX3_put cX3_put 4 none { frames := 2, cells := 0, slots := 0, locals := 44 } ad [.ref (ad 0), .ref (ad 4), .int p0] [ob 3 [.ref (ad 1), .ref (ad 2), .ref (ad 3), .int size], aI G 1024 items, aI G 1024 chain, aI G 256 heads, ob 0 [.ref (ad 5), .ref (ad 6), .ref (ad 7), .ref (ad 8), .ref (ad 9), .ref (ad 10), .ref (ad 12), .int d_size, .int d_depth, .int d_named], aI G 1500 d_kinds, aI G 1500 d_starts, aI G 1500 d_lengths, aI G 1500 d_depths, aL G 1500 d_numbers, ob 2 [.ref (ad 11), .int d_b_size, .int d_b_tooLong], aB G 5000 d_b_cells, aI G 30 d_openKinds] 0 (pd ad none [ob 3 [.ref (ad 1), .ref (ad 2), .ref (ad 3), .int r.2.2.2], aI G 1024 r.1, aI G 1024 r.2.1, aI G 256 r.2.2.1, ob 0 [.ref (ad 5), .ref (ad 6), .ref (ad 7), .ref (ad 8), .ref (ad 9), .ref (ad 10), .ref (ad 12), .int d_size, .int d_depth, .int d_named], aI G 1500 d_kinds, aI G 1500 d_starts, aI G 1500 d_lengths, aI G 1500 d_depths, aL G 1500 d_numbers, ob 2 [.ref (ad 11), .int d_b_size, .int d_b_tooLong], aB G 5000 d_b_cells, aI G 30 d_openKinds]) :=
  CT.of jyX3_put (Nat.le_of_ble_eq_true rfl) (fun X B E _ _ => tX3_put_0 B E h)
def bX3_itemAt_0  (items : Nat → Int32) (size : Int32) (p0 : Int32) : Option (Int32) :=
  (if p0 < 0 then some ((-1)) else (if size ≤ p0 then some ((-1)) else ((fX3_canBeTold p0).bind fun v2 => (if v2 = 0 then some ((-1)) else (if ix p0 1024 then some ((items (Int32.toNatClampNeg p0))) else none)))))
def fX3_itemAt (items : Nat → Int32) (size : Int32) (p0 : Int32) : Option (Int32) := bX3_itemAt_0 items size p0
set_option maxRecDepth 100000 in
set_option maxHeartbeats 4000000 in
theorem tX3_itemAt_0 {G : jG} {X : jX} {ad : Nat → Nat} {r : Int32} {items : Nat → Int32} {chain : Nat → Int32} {heads : Nat → Int32} {size : Int32} (B : jB G X cX3_itemAt 2 RX3 { frames := 1, cells := 0, slots := 0, locals := 20 }) (E : jR G X (pd ad (some (.int r)) [ob 3 [.ref (ad 1), .ref (ad 2), .ref (ad 3), .int size], aI G 1024 items, aI G 1024 chain, aI G 256 heads]) { frames := 1, cells := 0, slots := 0, locals := 20 } (some .int))  {p0 : Int32} (h : bX3_itemAt_0  items size p0 = some r) : J G X 2 ad 0 0 [ob 3 [.ref (ad 1), .ref (ad 2), .ref (ad 3), .int size], aI G 1024 items, aI G 1024 chain, aI G 256 heads] [(0, .ref (ad 0)), (1, .int p0)] 0 [] := by
  unfold bX3_itemAt_0 at h
  refine jv_iload_n B dX3_itemAt_0 rfl ?_
  refine jv_if_lt (tgt := 28) B dX3_itemAt_1 (by decide) (fun c1 => ?_) (fun c1 => ?_)
  · replace h := dc_t c1 h
    refine jv_iconst (v := (-1)) B dX3_itemAt_28 (by decide) ?_
    obtain rfl := Option.some.inj h
    exact jv_iret B E ⟨rfl, rfl⟩ ⟨by decide, by decide⟩ dX3_itemAt_29
  · replace h := dc_f c1 h
    refine jv_iload_n B dX3_itemAt_4 rfl ?_
    refine jv_aload_n B dX3_itemAt_5 rfl ?_
    refine jv_get B kX3 3 (by decide) wf_X3_21 rfl rfl dX3_itemAt_6 ?_
    refine jv_icmp_ge (tgt := 28) B dX3_itemAt_9 (by decide) (fun c9 => ?_) (fun c9 => ?_)
    · replace h := dc_t c9 h
      refine jv_iconst (v := (-1)) B dX3_itemAt_28 (by decide) ?_
      obtain rfl := Option.some.inj h
      exact jv_iret B E ⟨rfl, rfl⟩ ⟨by decide, by decide⟩ dX3_itemAt_29
    · replace h := dc_f c9 h
      refine jv_iload_n B dX3_itemAt_12 rfl ?_
      obtain ⟨v2, hv2, h⟩ := dc_b h
      refine jv_callS (ws' := [_, _, _, _]) B jyX3_canBeTold jtX3_canBeTold wm_X3_31 [] (qX3_canBeTold _ G _ hv2) ⟨⟨by decide, by decide⟩, by decide, by decide⟩ rfl rfl (by decide) rfl rfl rfl (Nat.le_of_ble_eq_true rfl) dX3_itemAt_13 ?_
      refine jv_if_eq (tgt := 28) B dX3_itemAt_16 (by decide) (fun c16 => ?_) (fun c16 => ?_)
      · replace h := dc_t c16 h
        refine jv_iconst (v := (-1)) B dX3_itemAt_28 (by decide) ?_
        obtain rfl := Option.some.inj h
        exact jv_iret B E ⟨rfl, rfl⟩ ⟨by decide, by decide⟩ dX3_itemAt_29
      · replace h := dc_f c16 h
        refine jv_aload_n B dX3_itemAt_19 rfl ?_
        refine jv_get B kX3 0 (by decide) wf_X3_9 rfl rfl dX3_itemAt_20 ?_
        refine jv_iload_n B dX3_itemAt_23 rfl ?_
        obtain ⟨g24, h⟩ := dc_if h
        refine jx_iald B rfl g24 dX3_itemAt_24 ?_
        refine jv_goto (tgt := 29) B dX3_itemAt_25 (by decide) ?_
        obtain rfl := Option.some.inj h
        exact jv_iret B E ⟨rfl, rfl⟩ ⟨by decide, by decide⟩ dX3_itemAt_29
set_option maxRecDepth 100000 in
set_option maxHeartbeats 4000000 in
theorem qX3_itemAt (l : Launch) (G : jG) (ad : Nat → Nat) {items : Nat → Int32} {chain : Nat → Int32} {heads : Nat → Int32} {size : Int32} {p0 : Int32} {r : Int32} (h : fX3_itemAt items size p0 = some r) : CT l G yX3_itemAt cX3_itemAt 2 (some .int) { frames := 1, cells := 0, slots := 0, locals := 20 } ad [.ref (ad 0), .int p0] [ob 3 [.ref (ad 1), .ref (ad 2), .ref (ad 3), .int size], aI G 1024 items, aI G 1024 chain, aI G 256 heads] 0 (pd ad (some (.int r)) [ob 3 [.ref (ad 1), .ref (ad 2), .ref (ad 3), .int size], aI G 1024 items, aI G 1024 chain, aI G 256 heads]) :=
  CT.of jyX3_itemAt (Nat.le_of_ble_eq_true rfl) (fun X B E _ _ => tX3_itemAt_0 B E h)
