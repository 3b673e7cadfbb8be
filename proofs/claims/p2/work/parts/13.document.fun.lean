def bX0_innermost_0  (openKinds : Nat → Int32) (depth : Int32)  : Option (Int32) :=
  (if depth ≤ 0 then some ((-1)) else (if 30 < depth then some ((-1)) else (if ix (depth - 1) 30 then some ((openKinds (Int32.toNatClampNeg (depth - 1)))) else none)))
def fX0_innermost (openKinds : Nat → Int32) (depth : Int32)  : Option (Int32) := bX0_innermost_0 openKinds depth
set_option maxRecDepth 100000 in
set_option maxHeartbeats 4000000 in
theorem tX0_innermost_0 {G : jG} {X : jX} {ad : Nat → Nat} {r : Int32} {kinds : Nat → Int32} {starts : Nat → Int32} {lengths : Nat → Int32} {depths : Nat → Int32} {numbers : Nat → Int64} {b_cells : Nat → Int32} {b_size : Int32} {b_tooLong : Int32} {openKinds : Nat → Int32} {size : Int32} {depth : Int32} {named : Int32} (B : jB G X cX0_innermost 1 RX0 { frames := 0, cells := 0, slots := 0, locals := 0 }) (E : jR G X (pd ad (some (.int r)) [ob 0 [.ref (ad 1), .ref (ad 2), .ref (ad 3), .ref (ad 4), .ref (ad 5), .ref (ad 6), .ref (ad 8), .int size, .int depth, .int named], aI G 1500 kinds, aI G 1500 starts, aI G 1500 lengths, aI G 1500 depths, aL G 1500 numbers, ob 2 [.ref (ad 7), .int b_size, .int b_tooLong], aB G 5000 b_cells, aI G 30 openKinds]) { frames := 0, cells := 0, slots := 0, locals := 0 } (some .int))   (h : bX0_innermost_0  openKinds depth = some r) : J G X 1 ad 0 0 [ob 0 [.ref (ad 1), .ref (ad 2), .ref (ad 3), .ref (ad 4), .ref (ad 5), .ref (ad 6), .ref (ad 8), .int size, .int depth, .int named], aI G 1500 kinds, aI G 1500 starts, aI G 1500 lengths, aI G 1500 depths, aL G 1500 numbers, ob 2 [.ref (ad 7), .int b_size, .int b_tooLong], aB G 5000 b_cells, aI G 30 openKinds] [(0, .ref (ad 0))] 0 [] := by
  unfold bX0_innermost_0 at h
  refine jv_aload_n B dX0_innermost_0 rfl ?_
  refine jv_get B kX0 8 (by decide) wf_X0_47 rfl rfl dX0_innermost_1 ?_
  refine jv_if_le (tgt := 30) B dX0_innermost_4 (by decide) (fun c4 => ?_) (fun c4 => ?_)
  · replace h := dc_t c4 h
    refine jv_iconst (v := (-1)) B dX0_innermost_30 (by decide) ?_
    obtain rfl := Option.some.inj h
    exact jv_iret B E ⟨rfl, rfl⟩ ⟨by decide, by decide⟩ dX0_innermost_31
  · replace h := dc_f c4 h
    refine jv_aload_n B dX0_innermost_7 rfl ?_
    refine jv_get B kX0 8 (by decide) wf_X0_47 rfl rfl dX0_innermost_8 ?_
    refine jv_bipush (v := 30) B dX0_innermost_11 (by decide) ?_
    refine jv_icmp_gt (tgt := 30) B dX0_innermost_13 (by decide) (fun c13 => ?_) (fun c13 => ?_)
    · replace h := dc_t c13 h
      refine jv_iconst (v := (-1)) B dX0_innermost_30 (by decide) ?_
      obtain rfl := Option.some.inj h
      exact jv_iret B E ⟨rfl, rfl⟩ ⟨by decide, by decide⟩ dX0_innermost_31
    · replace h := dc_f c13 h
      refine jv_aload_n B dX0_innermost_16 rfl ?_
      refine jv_get B kX0 6 (by decide) wf_X0_37 rfl rfl dX0_innermost_17 ?_
      refine jv_aload_n B dX0_innermost_20 rfl ?_
      refine jv_get B kX0 8 (by decide) wf_X0_47 rfl rfl dX0_innermost_21 ?_
      refine jv_iconst (v := 1) B dX0_innermost_24 (by decide) ?_
      refine jv_isub B dX0_innermost_25 ?_
      obtain ⟨g26, h⟩ := dc_if h
      refine jx_iald B rfl g26 dX0_innermost_26 ?_
      refine jv_goto (tgt := 31) B dX0_innermost_27 (by decide) ?_
      obtain rfl := Option.some.inj h
      exact jv_iret B E ⟨rfl, rfl⟩ ⟨by decide, by decide⟩ dX0_innermost_31
set_option maxRecDepth 100000 in
set_option maxHeartbeats 4000000 in
theorem qX0_innermost (l : Launch) (G : jG) (ad : Nat → Nat) {kinds : Nat → Int32} {starts : Nat → Int32} {lengths : Nat → Int32} {depths : Nat → Int32} {numbers : Nat → Int64} {b_cells : Nat → Int32} {b_size : Int32} {b_tooLong : Int32} {openKinds : Nat → Int32} {size : Int32} {depth : Int32} {named : Int32}  {r : Int32} (h : fX0_innermost openKinds depth = some r) : CT l G yX0_innermost cX0_innermost 1 (some .int) { frames := 0, cells := 0, slots := 0, locals := 0 } ad [.ref (ad 0)] [ob 0 [.ref (ad 1), .ref (ad 2), .ref (ad 3), .ref (ad 4), .ref (ad 5), .ref (ad 6), .ref (ad 8), .int size, .int depth, .int named], aI G 1500 kinds, aI G 1500 starts, aI G 1500 lengths, aI G 1500 depths, aL G 1500 numbers, ob 2 [.ref (ad 7), .int b_size, .int b_tooLong], aB G 5000 b_cells, aI G 30 openKinds] 0 (pd ad (some (.int r)) [ob 0 [.ref (ad 1), .ref (ad 2), .ref (ad 3), .ref (ad 4), .ref (ad 5), .ref (ad 6), .ref (ad 8), .int size, .int depth, .int named], aI G 1500 kinds, aI G 1500 starts, aI G 1500 lengths, aI G 1500 depths, aL G 1500 numbers, ob 2 [.ref (ad 7), .int b_size, .int b_tooLong], aB G 5000 b_cells, aI G 30 openKinds]) :=
  CT.of jyX0_innermost (Nat.le_of_ble_eq_true rfl) (fun X B E _ _ => tX0_innermost_0 B E h)
def bX0_isWhole_0  (size : Int32) (depth : Int32)  : Option (Int32) :=
  (if size ≤ 0 then some (0) else (if depth = 0 then some (1) else some (0)))
def fX0_isWhole (size : Int32) (depth : Int32)  : Option (Int32) := bX0_isWhole_0 size depth
set_option maxRecDepth 100000 in
set_option maxHeartbeats 4000000 in
theorem tX0_isWhole_0 {G : jG} {X : jX} {ad : Nat → Nat} {r : Int32} {kinds : Nat → Int32} {starts : Nat → Int32} {lengths : Nat → Int32} {depths : Nat → Int32} {numbers : Nat → Int64} {b_cells : Nat → Int32} {b_size : Int32} {b_tooLong : Int32} {openKinds : Nat → Int32} {size : Int32} {depth : Int32} {named : Int32} (B : jB G X cX0_isWhole 1 RX0 { frames := 0, cells := 0, slots := 0, locals := 0 }) (E : jR G X (pd ad (some (.int r)) [ob 0 [.ref (ad 1), .ref (ad 2), .ref (ad 3), .ref (ad 4), .ref (ad 5), .ref (ad 6), .ref (ad 8), .int size, .int depth, .int named], aI G 1500 kinds, aI G 1500 starts, aI G 1500 lengths, aI G 1500 depths, aL G 1500 numbers, ob 2 [.ref (ad 7), .int b_size, .int b_tooLong], aB G 5000 b_cells, aI G 30 openKinds]) { frames := 0, cells := 0, slots := 0, locals := 0 } (some .boolean))   (h : bX0_isWhole_0  size depth = some r) : J G X 1 ad 0 0 [ob 0 [.ref (ad 1), .ref (ad 2), .ref (ad 3), .ref (ad 4), .ref (ad 5), .ref (ad 6), .ref (ad 8), .int size, .int depth, .int named], aI G 1500 kinds, aI G 1500 starts, aI G 1500 lengths, aI G 1500 depths, aL G 1500 numbers, ob 2 [.ref (ad 7), .int b_size, .int b_tooLong], aB G 5000 b_cells, aI G 30 openKinds] [(0, .ref (ad 0))] 0 [] := by
  unfold bX0_isWhole_0 at h
  refine jv_aload_n B dX0_isWhole_0 rfl ?_
  refine jv_get B kX0 7 (by decide) wf_X0_40 rfl rfl dX0_isWhole_1 ?_
  refine jv_if_le (tgt := 18) B dX0_isWhole_4 (by decide) (fun c4 => ?_) (fun c4 => ?_)
  · replace h := dc_t c4 h
    refine jv_iconst (v := 0) B dX0_isWhole_18 (by decide) ?_
    obtain rfl := Option.some.inj h
    exact jv_zret B E (Or.inl rfl) ⟨rfl, rfl⟩ ⟨by decide, by decide⟩ dX0_isWhole_19
  · replace h := dc_f c4 h
    refine jv_aload_n B dX0_isWhole_7 rfl ?_
    refine jv_get B kX0 8 (by decide) wf_X0_47 rfl rfl dX0_isWhole_8 ?_
    refine jv_if_ne (tgt := 18) B dX0_isWhole_11 (by decide) (fun c11 => ?_) (fun c11 => ?_)
    · replace h := dc_f c11 h
      refine jv_iconst (v := 0) B dX0_isWhole_18 (by decide) ?_
      obtain rfl := Option.some.inj h
      exact jv_zret B E (Or.inl rfl) ⟨rfl, rfl⟩ ⟨by decide, by decide⟩ dX0_isWhole_19
    · replace h := dc_t c11 h
      refine jv_iconst (v := 1) B dX0_isWhole_14 (by decide) ?_
      refine jv_goto (tgt := 19) B dX0_isWhole_15 (by decide) ?_
      obtain rfl := Option.some.inj h
      exact jv_zret B E (Or.inr rfl) ⟨rfl, rfl⟩ ⟨by decide, by decide⟩ dX0_isWhole_19
set_option maxRecDepth 100000 in
set_option maxHeartbeats 4000000 in
theorem qX0_isWhole (l : Launch) (G : jG) (ad : Nat → Nat) {kinds : Nat → Int32} {starts : Nat → Int32} {lengths : Nat → Int32} {depths : Nat → Int32} {numbers : Nat → Int64} {b_cells : Nat → Int32} {b_size : Int32} {b_tooLong : Int32} {openKinds : Nat → Int32} {size : Int32} {depth : Int32} {named : Int32}  {r : Int32} (h : fX0_isWhole size depth = some r) : CT l G yX0_isWhole cX0_isWhole 1 (some .boolean) { frames := 0, cells := 0, slots := 0, locals := 0 } ad [.ref (ad 0)] [ob 0 [.ref (ad 1), .ref (ad 2), .ref (ad 3), .ref (ad 4), .ref (ad 5), .ref (ad 6), .ref (ad 8), .int size, .int depth, .int named], aI G 1500 kinds, aI G 1500 starts, aI G 1500 lengths, aI G 1500 depths, aL G 1500 numbers, ob 2 [.ref (ad 7), .int b_size, .int b_tooLong], aB G 5000 b_cells, aI G 30 openKinds] 0 (pd ad (some (.int r)) [ob 0 [.ref (ad 1), .ref (ad 2), .ref (ad 3), .ref (ad 4), .ref (ad 5), .ref (ad 6), .ref (ad 8), .int size, .int depth, .int named], aI G 1500 kinds, aI G 1500 starts, aI G 1500 lengths, aI G 1500 depths, aL G 1500 numbers, ob 2 [.ref (ad 7), .int b_size, .int b_tooLong], aB G 5000 b_cells, aI G 30 openKinds]) :=
  CT.of jyX0_isWhole (Nat.le_of_ble_eq_true rfl) (fun X B E _ _ => tX0_isWhole_0 B E h)
def bX0_accepts_21  (openKinds : Nat → Int32) (size : Int32) (depth : Int32) (named : Int32) (x1 : Int32) (s0 : Int32) : Option (Int32) :=
  (if x1 = 10 then (if s0 = 0 ∨ s0 = 1 then some (s0) else none) else (if x1 = 11 then (if depth ≤ 0 then some (0) else (if named = 0 then some (1) else some (0))) else ((fX0_isWhole size depth).bind fun v3 => (if v3 = 0 then (if s0 = 0 then some (1) else some (0)) else some (0)))))
def bX0_accepts_20  (openKinds : Nat → Int32) (size : Int32) (depth : Int32) (named : Int32) (x1 : Int32) : Option (Int32) :=
  bX0_accepts_21  openKinds size depth named x1 0
def bX0_accepts_0  (openKinds : Nat → Int32) (size : Int32) (depth : Int32) (named : Int32) (p0 : Int32) : Option (Int32) :=
  ((fX0_innermost openKinds depth).bind fun v4 => (if v4 = 6 then (if named = 0 then bX0_accepts_21  openKinds size depth named p0 1 else bX0_accepts_20  openKinds size depth named p0) else bX0_accepts_20  openKinds size depth named p0))
def fX0_accepts (openKinds : Nat → Int32) (size : Int32) (depth : Int32) (named : Int32) (p0 : Int32) : Option (Int32) := bX0_accepts_0 openKinds size depth named p0
set_option maxRecDepth 100000 in
set_option maxHeartbeats 4000000 in
theorem tX0_accepts_21 {G : jG} {X : jX} {ad : Nat → Nat} {r : Int32} {kinds : Nat → Int32} {starts : Nat → Int32} {lengths : Nat → Int32} {depths : Nat → Int32} {numbers : Nat → Int64} {b_cells : Nat → Int32} {b_size : Int32} {b_tooLong : Int32} {openKinds : Nat → Int32} {size : Int32} {depth : Int32} {named : Int32} (B : jB G X cX0_accepts 3 RX0 { frames := 1, cells := 0, slots := 0, locals := 20 }) (E : jR G X (pd ad (some (.int r)) [ob 0 [.ref (ad 1), .ref (ad 2), .ref (ad 3), .ref (ad 4), .ref (ad 5), .ref (ad 6), .ref (ad 8), .int size, .int depth, .int named], aI G 1500 kinds, aI G 1500 starts, aI G 1500 lengths, aI G 1500 depths, aL G 1500 numbers, ob 2 [.ref (ad 7), .int b_size, .int b_tooLong], aB G 5000 b_cells, aI G 30 openKinds]) { frames := 1, cells := 0, slots := 0, locals := 20 } (some .boolean))  {x1 : Int32} {s0 : Int32} (h : bX0_accepts_21  openKinds size depth named x1 s0 = some r) : J G X 3 ad 0 0 [ob 0 [.ref (ad 1), .ref (ad 2), .ref (ad 3), .ref (ad 4), .ref (ad 5), .ref (ad 6), .ref (ad 8), .int size, .int depth, .int named], aI G 1500 kinds, aI G 1500 starts, aI G 1500 lengths, aI G 1500 depths, aL G 1500 numbers, ob 2 [.ref (ad 7), .int b_size, .int b_tooLong], aB G 5000 b_cells, aI G 30 openKinds] [(0, .ref (ad 0)), (1, .int x1)] 21 [.int s0] := by
  unfold bX0_accepts_21 at h
  refine jv_istore_n (lv' := [(0, _), (1, _), (2, _)]) B dX0_accepts_21 (by decide) (lvi_cons rfl (lvi_cons rfl (lvi_cons rfl lvi_nil))) ?_
  refine jv_iload_n B dX0_accepts_22 rfl ?_
  refine jv_bipush (v := 10) B dX0_accepts_23 (by decide) ?_
  refine jv_icmp_ne (tgt := 30) B dX0_accepts_25 (by decide) (fun c25 => ?_) (fun c25 => ?_)
  · replace h := dc_f c25 h
    refine jv_iload_n B dX0_accepts_30 rfl ?_
    refine jv_bipush (v := 11) B dX0_accepts_31 (by decide) ?_
    refine jv_icmp_ne (tgt := 56) B dX0_accepts_33 (by decide) (fun c33 => ?_) (fun c33 => ?_)
    · replace h := dc_f c33 h
      refine jv_aload_n B dX0_accepts_56 rfl ?_
      obtain ⟨v3, hv3, h⟩ := dc_b h
      refine jv_callV0 B jyX0_isWhole jiX0_isWhole wm_X0_60 (qX0_isWhole _ G _ hv3) ⟨⟨by decide, by decide⟩, by decide, by decide⟩ rfl rfl rfl rfl rfl (Nat.le_of_ble_eq_true rfl) dX0_accepts_57 ?_
      refine jv_if_ne (tgt := 71) B dX0_accepts_60 (by decide) (fun c60 => ?_) (fun c60 => ?_)
      · replace h := dc_f c60 h
        refine jv_iconst (v := 0) B dX0_accepts_71 (by decide) ?_
        obtain rfl := Option.some.inj h
        exact jv_zret B E (Or.inl rfl) ⟨rfl, rfl⟩ ⟨by decide, by decide⟩ dX0_accepts_72
      · replace h := dc_t c60 h
        refine jv_iload_n B dX0_accepts_63 rfl ?_
        refine jv_if_ne (tgt := 71) B dX0_accepts_64 (by decide) (fun c64 => ?_) (fun c64 => ?_)
        · replace h := dc_f c64 h
          refine jv_iconst (v := 0) B dX0_accepts_71 (by decide) ?_
          obtain rfl := Option.some.inj h
          exact jv_zret B E (Or.inl rfl) ⟨rfl, rfl⟩ ⟨by decide, by decide⟩ dX0_accepts_72
        · replace h := dc_t c64 h
          refine jv_iconst (v := 1) B dX0_accepts_67 (by decide) ?_
          refine jv_goto (tgt := 72) B dX0_accepts_68 (by decide) ?_
          obtain rfl := Option.some.inj h
          exact jv_zret B E (Or.inr rfl) ⟨rfl, rfl⟩ ⟨by decide, by decide⟩ dX0_accepts_72
    · replace h := dc_t c33 h
      refine jv_aload_n B dX0_accepts_36 rfl ?_
      refine jv_get B kX0 8 (by decide) wf_X0_47 rfl rfl dX0_accepts_37 ?_
      refine jv_if_le (tgt := 54) B dX0_accepts_40 (by decide) (fun c40 => ?_) (fun c40 => ?_)
      · replace h := dc_t c40 h
        refine jv_iconst (v := 0) B dX0_accepts_54 (by decide) ?_
        obtain rfl := Option.some.inj h
        exact jv_zret B E (Or.inl rfl) ⟨rfl, rfl⟩ ⟨by decide, by decide⟩ dX0_accepts_55
      · replace h := dc_f c40 h
        refine jv_aload_n B dX0_accepts_43 rfl ?_
        refine jv_get B kX0 9 (by decide) wf_X0_50 rfl rfl dX0_accepts_44 ?_
        refine jv_if_ne (tgt := 54) B dX0_accepts_47 (by decide) (fun c47 => ?_) (fun c47 => ?_)
        · replace h := dc_f c47 h
          refine jv_iconst (v := 0) B dX0_accepts_54 (by decide) ?_
          obtain rfl := Option.some.inj h
          exact jv_zret B E (Or.inl rfl) ⟨rfl, rfl⟩ ⟨by decide, by decide⟩ dX0_accepts_55
        · replace h := dc_t c47 h
          refine jv_iconst (v := 1) B dX0_accepts_50 (by decide) ?_
          refine jv_goto (tgt := 55) B dX0_accepts_51 (by decide) ?_
          obtain rfl := Option.some.inj h
          exact jv_zret B E (Or.inr rfl) ⟨rfl, rfl⟩ ⟨by decide, by decide⟩ dX0_accepts_55
  · replace h := dc_t c25 h
    refine jv_iload_n B dX0_accepts_28 rfl ?_
    obtain ⟨g29, h⟩ := dc_if h
    obtain rfl := Option.some.inj h
    exact jv_zret B E g29 ⟨rfl, rfl⟩ ⟨by decide, by decide⟩ dX0_accepts_29
set_option maxRecDepth 100000 in
set_option maxHeartbeats 4000000 in
theorem tX0_accepts_20 {G : jG} {X : jX} {ad : Nat → Nat} {r : Int32} {kinds : Nat → Int32} {starts : Nat → Int32} {lengths : Nat → Int32} {depths : Nat → Int32} {numbers : Nat → Int64} {b_cells : Nat → Int32} {b_size : Int32} {b_tooLong : Int32} {openKinds : Nat → Int32} {size : Int32} {depth : Int32} {named : Int32} (B : jB G X cX0_accepts 3 RX0 { frames := 1, cells := 0, slots := 0, locals := 20 }) (E : jR G X (pd ad (some (.int r)) [ob 0 [.ref (ad 1), .ref (ad 2), .ref (ad 3), .ref (ad 4), .ref (ad 5), .ref (ad 6), .ref (ad 8), .int size, .int depth, .int named], aI G 1500 kinds, aI G 1500 starts, aI G 1500 lengths, aI G 1500 depths, aL G 1500 numbers, ob 2 [.ref (ad 7), .int b_size, .int b_tooLong], aB G 5000 b_cells, aI G 30 openKinds]) { frames := 1, cells := 0, slots := 0, locals := 20 } (some .boolean))  {x1 : Int32} (h : bX0_accepts_20  openKinds size depth named x1 = some r) : J G X 3 ad 0 0 [ob 0 [.ref (ad 1), .ref (ad 2), .ref (ad 3), .ref (ad 4), .ref (ad 5), .ref (ad 6), .ref (ad 8), .int size, .int depth, .int named], aI G 1500 kinds, aI G 1500 starts, aI G 1500 lengths, aI G 1500 depths, aL G 1500 numbers, ob 2 [.ref (ad 7), .int b_size, .int b_tooLong], aB G 5000 b_cells, aI G 30 openKinds] [(0, .ref (ad 0)), (1, .int x1)] 20 [] := by
  unfold bX0_accepts_20 at h
  refine jv_iconst (v := 0) B dX0_accepts_20 (by decide) ?_
  exact jv_lv (lv' := [(0, _), (1, _)]) (lvi_cons rfl (lvi_cons rfl lvi_nil)) (tX0_accepts_21 B E  h)
set_option maxRecDepth 100000 in
set_option maxHeartbeats 4000000 in
theorem tX0_accepts_0 {G : jG} {X : jX} {ad : Nat → Nat} {r : Int32} {kinds : Nat → Int32} {starts : Nat → Int32} {lengths : Nat → Int32} {depths : Nat → Int32} {numbers : Nat → Int64} {b_cells : Nat → Int32} {b_size : Int32} {b_tooLong : Int32} {openKinds : Nat → Int32} {size : Int32} {depth : Int32} {named : Int32} (B : jB G X cX0_accepts 3 RX0 { frames := 1, cells := 0, slots := 0, locals := 20 }) (E : jR G X (pd ad (some (.int r)) [ob 0 [.ref (ad 1), .ref (ad 2), .ref (ad 3), .ref (ad 4), .ref (ad 5), .ref (ad 6), .ref (ad 8), .int size, .int depth, .int named], aI G 1500 kinds, aI G 1500 starts, aI G 1500 lengths, aI G 1500 depths, aL G 1500 numbers, ob 2 [.ref (ad 7), .int b_size, .int b_tooLong], aB G 5000 b_cells, aI G 30 openKinds]) { frames := 1, cells := 0, slots := 0, locals := 20 } (some .boolean))  {p0 : Int32} (h : bX0_accepts_0  openKinds size depth named p0 = some r) : J G X 3 ad 0 0 [ob 0 [.ref (ad 1), .ref (ad 2), .ref (ad 3), .ref (ad 4), .ref (ad 5), .ref (ad 6), .ref (ad 8), .int size, .int depth, .int named], aI G 1500 kinds, aI G 1500 starts, aI G 1500 lengths, aI G 1500 depths, aL G 1500 numbers, ob 2 [.ref (ad 7), .int b_size, .int b_tooLong], aB G 5000 b_cells, aI G 30 openKinds] [(0, .ref (ad 0)), (1, .int p0)] 0 [] := by
  unfold bX0_accepts_0 at h
  refine jv_aload_n B dX0_accepts_0 rfl ?_
  obtain ⟨v4, hv4, h⟩ := dc_b h
  refine jv_callV0 B jyX0_innermost jiX0_innermost wm_X0_57 (qX0_innermost _ G _ hv4) ⟨⟨by decide, by decide⟩, by decide, by decide⟩ rfl rfl rfl rfl rfl (Nat.le_of_ble_eq_true rfl) dX0_accepts_1 ?_
  refine jv_bipush (v := 6) B dX0_accepts_4 (by decide) ?_
  refine jv_icmp_ne (tgt := 20) B dX0_accepts_6 (by decide) (fun c6 => ?_) (fun c6 => ?_)
  · replace h := dc_f c6 h
    exact jv_lv (lv' := [(0, _), (1, _)]) (lvi_cons rfl (lvi_cons rfl lvi_nil)) (tX0_accepts_20 B E  h)
  · replace h := dc_t c6 h
    refine jv_aload_n B dX0_accepts_9 rfl ?_
    refine jv_get B kX0 9 (by decide) wf_X0_50 rfl rfl dX0_accepts_10 ?_
    refine jv_if_ne (tgt := 20) B dX0_accepts_13 (by decide) (fun c13 => ?_) (fun c13 => ?_)
    · replace h := dc_f c13 h
      exact jv_lv (lv' := [(0, _), (1, _)]) (lvi_cons rfl (lvi_cons rfl lvi_nil)) (tX0_accepts_20 B E  h)
    · replace h := dc_t c13 h
      refine jv_iconst (v := 1) B dX0_accepts_16 (by decide) ?_
      refine jv_goto (tgt := 21) B dX0_accepts_17 (by decide) ?_
      exact jv_lv (lv' := [(0, _), (1, _)]) (lvi_cons rfl (lvi_cons rfl lvi_nil)) (tX0_accepts_21 B E  h)
set_option maxRecDepth 100000 in
set_option maxHeartbeats 4000000 in
theorem qX0_accepts (l : Launch) (G : jG) (ad : Nat → Nat) {kinds : Nat → Int32} {starts : Nat → Int32} {lengths : Nat → Int32} {depths : Nat → Int32} {numbers : Nat → Int64} {b_cells : Nat → Int32} {b_size : Int32} {b_tooLong : Int32} {openKinds : Nat → Int32} {size : Int32} {depth : Int32} {named : Int32} {p0 : Int32} {r : Int32} (h : fX0_accepts openKinds size depth named p0 = some r) : CT l G yX0_accepts cX0_accepts 3 (some .boolean) { frames := 1, cells := 0, slots := 0, locals := 20 } ad [.ref (ad 0), .int p0] [ob 0 [.ref (ad 1), .ref (ad 2), .ref (ad 3), .ref (ad 4), .ref (ad 5), .ref (ad 6), .ref (ad 8), .int size, .int depth, .int named], aI G 1500 kinds, aI G 1500 starts, aI G 1500 lengths, aI G 1500 depths, aL G 1500 numbers, ob 2 [.ref (ad 7), .int b_size, .int b_tooLong], aB G 5000 b_cells, aI G 30 openKinds] 0 (pd ad (some (.int r)) [ob 0 [.ref (ad 1), .ref (ad 2), .ref (ad 3), .ref (ad 4), .ref (ad 5), .ref (ad 6), .ref (ad 8), .int size, .int depth, .int named], aI G 1500 kinds, aI G 1500 starts, aI G 1500 lengths, aI G 1500 depths, aL G 1500 numbers, ob 2 [.ref (ad 7), .int b_size, .int b_tooLong], aB G 5000 b_cells, aI G 30 openKinds]) :=
  CT.of jyX0_accepts (Nat.le_of_ble_eq_true rfl) (fun X B E _ _ => tX0_accepts_0 B E h)
def bX0_isContainer_0   (p0 : Int32) : Option (Int32) :=
  (if p0 = 5 then some (1) else (if p0 = 6 then some (1) else some (0)))
def fX0_isContainer  (p0 : Int32) : Option (Int32) := bX0_isContainer_0 p0
set_option maxRecDepth 100000 in
set_option maxHeartbeats 4000000 in
theorem tX0_isContainer_0 {G : jG} {X : jX} {ad : Nat → Nat} {r : Int32}  (B : jB G X cX0_isContainer 1 RX0 { frames := 0, cells := 0, slots := 0, locals := 0 }) (E : jR G X (pd ad (some (.int r)) []) { frames := 0, cells := 0, slots := 0, locals := 0 } (some .boolean))  {p0 : Int32} (h : bX0_isContainer_0  p0 = some r) : J G X 1 ad 0 0 [] [(0, .int p0)] 0 [] := by
  unfold bX0_isContainer_0 at h
  refine jv_iload_n B dX0_isContainer_0 rfl ?_
  refine jv_iconst (v := 5) B dX0_isContainer_1 (by decide) ?_
  refine jv_icmp_eq (tgt := 11) B dX0_isContainer_2 (by decide) (fun c2 => ?_) (fun c2 => ?_)
  · replace h := dc_t c2 h
    refine jv_iconst (v := 1) B dX0_isContainer_11 (by decide) ?_
    refine jv_goto (tgt := 16) B dX0_isContainer_12 (by decide) ?_
    obtain rfl := Option.some.inj h
    exact jv_zret B E (Or.inr rfl) ⟨rfl, rfl⟩ ⟨by decide, by decide⟩ dX0_isContainer_16
  · replace h := dc_f c2 h
    refine jv_iload_n B dX0_isContainer_5 rfl ?_
    refine jv_bipush (v := 6) B dX0_isContainer_6 (by decide) ?_
    refine jv_icmp_ne (tgt := 15) B dX0_isContainer_8 (by decide) (fun c8 => ?_) (fun c8 => ?_)
    · replace h := dc_f c8 h
      refine jv_iconst (v := 0) B dX0_isContainer_15 (by decide) ?_
      obtain rfl := Option.some.inj h
      exact jv_zret B E (Or.inl rfl) ⟨rfl, rfl⟩ ⟨by decide, by decide⟩ dX0_isContainer_16
    · replace h := dc_t c8 h
      refine jv_iconst (v := 1) B dX0_isContainer_11 (by decide) ?_
      refine jv_goto (tgt := 16) B dX0_isContainer_12 (by decide) ?_
      obtain rfl := Option.some.inj h
      exact jv_zret B E (Or.inr rfl) ⟨rfl, rfl⟩ ⟨by decide, by decide⟩ dX0_isContainer_16
set_option maxRecDepth 100000 in
set_option maxHeartbeats 4000000 in
theorem qX0_isContainer (l : Launch) (G : jG) (ad : Nat → Nat)  {p0 : Int32} {r : Int32} (h : fX0_isContainer p0 = some r) : CT l G yX0_isContainer cX0_isContainer 1 (some .boolean) { frames := 0, cells := 0, slots := 0, locals := 0 } ad [.int p0] [] 0 (pd ad (some (.int r)) []) :=
  CT.of jyX0_isContainer (Nat.le_of_ble_eq_true rfl) (fun X B E _ _ => tX0_isContainer_0 B E h)
def bX0_hasRoom_0  (b_size : Int32) (size : Int32) (depth : Int32) (p0 : Int32) (p1 : Int32) : Option (Int32) :=
  (if 1500 ≤ size then some (0) else ((fX2_size b_size).bind fun v3 => (if p1 ≤ (5000 - v3) then ((fX0_isContainer p0).bind fun v4 => (if v4 = 0 then some (1) else (if 30 ≤ depth then some (0) else some (1)))) else some (0))))
def fX0_hasRoom (b_size : Int32) (size : Int32) (depth : Int32) (p0 : Int32) (p1 : Int32) : Option (Int32) := bX0_hasRoom_0 b_size size depth p0 p1
set_option maxRecDepth 100000 in
set_option maxHeartbeats 4000000 in
theorem tX0_hasRoom_0 {G : jG} {X : jX} {ad : Nat → Nat} {r : Int32} {kinds : Nat → Int32} {starts : Nat → Int32} {lengths : Nat → Int32} {depths : Nat → Int32} {numbers : Nat → Int64} {b_cells : Nat → Int32} {b_size : Int32} {b_tooLong : Int32} {openKinds : Nat → Int32} {size : Int32} {depth : Int32} {named : Int32} (B : jB G X cX0_hasRoom 3 RX0 { frames := 1, cells := 0, slots := 0, locals := 20 }) (E : jR G X (pd ad (some (.int r)) [ob 0 [.ref (ad 1), .ref (ad 2), .ref (ad 3), .ref (ad 4), .ref (ad 5), .ref (ad 6), .ref (ad 8), .int size, .int depth, .int named], aI G 1500 kinds, aI G 1500 starts, aI G 1500 lengths, aI G 1500 depths, aL G 1500 numbers, ob 2 [.ref (ad 7), .int b_size, .int b_tooLong], aB G 5000 b_cells, aI G 30 openKinds]) { frames := 1, cells := 0, slots := 0, locals := 20 } (some .boolean))  {p0 : Int32} {p1 : Int32} (h : bX0_hasRoom_0  b_size size depth p0 p1 = some r) : J G X 3 ad 0 0 [ob 0 [.ref (ad 1), .ref (ad 2), .ref (ad 3), .ref (ad 4), .ref (ad 5), .ref (ad 6), .ref (ad 8), .int size, .int depth, .int named], aI G 1500 kinds, aI G 1500 starts, aI G 1500 lengths, aI G 1500 depths, aL G 1500 numbers, ob 2 [.ref (ad 7), .int b_size, .int b_tooLong], aB G 5000 b_cells, aI G 30 openKinds] [(0, .ref (ad 0)), (1, .int p0), (2, .int p1)] 0 [] := by
  unfold bX0_hasRoom_0 at h
  refine jv_aload_n B dX0_hasRoom_0 rfl ?_
  refine jv_get B kX0 7 (by decide) wf_X0_40 rfl rfl dX0_hasRoom_1 ?_
  refine jv_sipush (v := 1500) B dX0_hasRoom_4 (by decide) ?_
  refine jv_icmp_ge (tgt := 25) B dX0_hasRoom_7 (by decide) (fun c7 => ?_) (fun c7 => ?_)
  · replace h := dc_t c7 h
    refine jv_iconst (v := 0) B dX0_hasRoom_25 (by decide) ?_
    obtain rfl := Option.some.inj h
    exact jv_zret B E (Or.inl rfl) ⟨rfl, rfl⟩ ⟨by decide, by decide⟩ dX0_hasRoom_26
  · replace h := dc_f c7 h
    refine jv_iload_n B dX0_hasRoom_10 rfl ?_
    refine jv_sipush (v := 5000) B dX0_hasRoom_11 (by decide) ?_
    refine jv_aload_n B dX0_hasRoom_14 rfl ?_
    refine jv_get B kX0 5 (by decide) wf_X0_33 rfl rfl dX0_hasRoom_15 ?_
    obtain ⟨v3, hv3, h⟩ := dc_b h
    refine jv_callV (ws' := [_, _, _, _, _, _, ob 2 [.ref (ad 7), _, _], _, _]) B jyX2_size jiX2_size wm_X0_44 [6, 7] (qX2_size _ G _ hv3) ⟨⟨by decide, by decide⟩, by decide, by decide⟩ rfl rfl rfl rfl rfl (by decide) rfl rfl rfl (Nat.le_of_ble_eq_true rfl) dX0_hasRoom_18 ?_
    refine jv_isub B dX0_hasRoom_21 ?_
    refine jv_icmp_le (tgt := 27) B dX0_hasRoom_22 (by decide) (fun c22 => ?_) (fun c22 => ?_)
    · replace h := dc_t c22 h
      refine jv_iload_n B dX0_hasRoom_27 rfl ?_
      obtain ⟨v4, hv4, h⟩ := dc_b h
      refine jv_callS (ws' := [_, _, _, _, _, _, _, _, _]) B jyX0_isContainer jtX0_isContainer wm_X0_64 [] (qX0_isContainer _ G _ hv4) ⟨⟨by decide, by decide⟩, by decide, by decide⟩ rfl rfl (by decide) rfl rfl rfl (Nat.le_of_ble_eq_true rfl) dX0_hasRoom_28 ?_
      refine jv_if_eq (tgt := 43) B dX0_hasRoom_31 (by decide) (fun c31 => ?_) (fun c31 => ?_)
      · replace h := dc_t c31 h
        refine jv_iconst (v := 1) B dX0_hasRoom_43 (by decide) ?_
        refine jv_goto (tgt := 48) B dX0_hasRoom_44 (by decide) ?_
        obtain rfl := Option.some.inj h
        exact jv_zret B E (Or.inr rfl) ⟨rfl, rfl⟩ ⟨by decide, by decide⟩ dX0_hasRoom_48
      · replace h := dc_f c31 h
        refine jv_aload_n B dX0_hasRoom_34 rfl ?_
        refine jv_get B kX0 8 (by decide) wf_X0_47 rfl rfl dX0_hasRoom_35 ?_
        refine jv_bipush (v := 30) B dX0_hasRoom_38 (by decide) ?_
        refine jv_icmp_ge (tgt := 47) B dX0_hasRoom_40 (by decide) (fun c40 => ?_) (fun c40 => ?_)
        · replace h := dc_t c40 h
          refine jv_iconst (v := 0) B dX0_hasRoom_47 (by decide) ?_
          obtain rfl := Option.some.inj h
          exact jv_zret B E (Or.inl rfl) ⟨rfl, rfl⟩ ⟨by decide, by decide⟩ dX0_hasRoom_48
        · replace h := dc_f c40 h
          refine jv_iconst (v := 1) B dX0_hasRoom_43 (by decide) ?_
          refine jv_goto (tgt := 48) B dX0_hasRoom_44 (by decide) ?_
          obtain rfl := Option.some.inj h
          exact jv_zret B E (Or.inr rfl) ⟨rfl, rfl⟩ ⟨by decide, by decide⟩ dX0_hasRoom_48
    · replace h := dc_f c22 h
      refine jv_iconst (v := 0) B dX0_hasRoom_25 (by decide) ?_
      obtain rfl := Option.some.inj h
      exact jv_zret B E (Or.inl rfl) ⟨rfl, rfl⟩ ⟨by decide, by decide⟩ dX0_hasRoom_26
set_option maxRecDepth 100000 in
set_option maxHeartbeats 4000000 in
theorem qX0_hasRoom (l : Launch) (G : jG) (ad : Nat → Nat) {kinds : Nat → Int32} {starts : Nat → Int32} {lengths : Nat → Int32} {depths : Nat → Int32} {numbers : Nat → Int64} {b_cells : Nat → Int32} {b_size : Int32} {b_tooLong : Int32} {openKinds : Nat → Int32} {size : Int32} {depth : Int32} {named : Int32} {p0 : Int32} {p1 : Int32} {r : Int32} (h : fX0_hasRoom b_size size depth p0 p1 = some r) : CT l G yX0_hasRoom cX0_hasRoom 3 (some .boolean) { frames := 1, cells := 0, slots := 0, locals := 20 } ad [.ref (ad 0), .int p0, .int p1] [ob 0 [.ref (ad 1), .ref (ad 2), .ref (ad 3), .ref (ad 4), .ref (ad 5), .ref (ad 6), .ref (ad 8), .int size, .int depth, .int named], aI G 1500 kinds, aI G 1500 starts, aI G 1500 lengths, aI G 1500 depths, aL G 1500 numbers, ob 2 [.ref (ad 7), .int b_size, .int b_tooLong], aB G 5000 b_cells, aI G 30 openKinds] 0 (pd ad (some (.int r)) [ob 0 [.ref (ad 1), .ref (ad 2), .ref (ad 3), .ref (ad 4), .ref (ad 5), .ref (ad 6), .ref (ad 8), .int size, .int depth, .int named], aI G 1500 kinds, aI G 1500 starts, aI G 1500 lengths, aI G 1500 depths, aL G 1500 numbers, ob 2 [.ref (ad 7), .int b_size, .int b_tooLong], aB G 5000 b_cells, aI G 30 openKinds]) :=
  CT.of jyX0_hasRoom (Nat.le_of_ble_eq_true rfl) (fun X B E _ _ => tX0_hasRoom_0 B E h)
def bX0_put_115  (kinds : Nat → Int32) (starts : Nat → Int32) (lengths : Nat → Int32) (depths : Nat → Int32) (numbers : Nat → Int64) (b_size : Int32) (openKinds : Nat → Int32) (size : Int32) (depth : Int32) (named : Int32) (x1 : Int32) (s1 : Int32) : Option ((Nat → Int32) × (Nat → Int32) × (Nat → Int32) × (Nat → Int32) × (Nat → Int64) × (Nat → Int32) × (Int32) × (Int32) × (Int32)) :=
  (if s1 = 0 ∨ s1 = 1 then ((fX0_isContainer x1).bind fun v3 => (if v3 = 0 then some (kinds, starts, lengths, depths, numbers, openKinds, size, depth, s1) else (if 30 ≤ depth then some (kinds, starts, lengths, depths, numbers, openKinds, size, depth, s1) else (if ix depth 30 then some (kinds, starts, lengths, depths, numbers, (upd openKinds (Int32.toNatClampNeg depth) x1), size, (depth + 1), s1) else none)))) else none)
def bX0_put_34  (kinds : Nat → Int32) (starts : Nat → Int32) (lengths : Nat → Int32) (depths : Nat → Int32) (numbers : Nat → Int64) (b_size : Int32) (openKinds : Nat → Int32) (size : Int32) (depth : Int32) (named : Int32) (x1 : Int32) (x2 : Int64) : Option ((Nat → Int32) × (Nat → Int32) × (Nat → Int32) × (Nat → Int32) × (Nat → Int64) × (Nat → Int32) × (Int32) × (Int32) × (Int32)) :=
  (if ix size 1500 then ((fX2_size b_size).bind fun v4 => (if ix size 1500 then (if ix size 1500 then (if ix size 1500 then (if ix size 1500 then (if x1 = 10 then bX0_put_115  (upd kinds (Int32.toNatClampNeg size) x1) (upd starts (Int32.toNatClampNeg size) v4) (upd lengths (Int32.toNatClampNeg size) 0) (upd depths (Int32.toNatClampNeg size) depth) (vp_updL numbers (Int32.toNatClampNeg size) x2) b_size openKinds (size + 1) depth named x1 1 else bX0_put_115  (upd kinds (Int32.toNatClampNeg size) x1) (upd starts (Int32.toNatClampNeg size) v4) (upd lengths (Int32.toNatClampNeg size) 0) (upd depths (Int32.toNatClampNeg size) depth) (vp_updL numbers (Int32.toNatClampNeg size) x2) b_size openKinds (size + 1) depth named x1 0) else none) else none) else none) else none)) else none)
def bX0_put_0  (kinds : Nat → Int32) (starts : Nat → Int32) (lengths : Nat → Int32) (depths : Nat → Int32) (numbers : Nat → Int64) (b_size : Int32) (openKinds : Nat → Int32) (size : Int32) (depth : Int32) (named : Int32) (p0 : Int32) (p1 : Int64) : Option ((Nat → Int32) × (Nat → Int32) × (Nat → Int32) × (Nat → Int32) × (Nat → Int64) × (Nat → Int32) × (Int32) × (Int32) × (Int32)) :=
  (if size < 1500 then (if p0 = 11 then (if depth ≤ 0 then bX0_put_34  kinds starts lengths depths numbers b_size openKinds size depth named p0 p1 else bX0_put_34  kinds starts lengths depths numbers b_size openKinds size (depth - 1) named p0 p1) else bX0_put_34  kinds starts lengths depths numbers b_size openKinds size depth named p0 p1) else some (kinds, starts, lengths, depths, numbers, openKinds, size, depth, named))
def fX0_put (kinds : Nat → Int32) (starts : Nat → Int32) (lengths : Nat → Int32) (depths : Nat → Int32) (numbers : Nat → Int64) (b_size : Int32) (openKinds : Nat → Int32) (size : Int32) (depth : Int32) (named : Int32) (p0 : Int32) (p1 : Int64) : Option ((Nat → Int32) × (Nat → Int32) × (Nat → Int32) × (Nat → Int32) × (Nat → Int64) × (Nat → Int32) × (Int32) × (Int32) × (Int32)) := bX0_put_0 kinds starts lengths depths numbers b_size openKinds size depth named p0 p1
set_option maxRecDepth 100000 in
set_option maxHeartbeats 4000000 in
theorem tX0_put_115 {G : jG} {X : jX} {ad : Nat → Nat} {r : (Nat → Int32) × (Nat → Int32) × (Nat → Int32) × (Nat → Int32) × (Nat → Int64) × (Nat → Int32) × (Int32) × (Int32) × (Int32)} {b_cells : Nat → Int32} {b_size : Int32} {b_tooLong : Int32} (B : jB G X cX0_put 4 RX0 { frames := 1, cells := 0, slots := 0, locals := 20 }) (E : jR G X (pd ad none [ob 0 [.ref (ad 1), .ref (ad 2), .ref (ad 3), .ref (ad 4), .ref (ad 5), .ref (ad 6), .ref (ad 8), .int r.2.2.2.2.2.2.1, .int r.2.2.2.2.2.2.2.1, .int r.2.2.2.2.2.2.2.2], aI G 1500 r.1, aI G 1500 r.2.1, aI G 1500 r.2.2.1, aI G 1500 r.2.2.2.1, aL G 1500 r.2.2.2.2.1, ob 2 [.ref (ad 7), .int b_size, .int b_tooLong], aB G 5000 b_cells, aI G 30 r.2.2.2.2.2.1]) { frames := 1, cells := 0, slots := 0, locals := 20 } none) {kinds : Nat → Int32} {starts : Nat → Int32} {lengths : Nat → Int32} {depths : Nat → Int32} {numbers : Nat → Int64} {openKinds : Nat → Int32} {size : Int32} {depth : Int32} {named : Int32} {x1 : Int32} {s1 : Int32} (h : bX0_put_115  kinds starts lengths depths numbers b_size openKinds size depth named x1 s1 = some r) : J G X 4 ad 0 0 [ob 0 [.ref (ad 1), .ref (ad 2), .ref (ad 3), .ref (ad 4), .ref (ad 5), .ref (ad 6), .ref (ad 8), .int size, .int depth, .int named], aI G 1500 kinds, aI G 1500 starts, aI G 1500 lengths, aI G 1500 depths, aL G 1500 numbers, ob 2 [.ref (ad 7), .int b_size, .int b_tooLong], aB G 5000 b_cells, aI G 30 openKinds] [(0, .ref (ad 0)), (1, .int x1)] 115 [.int s1, .ref (ad 0)] := by
  unfold bX0_put_115 at h
  obtain ⟨g115, h⟩ := dc_if h
  refine jv_put (fs' := [_, _, _, _, _, _, _, _, _, _]) (ws' := [_, _, _, _, _, _, _, _, _]) B kX0 9 (by decide) wf_X0_50 rfl (nz g115).1 (nz g115).2 rfl (Nat.le_of_ble_eq_true rfl) rfl rfl dX0_put_115 ?_
  refine jv_iload_n B dX0_put_118 rfl ?_
  obtain ⟨v3, hv3, h⟩ := dc_b h
  refine jv_callS (ws' := [_, _, _, _, _, _, _, _, _]) B jyX0_isContainer jtX0_isContainer wm_X0_64 [] (qX0_isContainer _ G _ hv3) ⟨⟨by decide, by decide⟩, by decide, by decide⟩ rfl rfl (by decide) rfl rfl rfl (Nat.le_of_ble_eq_true rfl) dX0_put_119 ?_
  refine jv_if_eq (tgt := 154) B dX0_put_122 (by decide) (fun c122 => ?_) (fun c122 => ?_)
  · replace h := dc_t c122 h
    obtain rfl := Option.some.inj h
    exact jv_vret B E ⟨rfl, rfl⟩ ⟨by decide, by decide⟩ dX0_put_154
  · replace h := dc_f c122 h
    refine jv_aload_n B dX0_put_125 rfl ?_
    refine jv_get B kX0 8 (by decide) wf_X0_47 rfl rfl dX0_put_126 ?_
    refine jv_bipush (v := 30) B dX0_put_129 (by decide) ?_
    refine jv_icmp_ge (tgt := 154) B dX0_put_131 (by decide) (fun c131 => ?_) (fun c131 => ?_)
    · replace h := dc_t c131 h
      obtain rfl := Option.some.inj h
      exact jv_vret B E ⟨rfl, rfl⟩ ⟨by decide, by decide⟩ dX0_put_154
    · replace h := dc_f c131 h
      refine jv_aload_n B dX0_put_134 rfl ?_
      refine jv_get B kX0 6 (by decide) wf_X0_37 rfl rfl dX0_put_135 ?_
      refine jv_aload_n B dX0_put_138 rfl ?_
      refine jv_get B kX0 8 (by decide) wf_X0_47 rfl rfl dX0_put_139 ?_
      refine jv_iload_n B dX0_put_142 rfl ?_
      obtain ⟨g143, h⟩ := dc_if h
      refine jx_iast (ws' := [_, _, _, _, _, _, _, _, _]) B rfl g143 rfl dX0_put_143 ?_
      refine jv_aload_n B dX0_put_144 rfl ?_
      refine jv_dup B dX0_put_145 rfl ?_
      refine jv_get B kX0 8 (by decide) wf_X0_47 rfl rfl dX0_put_146 ?_
      refine jv_iconst (v := 1) B dX0_put_149 (by decide) ?_
      refine jv_iadd B dX0_put_150 ?_
      refine jv_put (fs' := [_, _, _, _, _, _, _, _, _, _]) (ws' := [_, _, _, _, _, _, _, _, _]) B kX0 8 (by decide) wf_X0_47 rfl rfl rfl rfl (Nat.le_of_ble_eq_true rfl) rfl rfl dX0_put_151 ?_
      obtain rfl := Option.some.inj h
      exact jv_vret B E ⟨rfl, rfl⟩ ⟨by decide, by decide⟩ dX0_put_154
set_option maxRecDepth 100000 in
set_option maxHeartbeats 4000000 in
theorem tX0_put_34 {G : jG} {X : jX} {ad : Nat → Nat} {r : (Nat → Int32) × (Nat → Int32) × (Nat → Int32) × (Nat → Int32) × (Nat → Int64) × (Nat → Int32) × (Int32) × (Int32) × (Int32)} {b_cells : Nat → Int32} {b_size : Int32} {b_tooLong : Int32} (B : jB G X cX0_put 4 RX0 { frames := 1, cells := 0, slots := 0, locals := 20 }) (E : jR G X (pd ad none [ob 0 [.ref (ad 1), .ref (ad 2), .ref (ad 3), .ref (ad 4), .ref (ad 5), .ref (ad 6), .ref (ad 8), .int r.2.2.2.2.2.2.1, .int r.2.2.2.2.2.2.2.1, .int r.2.2.2.2.2.2.2.2], aI G 1500 r.1, aI G 1500 r.2.1, aI G 1500 r.2.2.1, aI G 1500 r.2.2.2.1, aL G 1500 r.2.2.2.2.1, ob 2 [.ref (ad 7), .int b_size, .int b_tooLong], aB G 5000 b_cells, aI G 30 r.2.2.2.2.2.1]) { frames := 1, cells := 0, slots := 0, locals := 20 } none) {kinds : Nat → Int32} {starts : Nat → Int32} {lengths : Nat → Int32} {depths : Nat → Int32} {numbers : Nat → Int64} {openKinds : Nat → Int32} {size : Int32} {depth : Int32} {named : Int32} {x1 : Int32} {x2 : Int64} (h : bX0_put_34  kinds starts lengths depths numbers b_size openKinds size depth named x1 x2 = some r) : J G X 4 ad 0 0 [ob 0 [.ref (ad 1), .ref (ad 2), .ref (ad 3), .ref (ad 4), .ref (ad 5), .ref (ad 6), .ref (ad 8), .int size, .int depth, .int named], aI G 1500 kinds, aI G 1500 starts, aI G 1500 lengths, aI G 1500 depths, aL G 1500 numbers, ob 2 [.ref (ad 7), .int b_size, .int b_tooLong], aB G 5000 b_cells, aI G 30 openKinds] [(0, .ref (ad 0)), (1, .int x1), (2, .long x2)] 34 [] := by
  unfold bX0_put_34 at h
  refine jv_aload_n B dX0_put_34 rfl ?_
  refine jv_get B kX0 0 (by decide) wf_X0_9 rfl rfl dX0_put_35 ?_
  refine jv_aload_n B dX0_put_38 rfl ?_
  refine jv_get B kX0 7 (by decide) wf_X0_40 rfl rfl dX0_put_39 ?_
  refine jv_iload_n B dX0_put_42 rfl ?_
  obtain ⟨g43, h⟩ := dc_if h
  refine jx_iast (ws' := [_, _, _, _, _, _, _, _, _]) B rfl g43 rfl dX0_put_43 ?_
  refine jv_aload_n B dX0_put_44 rfl ?_
  refine jv_get B kX0 1 (by decide) wf_X0_15 rfl rfl dX0_put_45 ?_
  refine jv_aload_n B dX0_put_48 rfl ?_
  refine jv_get B kX0 7 (by decide) wf_X0_40 rfl rfl dX0_put_49 ?_
  refine jv_aload_n B dX0_put_52 rfl ?_
  refine jv_get B kX0 5 (by decide) wf_X0_33 rfl rfl dX0_put_53 ?_
  obtain ⟨v4, hv4, h⟩ := dc_b h
  refine jv_callV (ws' := [_, _, _, _, _, _, ob 2 [.ref (ad 7), _, _], _, _]) B jyX2_size jiX2_size wm_X0_44 [6, 7] (qX2_size _ G _ hv4) ⟨⟨by decide, by decide⟩, by decide, by decide⟩ rfl rfl rfl rfl rfl (by decide) rfl rfl rfl (Nat.le_of_ble_eq_true rfl) dX0_put_56 ?_
  obtain ⟨g59, h⟩ := dc_if h
  refine jx_iast (ws' := [_, _, _, _, _, _, _, _, _]) B rfl g59 rfl dX0_put_59 ?_
  refine jv_aload_n B dX0_put_60 rfl ?_
  refine jv_get B kX0 2 (by decide) wf_X0_18 rfl rfl dX0_put_61 ?_
  refine jv_aload_n B dX0_put_64 rfl ?_
  refine jv_get B kX0 7 (by decide) wf_X0_40 rfl rfl dX0_put_65 ?_
  refine jv_iconst (v := 0) B dX0_put_68 (by decide) ?_
  obtain ⟨g69, h⟩ := dc_if h
  refine jx_iast (ws' := [_, _, _, _, _, _, _, _, _]) B rfl g69 rfl dX0_put_69 ?_
  refine jv_aload_n B dX0_put_70 rfl ?_
  refine jv_get B kX0 3 (by decide) wf_X0_21 rfl rfl dX0_put_71 ?_
  refine jv_aload_n B dX0_put_74 rfl ?_
  refine jv_get B kX0 7 (by decide) wf_X0_40 rfl rfl dX0_put_75 ?_
  refine jv_aload_n B dX0_put_78 rfl ?_
  refine jv_get B kX0 8 (by decide) wf_X0_47 rfl rfl dX0_put_79 ?_
  obtain ⟨g82, h⟩ := dc_if h
  refine jx_iast (ws' := [_, _, _, _, _, _, _, _, _]) B rfl g82 rfl dX0_put_82 ?_
  refine jv_aload_n B dX0_put_83 rfl ?_
  refine jv_get B kX0 4 (by decide) wf_X0_24 rfl rfl dX0_put_84 ?_
  refine jv_aload_n B dX0_put_87 rfl ?_
  refine jv_get B kX0 7 (by decide) wf_X0_40 rfl rfl dX0_put_88 ?_
  refine jv_lload_n B dX0_put_91 rfl ?_
  obtain ⟨g92, h⟩ := dc_if h
  refine jx_last (ws' := [_, _, _, _, _, _, _, _, _]) B rfl g92 rfl dX0_put_92 ?_
  refine jv_aload_n B dX0_put_93 rfl ?_
  refine jv_dup B dX0_put_94 rfl ?_
  refine jv_get B kX0 7 (by decide) wf_X0_40 rfl rfl dX0_put_95 ?_
  refine jv_iconst (v := 1) B dX0_put_98 (by decide) ?_
  refine jv_iadd B dX0_put_99 ?_
  refine jv_put (fs' := [_, _, _, _, _, _, _, _, _, _]) (ws' := [_, _, _, _, _, _, _, _, _]) B kX0 7 (by decide) wf_X0_40 rfl rfl rfl rfl (Nat.le_of_ble_eq_true rfl) rfl rfl dX0_put_100 ?_
  refine jv_aload_n B dX0_put_103 rfl ?_
  refine jv_iload_n B dX0_put_104 rfl ?_
  refine jv_bipush (v := 10) B dX0_put_105 (by decide) ?_
  refine jv_icmp_ne (tgt := 114) B dX0_put_107 (by decide) (fun c107 => ?_) (fun c107 => ?_)
  · replace h := dc_f c107 h
    refine jv_iconst (v := 0) B dX0_put_114 (by decide) ?_
    exact jv_lv (lv' := [(0, _), (1, _)]) (lvi_cons rfl (lvi_cons rfl lvi_nil)) (tX0_put_115 B E  h)
  · replace h := dc_t c107 h
    refine jv_iconst (v := 1) B dX0_put_110 (by decide) ?_
    refine jv_goto (tgt := 115) B dX0_put_111 (by decide) ?_
    exact jv_lv (lv' := [(0, _), (1, _)]) (lvi_cons rfl (lvi_cons rfl lvi_nil)) (tX0_put_115 B E  h)
set_option maxRecDepth 100000 in
set_option maxHeartbeats 4000000 in
theorem tX0_put_0 {G : jG} {X : jX} {ad : Nat → Nat} {r : (Nat → Int32) × (Nat → Int32) × (Nat → Int32) × (Nat → Int32) × (Nat → Int64) × (Nat → Int32) × (Int32) × (Int32) × (Int32)} {b_cells : Nat → Int32} {b_size : Int32} {b_tooLong : Int32} (B : jB G X cX0_put 4 RX0 { frames := 1, cells := 0, slots := 0, locals := 20 }) (E : jR G X (pd ad none [ob 0 [.ref (ad 1), .ref (ad 2), .ref (ad 3), .ref (ad 4), .ref (ad 5), .ref (ad 6), .ref (ad 8), .int r.2.2.2.2.2.2.1, .int r.2.2.2.2.2.2.2.1, .int r.2.2.2.2.2.2.2.2], aI G 1500 r.1, aI G 1500 r.2.1, aI G 1500 r.2.2.1, aI G 1500 r.2.2.2.1, aL G 1500 r.2.2.2.2.1, ob 2 [.ref (ad 7), .int b_size, .int b_tooLong], aB G 5000 b_cells, aI G 30 r.2.2.2.2.2.1]) { frames := 1, cells := 0, slots := 0, locals := 20 } none) {kinds : Nat → Int32} {starts : Nat → Int32} {lengths : Nat → Int32} {depths : Nat → Int32} {numbers : Nat → Int64} {openKinds : Nat → Int32} {size : Int32} {depth : Int32} {named : Int32} {p0 : Int32} {p1 : Int64} (h : bX0_put_0  kinds starts lengths depths numbers b_size openKinds size depth named p0 p1 = some r) : J G X 4 ad 0 0 [ob 0 [.ref (ad 1), .ref (ad 2), .ref (ad 3), .ref (ad 4), .ref (ad 5), .ref (ad 6), .ref (ad 8), .int size, .int depth, .int named], aI G 1500 kinds, aI G 1500 starts, aI G 1500 lengths, aI G 1500 depths, aL G 1500 numbers, ob 2 [.ref (ad 7), .int b_size, .int b_tooLong], aB G 5000 b_cells, aI G 30 openKinds] [(0, .ref (ad 0)), (1, .int p0), (2, .long p1)] 0 [] := by
  unfold bX0_put_0 at h
  refine jv_aload_n B dX0_put_0 rfl ?_
  refine jv_get B kX0 7 (by decide) wf_X0_40 rfl rfl dX0_put_1 ?_
  refine jv_sipush (v := 1500) B dX0_put_4 (by decide) ?_
  refine jv_icmp_lt (tgt := 11) B dX0_put_7 (by decide) (fun c7 => ?_) (fun c7 => ?_)
  · replace h := dc_t c7 h
    refine jv_iload_n B dX0_put_11 rfl ?_
    refine jv_bipush (v := 11) B dX0_put_12 (by decide) ?_
    refine jv_icmp_ne (tgt := 34) B dX0_put_14 (by decide) (fun c14 => ?_) (fun c14 => ?_)
    · replace h := dc_f c14 h
      exact jv_lv (lv' := [(0, _), (1, _), (2, _)]) (lvi_cons rfl (lvi_cons rfl (lvi_cons rfl lvi_nil))) (tX0_put_34 B E  h)
    · replace h := dc_t c14 h
      refine jv_aload_n B dX0_put_17 rfl ?_
      refine jv_get B kX0 8 (by decide) wf_X0_47 rfl rfl dX0_put_18 ?_
      refine jv_if_le (tgt := 34) B dX0_put_21 (by decide) (fun c21 => ?_) (fun c21 => ?_)
      · replace h := dc_t c21 h
        exact jv_lv (lv' := [(0, _), (1, _), (2, _)]) (lvi_cons rfl (lvi_cons rfl (lvi_cons rfl lvi_nil))) (tX0_put_34 B E  h)
      · replace h := dc_f c21 h
        refine jv_aload_n B dX0_put_24 rfl ?_
        refine jv_dup B dX0_put_25 rfl ?_
        refine jv_get B kX0 8 (by decide) wf_X0_47 rfl rfl dX0_put_26 ?_
        refine jv_iconst (v := 1) B dX0_put_29 (by decide) ?_
        refine jv_isub B dX0_put_30 ?_
        refine jv_put (fs' := [_, _, _, _, _, _, _, _, _, _]) (ws' := [_, _, _, _, _, _, _, _, _]) B kX0 8 (by decide) wf_X0_47 rfl rfl rfl rfl (Nat.le_of_ble_eq_true rfl) rfl rfl dX0_put_31 ?_
        exact jv_lv (lv' := [(0, _), (1, _), (2, _)]) (lvi_cons rfl (lvi_cons rfl (lvi_cons rfl lvi_nil))) (tX0_put_34 B E  h)
  · replace h := dc_f c7 h
    obtain rfl := Option.some.inj h
    exact jv_vret B E ⟨rfl, rfl⟩ ⟨by decide, by decide⟩ dX0_put_10
set_option maxRecDepth 100000 in
set_option maxHeartbeats 4000000 in
theorem qX0_put (l : Launch) (G : jG) (ad : Nat → Nat) {kinds : Nat → Int32} {starts : Nat → Int32} {lengths : Nat → Int32} {depths : Nat → Int32} {numbers : Nat → Int64} {b_cells : Nat → Int32} {b_size : Int32} {b_tooLong : Int32} {openKinds : Nat → Int32} {size : Int32} {depth : Int32} {named : Int32} {p0 : Int32} {p1 : Int64} {r : (Nat → Int32) × (Nat → Int32) × (Nat → Int32) × (Nat → Int32) × (Nat → Int64) × (Nat → Int32) × (Int32) × (Int32) × (Int32)} (h : fX0_put kinds starts lengths depths numbers b_size openKinds size depth named p0 p1 = some r) : CT l G yX0_put cX0_put 4 none { frames := 1, cells := 0, slots := 0, locals := 20 } ad [.ref (ad 0), .int p0, .long p1] [ob 0 [.ref (ad 1), .ref (ad 2), .ref (ad 3), .ref (ad 4), .ref (ad 5), .ref (ad 6), .ref (ad 8), .int size, .int depth, .int named], aI G 1500 kinds, aI G 1500 starts, aI G 1500 lengths, aI G 1500 depths, aL G 1500 numbers, ob 2 [.ref (ad 7), .int b_size, .int b_tooLong], aB G 5000 b_cells, aI G 30 openKinds] 0 (pd ad none [ob 0 [.ref (ad 1), .ref (ad 2), .ref (ad 3), .ref (ad 4), .ref (ad 5), .ref (ad 6), .ref (ad 8), .int r.2.2.2.2.2.2.1, .int r.2.2.2.2.2.2.2.1, .int r.2.2.2.2.2.2.2.2], aI G 1500 r.1, aI G 1500 r.2.1, aI G 1500 r.2.2.1, aI G 1500 r.2.2.2.1, aL G 1500 r.2.2.2.2.1, ob 2 [.ref (ad 7), .int b_size, .int b_tooLong], aB G 5000 b_cells, aI G 30 r.2.2.2.2.2.1]) :=
  CT.of jyX0_put (Nat.le_of_ble_eq_true rfl) (fun X B E _ _ => tX0_put_0 B E h)
def bX0_extend_0  (starts : Nat → Int32) (lengths : Nat → Int32) (b_cells : Nat → Int32) (b_size : Int32) (b_tooLong : Int32) (size : Int32) (p0 : Int32) : Option ((Nat → Int32) × (Nat → Int32) × (Int32) × (Int32)) :=
  (if size ≤ 0 then some (lengths, b_cells, b_size, b_tooLong) else ((fX2_push 5000 b_cells b_size b_tooLong p0).bind fun v3 => ((fX2_size v3.2.1).bind fun v4 => (if ix (size - 1) 1500 then (if ix (size - 1) 1500 then some ((upd lengths (Int32.toNatClampNeg (size - 1)) (v4 - (starts (Int32.toNatClampNeg (size - 1))))), v3.1, v3.2.1, v3.2.2) else none) else none))))
def fX0_extend (starts : Nat → Int32) (lengths : Nat → Int32) (b_cells : Nat → Int32) (b_size : Int32) (b_tooLong : Int32) (size : Int32) (p0 : Int32) : Option ((Nat → Int32) × (Nat → Int32) × (Int32) × (Int32)) := bX0_extend_0 starts lengths b_cells b_size b_tooLong size p0
set_option maxRecDepth 100000 in
set_option maxHeartbeats 4000000 in
theorem tX0_extend_0 {G : jG} {X : jX} {ad : Nat → Nat} {r : (Nat → Int32) × (Nat → Int32) × (Int32) × (Int32)} {kinds : Nat → Int32} {starts : Nat → Int32} {depths : Nat → Int32} {numbers : Nat → Int64} {openKinds : Nat → Int32} {size : Int32} {depth : Int32} {named : Int32} (B : jB G X cX0_extend 2 RX0 { frames := 1, cells := 0, slots := 0, locals := 21 }) (E : jR G X (pd ad none [ob 0 [.ref (ad 1), .ref (ad 2), .ref (ad 3), .ref (ad 4), .ref (ad 5), .ref (ad 6), .ref (ad 8), .int size, .int depth, .int named], aI G 1500 kinds, aI G 1500 starts, aI G 1500 r.1, aI G 1500 depths, aL G 1500 numbers, ob 2 [.ref (ad 7), .int r.2.2.1, .int r.2.2.2], aB G 5000 r.2.1, aI G 30 openKinds]) { frames := 1, cells := 0, slots := 0, locals := 21 } none) {lengths : Nat → Int32} {b_cells : Nat → Int32} {b_size : Int32} {b_tooLong : Int32} {p0 : Int32} (h : bX0_extend_0  starts lengths b_cells b_size b_tooLong size p0 = some r) : J G X 2 ad 0 0 [ob 0 [.ref (ad 1), .ref (ad 2), .ref (ad 3), .ref (ad 4), .ref (ad 5), .ref (ad 6), .ref (ad 8), .int size, .int depth, .int named], aI G 1500 kinds, aI G 1500 starts, aI G 1500 lengths, aI G 1500 depths, aL G 1500 numbers, ob 2 [.ref (ad 7), .int b_size, .int b_tooLong], aB G 5000 b_cells, aI G 30 openKinds] [(0, .ref (ad 0)), (1, .int p0)] 0 [] := by
  unfold bX0_extend_0 at h
  refine jv_aload_n B dX0_extend_0 rfl ?_
  refine jv_get B kX0 7 (by decide) wf_X0_40 rfl rfl dX0_extend_1 ?_
  refine jv_if_le (tgt := 45) B dX0_extend_4 (by decide) (fun c4 => ?_) (fun c4 => ?_)
  · replace h := dc_t c4 h
    obtain rfl := Option.some.inj h
    exact jv_vret B E ⟨rfl, rfl⟩ ⟨by decide, by decide⟩ dX0_extend_45
  · replace h := dc_f c4 h
    refine jv_aload_n B dX0_extend_7 rfl ?_
    refine jv_get B kX0 5 (by decide) wf_X0_33 rfl rfl dX0_extend_8 ?_
    refine jv_iload_n B dX0_extend_11 rfl ?_
    obtain ⟨v3, hv3, h⟩ := dc_b h
    refine jv_callV (ws' := [_, _, _, _, _, _, ob 2 [.ref (ad 7), _, _], _, _]) B jyX2_push jiX2_push wm_X0_68 [6, 7] (qX2_push _ G _ hv3) ⟨⟨by decide, by decide⟩, by decide, by decide⟩ rfl rfl rfl rfl rfl (by decide) rfl rfl rfl (Nat.le_of_ble_eq_true rfl) dX0_extend_12 ?_
    refine jv_aload_n B dX0_extend_15 rfl ?_
    refine jv_get B kX0 2 (by decide) wf_X0_18 rfl rfl dX0_extend_16 ?_
    refine jv_aload_n B dX0_extend_19 rfl ?_
    refine jv_get B kX0 7 (by decide) wf_X0_40 rfl rfl dX0_extend_20 ?_
    refine jv_iconst (v := 1) B dX0_extend_23 (by decide) ?_
    refine jv_isub B dX0_extend_24 ?_
    refine jv_aload_n B dX0_extend_25 rfl ?_
    refine jv_get B kX0 5 (by decide) wf_X0_33 rfl rfl dX0_extend_26 ?_
    obtain ⟨v4, hv4, h⟩ := dc_b h
    refine jv_callV (ws' := [_, _, _, _, _, _, ob 2 [.ref (ad 7), _, _], _, _]) B jyX2_size jiX2_size wm_X0_44 [6, 7] (qX2_size _ G _ hv4) ⟨⟨by decide, by decide⟩, by decide, by decide⟩ rfl rfl rfl rfl rfl (by decide) rfl rfl rfl (Nat.le_of_ble_eq_true rfl) dX0_extend_29 ?_
    refine jv_aload_n B dX0_extend_32 rfl ?_
    refine jv_get B kX0 1 (by decide) wf_X0_15 rfl rfl dX0_extend_33 ?_
    refine jv_aload_n B dX0_extend_36 rfl ?_
    refine jv_get B kX0 7 (by decide) wf_X0_40 rfl rfl dX0_extend_37 ?_
    refine jv_iconst (v := 1) B dX0_extend_40 (by decide) ?_
    refine jv_isub B dX0_extend_41 ?_
    obtain ⟨g42, h⟩ := dc_if h
    refine jx_iald B rfl g42 dX0_extend_42 ?_
    refine jv_isub B dX0_extend_43 ?_
    obtain ⟨g44, h⟩ := dc_if h
    refine jx_iast (ws' := [_, _, _, _, _, _, _, _, _]) B rfl g44 rfl dX0_extend_44 ?_
    obtain rfl := Option.some.inj h
    exact jv_vret B E ⟨rfl, rfl⟩ ⟨by decide, by decide⟩ dX0_extend_45
set_option maxRecDepth 100000 in
set_option maxHeartbeats 4000000 in
theorem qX0_extend (l : Launch) (G : jG) (ad : Nat → Nat) {kinds : Nat → Int32} {starts : Nat → Int32} {lengths : Nat → Int32} {depths : Nat → Int32} {numbers : Nat → Int64} {b_cells : Nat → Int32} {b_size : Int32} {b_tooLong : Int32} {openKinds : Nat → Int32} {size : Int32} {depth : Int32} {named : Int32} {p0 : Int32} {r : (Nat → Int32) × (Nat → Int32) × (Int32) × (Int32)} (h : fX0_extend starts lengths b_cells b_size b_tooLong size p0 = some r) : CT l G yX0_extend cX0_extend 2 none { frames := 1, cells := 0, slots := 0, locals := 21 } ad [.ref (ad 0), .int p0] [ob 0 [.ref (ad 1), .ref (ad 2), .ref (ad 3), .ref (ad 4), .ref (ad 5), .ref (ad 6), .ref (ad 8), .int size, .int depth, .int named], aI G 1500 kinds, aI G 1500 starts, aI G 1500 lengths, aI G 1500 depths, aL G 1500 numbers, ob 2 [.ref (ad 7), .int b_size, .int b_tooLong], aB G 5000 b_cells, aI G 30 openKinds] 0 (pd ad none [ob 0 [.ref (ad 1), .ref (ad 2), .ref (ad 3), .ref (ad 4), .ref (ad 5), .ref (ad 6), .ref (ad 8), .int size, .int depth, .int named], aI G 1500 kinds, aI G 1500 starts, aI G 1500 r.1, aI G 1500 depths, aL G 1500 numbers, ob 2 [.ref (ad 7), .int r.2.2.1, .int r.2.2.2], aB G 5000 r.2.1, aI G 30 openKinds]) :=
  CT.of jyX0_extend (Nat.le_of_ble_eq_true rfl) (fun X B E _ _ => tX0_extend_0 B E h)
def bX0_extendBy_3  : Nat → (Nat → Int32) → (Nat → Int32) → (Nat → Int32) → Int32 → Int32 → Int32 → Nat → (Nat → Int32) → Int32 → Int32 → Int32 → Int32 → Option ((Nat → Int32) × (Nat → Int32) × (Int32) × (Int32))
  | 0, _, _, _, _, _, _, _, _, _, _, _, _ => none
  | nn + 1, starts, lengths, b_cells, b_size, b_tooLong, size, f_cap, f_cells, f_size, x2, x3, x4 =>
    (if (x2 + x3) ≤ x4 then some (lengths, b_cells, b_size, b_tooLong) else ((fX2_at f_cap f_cells f_size x4).bind fun v3 => ((fX0_extend starts lengths b_cells b_size b_tooLong size v3).bind fun v4 => bX0_extendBy_3  nn starts v4.1 v4.2.1 v4.2.2.1 v4.2.2.2 size f_cap f_cells f_size x2 x3 (x4 + 1))))
def bX0_extendBy_0  (starts : Nat → Int32) (lengths : Nat → Int32) (b_cells : Nat → Int32) (b_size : Int32) (b_tooLong : Int32) (size : Int32) (f_cap : Nat) (f_cells : Nat → Int32) (f_size : Int32) (p0 : Int32) (p1 : Int32) : Option ((Nat → Int32) × (Nat → Int32) × (Int32) × (Int32)) :=
  bX0_extendBy_3  FU starts lengths b_cells b_size b_tooLong size f_cap f_cells f_size p0 p1 p0
def fX0_extendBy (starts : Nat → Int32) (lengths : Nat → Int32) (b_cells : Nat → Int32) (b_size : Int32) (b_tooLong : Int32) (size : Int32) (f_cap : Nat) (f_cells : Nat → Int32) (f_size : Int32) (p0 : Int32) (p1 : Int32) : Option ((Nat → Int32) × (Nat → Int32) × (Int32) × (Int32)) := bX0_extendBy_0 starts lengths b_cells b_size b_tooLong size f_cap f_cells f_size p0 p1
set_option maxRecDepth 100000 in
set_option maxHeartbeats 4000000 in
theorem tX0_extendBy_3 {G : jG} {X : jX} {ad : Nat → Nat} {r : (Nat → Int32) × (Nat → Int32) × (Int32) × (Int32)} {kinds : Nat → Int32} {starts : Nat → Int32} {depths : Nat → Int32} {numbers : Nat → Int64} {openKinds : Nat → Int32} {size : Int32} {depth : Int32} {named : Int32} {f_cap : Nat} {f_cells : Nat → Int32} {f_size : Int32} {f_tooLong : Int32} (B : jB G X cX0_extendBy 5 RX0 { frames := 2, cells := 0, slots := 0, locals := 42 }) (E : jR G X (pd ad none [ob 0 [.ref (ad 1), .ref (ad 2), .ref (ad 3), .ref (ad 4), .ref (ad 5), .ref (ad 6), .ref (ad 8), .int size, .int depth, .int named], aI G 1500 kinds, aI G 1500 starts, aI G 1500 r.1, aI G 1500 depths, aL G 1500 numbers, ob 2 [.ref (ad 7), .int r.2.2.1, .int r.2.2.2], aB G 5000 r.2.1, aI G 30 openKinds, ob 2 [.ref (ad 10), .int f_size, .int f_tooLong], aB G f_cap f_cells]) { frames := 2, cells := 0, slots := 0, locals := 42 } none) : ∀ (nn : Nat) (lengths : Nat → Int32) (b_cells : Nat → Int32) (b_size : Int32) (b_tooLong : Int32) (x2 : Int32) (x3 : Int32) (x4 : Int32), bX0_extendBy_3  nn starts lengths b_cells b_size b_tooLong size f_cap f_cells f_size x2 x3 x4 = some r → J G X 5 ad 0 0 [ob 0 [.ref (ad 1), .ref (ad 2), .ref (ad 3), .ref (ad 4), .ref (ad 5), .ref (ad 6), .ref (ad 8), .int size, .int depth, .int named], aI G 1500 kinds, aI G 1500 starts, aI G 1500 lengths, aI G 1500 depths, aL G 1500 numbers, ob 2 [.ref (ad 7), .int b_size, .int b_tooLong], aB G 5000 b_cells, aI G 30 openKinds, ob 2 [.ref (ad 10), .int f_size, .int f_tooLong], aB G f_cap f_cells] [(0, .ref (ad 0)), (1, .ref (ad 9)), (2, .int x2), (3, .int x3), (4, .int x4)] 3 [] := by
  intro nn
  induction nn with
  | zero => intro lengths b_cells b_size b_tooLong x2 x3 x4 h; cases h
  | succ nn ih =>
    intro lengths b_cells b_size b_tooLong x2 x3 x4 h
    unfold bX0_extendBy_3 at h
    refine jv_iload B dX0_extendBy_3 rfl ?_
    refine jv_iload_n B dX0_extendBy_5 rfl ?_
    refine jv_iload_n B dX0_extendBy_6 rfl ?_
    refine jv_iadd B dX0_extendBy_7 ?_
    refine jv_icmp_ge (tgt := 27) B dX0_extendBy_8 (by decide) (fun c8 => ?_) (fun c8 => ?_)
    · replace h := dc_t c8 h
      obtain rfl := Option.some.inj h
      exact jv_vret B E ⟨rfl, rfl⟩ ⟨by decide, by decide⟩ dX0_extendBy_27
    · replace h := dc_f c8 h
      refine jv_aload_n B dX0_extendBy_11 rfl ?_
      refine jv_aload_n B dX0_extendBy_12 rfl ?_
      refine jv_iload B dX0_extendBy_13 rfl ?_
      obtain ⟨v3, hv3, h⟩ := dc_b h
      refine jv_callV (ws' := [_, _, _, _, _, _, _, _, _, ob 2 [.ref (ad 10), _, _], _]) B jyX2_at jiX2_at wm_X0_71 [9, 10] (qX2_at _ G _ hv3) ⟨⟨by decide, by decide⟩, by decide, by decide⟩ rfl rfl rfl rfl rfl (by decide) rfl rfl rfl (Nat.le_of_ble_eq_true rfl) dX0_extendBy_15 ?_
      obtain ⟨v4, hv4, h⟩ := dc_b h
      refine jv_callV (ws' := [ob 0 [.ref (ad 1), .ref (ad 2), .ref (ad 3), .ref (ad 4), .ref (ad 5), .ref (ad 6), .ref (ad 8), _, _, _], _, _, _, _, _, ob 2 [.ref (ad 7), _, _], _, _, _, _]) B jyX0_extend jiX0_extend wm_X0_75 [0, 1, 2, 3, 4, 5, 6, 7, 8] (qX0_extend _ G _ hv4) ⟨⟨by decide, by decide⟩, by decide, by decide⟩ rfl rfl rfl rfl rfl (by decide) rfl rfl rfl (Nat.le_of_ble_eq_true rfl) dX0_extendBy_18 ?_
      refine jv_iinc (v := x4 + 1) (lv' := [(0, _), (1, _), (2, _), (3, _), (4, _)]) B dX0_extendBy_21 rfl (by rfl) (by decide) (lvi_cons rfl (lvi_cons rfl (lvi_cons rfl (lvi_cons rfl (lvi_cons rfl lvi_nil))))) ?_
      refine jv_goto (tgt := 3) B dX0_extendBy_24 (by decide) ?_
      exact jv_lv (lv' := [(0, _), (1, _), (2, _), (3, _), (4, _)]) (lvi_cons rfl (lvi_cons rfl (lvi_cons rfl (lvi_cons rfl (lvi_cons rfl lvi_nil))))) (ih _ _ _ _ _ _ _ h)
set_option maxRecDepth 100000 in
set_option maxHeartbeats 4000000 in
theorem tX0_extendBy_0 {G : jG} {X : jX} {ad : Nat → Nat} {r : (Nat → Int32) × (Nat → Int32) × (Int32) × (Int32)} {kinds : Nat → Int32} {starts : Nat → Int32} {depths : Nat → Int32} {numbers : Nat → Int64} {openKinds : Nat → Int32} {size : Int32} {depth : Int32} {named : Int32} {f_cap : Nat} {f_cells : Nat → Int32} {f_size : Int32} {f_tooLong : Int32} (B : jB G X cX0_extendBy 5 RX0 { frames := 2, cells := 0, slots := 0, locals := 42 }) (E : jR G X (pd ad none [ob 0 [.ref (ad 1), .ref (ad 2), .ref (ad 3), .ref (ad 4), .ref (ad 5), .ref (ad 6), .ref (ad 8), .int size, .int depth, .int named], aI G 1500 kinds, aI G 1500 starts, aI G 1500 r.1, aI G 1500 depths, aL G 1500 numbers, ob 2 [.ref (ad 7), .int r.2.2.1, .int r.2.2.2], aB G 5000 r.2.1, aI G 30 openKinds, ob 2 [.ref (ad 10), .int f_size, .int f_tooLong], aB G f_cap f_cells]) { frames := 2, cells := 0, slots := 0, locals := 42 } none) {lengths : Nat → Int32} {b_cells : Nat → Int32} {b_size : Int32} {b_tooLong : Int32} {p0 : Int32} {p1 : Int32} (h : bX0_extendBy_0  starts lengths b_cells b_size b_tooLong size f_cap f_cells f_size p0 p1 = some r) : J G X 5 ad 0 0 [ob 0 [.ref (ad 1), .ref (ad 2), .ref (ad 3), .ref (ad 4), .ref (ad 5), .ref (ad 6), .ref (ad 8), .int size, .int depth, .int named], aI G 1500 kinds, aI G 1500 starts, aI G 1500 lengths, aI G 1500 depths, aL G 1500 numbers, ob 2 [.ref (ad 7), .int b_size, .int b_tooLong], aB G 5000 b_cells, aI G 30 openKinds, ob 2 [.ref (ad 10), .int f_size, .int f_tooLong], aB G f_cap f_cells] [(0, .ref (ad 0)), (1, .ref (ad 9)), (2, .int p0), (3, .int p1)] 0 [] := by
  unfold bX0_extendBy_0 at h
  refine jv_iload_n B dX0_extendBy_0 rfl ?_
  refine jv_istore (lv' := [(0, _), (1, _), (2, _), (3, _), (4, _)]) B dX0_extendBy_1 (by decide) (lvi_cons rfl (lvi_cons rfl (lvi_cons rfl (lvi_cons rfl (lvi_cons rfl lvi_nil))))) ?_
  exact jv_lv (lv' := [(0, _), (1, _), (2, _), (3, _), (4, _)]) (lvi_cons rfl (lvi_cons rfl (lvi_cons rfl (lvi_cons rfl (lvi_cons rfl lvi_nil))))) (tX0_extendBy_3 B E  FU _ _ _ _ _ _ _ h)
set_option maxRecDepth 100000 in
set_option maxHeartbeats 4000000 in
theorem qX0_extendBy (l : Launch) (G : jG) (ad : Nat → Nat) {kinds : Nat → Int32} {starts : Nat → Int32} {lengths : Nat → Int32} {depths : Nat → Int32} {numbers : Nat → Int64} {b_cells : Nat → Int32} {b_size : Int32} {b_tooLong : Int32} {openKinds : Nat → Int32} {size : Int32} {depth : Int32} {named : Int32} {f_cap : Nat} {f_cells : Nat → Int32} {f_size : Int32} {f_tooLong : Int32} {p0 : Int32} {p1 : Int32} {r : (Nat → Int32) × (Nat → Int32) × (Int32) × (Int32)} (h : fX0_extendBy starts lengths b_cells b_size b_tooLong size f_cap f_cells f_size p0 p1 = some r) : CT l G yX0_extendBy cX0_extendBy 5 none { frames := 2, cells := 0, slots := 0, locals := 42 } ad [.ref (ad 0), .ref (ad 9), .int p0, .int p1] [ob 0 [.ref (ad 1), .ref (ad 2), .ref (ad 3), .ref (ad 4), .ref (ad 5), .ref (ad 6), .ref (ad 8), .int size, .int depth, .int named], aI G 1500 kinds, aI G 1500 starts, aI G 1500 lengths, aI G 1500 depths, aL G 1500 numbers, ob 2 [.ref (ad 7), .int b_size, .int b_tooLong], aB G 5000 b_cells, aI G 30 openKinds, ob 2 [.ref (ad 10), .int f_size, .int f_tooLong], aB G f_cap f_cells] 0 (pd ad none [ob 0 [.ref (ad 1), .ref (ad 2), .ref (ad 3), .ref (ad 4), .ref (ad 5), .ref (ad 6), .ref (ad 8), .int size, .int depth, .int named], aI G 1500 kinds, aI G 1500 starts, aI G 1500 r.1, aI G 1500 depths, aL G 1500 numbers, ob 2 [.ref (ad 7), .int r.2.2.1, .int r.2.2.2], aB G 5000 r.2.1, aI G 30 openKinds, ob 2 [.ref (ad 10), .int f_size, .int f_tooLong], aB G f_cap f_cells]) :=
  CT.of jyX0_extendBy (Nat.le_of_ble_eq_true rfl) (fun X B E _ _ => tX0_extendBy_0 B E h)
def bX0_size_0  (size : Int32)  : Option (Int32) :=
  some (size)
def fX0_size (size : Int32)  : Option (Int32) := bX0_size_0 size
set_option maxRecDepth 100000 in
set_option maxHeartbeats 4000000 in
theorem tX0_size_0 {G : jG} {X : jX} {ad : Nat → Nat} {r : Int32} {kinds : Nat → Int32} {starts : Nat → Int32} {lengths : Nat → Int32} {depths : Nat → Int32} {numbers : Nat → Int64} {b_cells : Nat → Int32} {b_size : Int32} {b_tooLong : Int32} {openKinds : Nat → Int32} {size : Int32} {depth : Int32} {named : Int32} (B : jB G X cX0_size 1 RX0 { frames := 0, cells := 0, slots := 0, locals := 0 }) (E : jR G X (pd ad (some (.int r)) [ob 0 [.ref (ad 1), .ref (ad 2), .ref (ad 3), .ref (ad 4), .ref (ad 5), .ref (ad 6), .ref (ad 8), .int size, .int depth, .int named], aI G 1500 kinds, aI G 1500 starts, aI G 1500 lengths, aI G 1500 depths, aL G 1500 numbers, ob 2 [.ref (ad 7), .int b_size, .int b_tooLong], aB G 5000 b_cells, aI G 30 openKinds]) { frames := 0, cells := 0, slots := 0, locals := 0 } (some .int))   (h : bX0_size_0  size = some r) : J G X 1 ad 0 0 [ob 0 [.ref (ad 1), .ref (ad 2), .ref (ad 3), .ref (ad 4), .ref (ad 5), .ref (ad 6), .ref (ad 8), .int size, .int depth, .int named], aI G 1500 kinds, aI G 1500 starts, aI G 1500 lengths, aI G 1500 depths, aL G 1500 numbers, ob 2 [.ref (ad 7), .int b_size, .int b_tooLong], aB G 5000 b_cells, aI G 30 openKinds] [(0, .ref (ad 0))] 0 [] := by
  unfold bX0_size_0 at h
  refine jv_aload_n B dX0_size_0 rfl ?_
  refine jv_get B kX0 7 (by decide) wf_X0_40 rfl rfl dX0_size_1 ?_
  obtain rfl := Option.some.inj h
  exact jv_iret B E ⟨rfl, rfl⟩ ⟨by decide, by decide⟩ dX0_size_4
set_option maxRecDepth 100000 in
set_option maxHeartbeats 4000000 in
theorem qX0_size (l : Launch) (G : jG) (ad : Nat → Nat) {kinds : Nat → Int32} {starts : Nat → Int32} {lengths : Nat → Int32} {depths : Nat → Int32} {numbers : Nat → Int64} {b_cells : Nat → Int32} {b_size : Int32} {b_tooLong : Int32} {openKinds : Nat → Int32} {size : Int32} {depth : Int32} {named : Int32}  {r : Int32} (h : fX0_size size = some r) : CT l G yX0_size cX0_size 1 (some .int) { frames := 0, cells := 0, slots := 0, locals := 0 } ad [.ref (ad 0)] [ob 0 [.ref (ad 1), .ref (ad 2), .ref (ad 3), .ref (ad 4), .ref (ad 5), .ref (ad 6), .ref (ad 8), .int size, .int depth, .int named], aI G 1500 kinds, aI G 1500 starts, aI G 1500 lengths, aI G 1500 depths, aL G 1500 numbers, ob 2 [.ref (ad 7), .int b_size, .int b_tooLong], aB G 5000 b_cells, aI G 30 openKinds] 0 (pd ad (some (.int r)) [ob 0 [.ref (ad 1), .ref (ad 2), .ref (ad 3), .ref (ad 4), .ref (ad 5), .ref (ad 6), .ref (ad 8), .int size, .int depth, .int named], aI G 1500 kinds, aI G 1500 starts, aI G 1500 lengths, aI G 1500 depths, aL G 1500 numbers, ob 2 [.ref (ad 7), .int b_size, .int b_tooLong], aB G 5000 b_cells, aI G 30 openKinds]) :=
  CT.of jyX0_size (Nat.le_of_ble_eq_true rfl) (fun X B E _ _ => tX0_size_0 B E h)
def bX0_clear_0  (b_size : Int32) (b_tooLong : Int32) (size : Int32) (depth : Int32) (named : Int32)  : Option ((Int32) × (Int32) × (Int32) × (Int32) × (Int32)) :=
  ((fX2_clear b_size b_tooLong).bind fun v2 => some (v2.1, v2.2, 0, 0, 0))
def fX0_clear (b_size : Int32) (b_tooLong : Int32) (size : Int32) (depth : Int32) (named : Int32)  : Option ((Int32) × (Int32) × (Int32) × (Int32) × (Int32)) := bX0_clear_0 b_size b_tooLong size depth named
set_option maxRecDepth 100000 in
set_option maxHeartbeats 4000000 in
theorem tX0_clear_0 {G : jG} {X : jX} {ad : Nat → Nat} {r : (Int32) × (Int32) × (Int32) × (Int32) × (Int32)} {kinds : Nat → Int32} {starts : Nat → Int32} {lengths : Nat → Int32} {depths : Nat → Int32} {numbers : Nat → Int64} {b_cells : Nat → Int32} {openKinds : Nat → Int32} (B : jB G X cX0_clear 1 RX0 { frames := 1, cells := 0, slots := 0, locals := 20 }) (E : jR G X (pd ad none [ob 0 [.ref (ad 1), .ref (ad 2), .ref (ad 3), .ref (ad 4), .ref (ad 5), .ref (ad 6), .ref (ad 8), .int r.2.2.1, .int r.2.2.2.1, .int r.2.2.2.2], aI G 1500 kinds, aI G 1500 starts, aI G 1500 lengths, aI G 1500 depths, aL G 1500 numbers, ob 2 [.ref (ad 7), .int r.1, .int r.2.1], aB G 5000 b_cells, aI G 30 openKinds]) { frames := 1, cells := 0, slots := 0, locals := 20 } none) {b_size : Int32} {b_tooLong : Int32} {size : Int32} {depth : Int32} {named : Int32}  (h : bX0_clear_0  b_size b_tooLong size depth named = some r) : J G X 1 ad 0 0 [ob 0 [.ref (ad 1), .ref (ad 2), .ref (ad 3), .ref (ad 4), .ref (ad 5), .ref (ad 6), .ref (ad 8), .int size, .int depth, .int named], aI G 1500 kinds, aI G 1500 starts, aI G 1500 lengths, aI G 1500 depths, aL G 1500 numbers, ob 2 [.ref (ad 7), .int b_size, .int b_tooLong], aB G 5000 b_cells, aI G 30 openKinds] [(0, .ref (ad 0))] 0 [] := by
  unfold bX0_clear_0 at h
  refine jv_aload_n B dX0_clear_0 rfl ?_
  refine jv_iconst (v := 0) B dX0_clear_1 (by decide) ?_
  refine jv_put (fs' := [_, _, _, _, _, _, _, _, _, _]) (ws' := [_, _, _, _, _, _, _, _, _]) B kX0 7 (by decide) wf_X0_40 rfl rfl rfl rfl (Nat.le_of_ble_eq_true rfl) rfl rfl dX0_clear_2 ?_
  refine jv_aload_n B dX0_clear_5 rfl ?_
  refine jv_iconst (v := 0) B dX0_clear_6 (by decide) ?_
  refine jv_put (fs' := [_, _, _, _, _, _, _, _, _, _]) (ws' := [_, _, _, _, _, _, _, _, _]) B kX0 8 (by decide) wf_X0_47 rfl rfl rfl rfl (Nat.le_of_ble_eq_true rfl) rfl rfl dX0_clear_7 ?_
  refine jv_aload_n B dX0_clear_10 rfl ?_
  refine jv_iconst (v := 0) B dX0_clear_11 (by decide) ?_
  refine jv_put (fs' := [_, _, _, _, _, _, _, _, _, _]) (ws' := [_, _, _, _, _, _, _, _, _]) B kX0 9 (by decide) wf_X0_50 rfl rfl rfl rfl (Nat.le_of_ble_eq_true rfl) rfl rfl dX0_clear_12 ?_
  refine jv_aload_n B dX0_clear_15 rfl ?_
  refine jv_get B kX0 5 (by decide) wf_X0_33 rfl rfl dX0_clear_16 ?_
  obtain ⟨v2, hv2, h⟩ := dc_b h
  refine jv_callV (ws' := [_, _, _, _, _, _, ob 2 [.ref (ad 7), _, _], _, _]) B jyX2_clear jiX2_clear wm_X0_54 [6, 7] (qX2_clear _ G _ hv2) ⟨⟨by decide, by decide⟩, by decide, by decide⟩ rfl rfl rfl rfl rfl (by decide) rfl rfl rfl (Nat.le_of_ble_eq_true rfl) dX0_clear_19 ?_
  obtain rfl := Option.some.inj h
  exact jv_vret B E ⟨rfl, rfl⟩ ⟨by decide, by decide⟩ dX0_clear_22
set_option maxRecDepth 100000 in
set_option maxHeartbeats 4000000 in
theorem qX0_clear (l : Launch) (G : jG) (ad : Nat → Nat) {kinds : Nat → Int32} {starts : Nat → Int32} {lengths : Nat → Int32} {depths : Nat → Int32} {numbers : Nat → Int64} {b_cells : Nat → Int32} {b_size : Int32} {b_tooLong : Int32} {openKinds : Nat → Int32} {size : Int32} {depth : Int32} {named : Int32}  {r : (Int32) × (Int32) × (Int32) × (Int32) × (Int32)} (h : fX0_clear b_size b_tooLong size depth named = some r) : CT l G yX0_clear cX0_clear 1 none { frames := 1, cells := 0, slots := 0, locals := 20 } ad [.ref (ad 0)] [ob 0 [.ref (ad 1), .ref (ad 2), .ref (ad 3), .ref (ad 4), .ref (ad 5), .ref (ad 6), .ref (ad 8), .int size, .int depth, .int named], aI G 1500 kinds, aI G 1500 starts, aI G 1500 lengths, aI G 1500 depths, aL G 1500 numbers, ob 2 [.ref (ad 7), .int b_size, .int b_tooLong], aB G 5000 b_cells, aI G 30 openKinds] 0 (pd ad none [ob 0 [.ref (ad 1), .ref (ad 2), .ref (ad 3), .ref (ad 4), .ref (ad 5), .ref (ad 6), .ref (ad 8), .int r.2.2.1, .int r.2.2.2.1, .int r.2.2.2.2], aI G 1500 kinds, aI G 1500 starts, aI G 1500 lengths, aI G 1500 depths, aL G 1500 numbers, ob 2 [.ref (ad 7), .int r.1, .int r.2.1], aB G 5000 b_cells, aI G 30 openKinds]) :=
  CT.of jyX0_clear (Nat.le_of_ble_eq_true rfl) (fun X B E _ _ => tX0_clear_0 B E h)
def bX0_has_0  (size : Int32) (p0 : Int32) : Option (Int32) :=
  (if p0 < 0 then some (0) else (if size ≤ p0 then some (0) else (if 1500 ≤ p0 then some (0) else some (1))))
def fX0_has (size : Int32) (p0 : Int32) : Option (Int32) := bX0_has_0 size p0
set_option maxRecDepth 100000 in
set_option maxHeartbeats 4000000 in
theorem tX0_has_0 {G : jG} {X : jX} {ad : Nat → Nat} {r : Int32} {kinds : Nat → Int32} {starts : Nat → Int32} {lengths : Nat → Int32} {depths : Nat → Int32} {numbers : Nat → Int64} {b_cells : Nat → Int32} {b_size : Int32} {b_tooLong : Int32} {openKinds : Nat → Int32} {size : Int32} {depth : Int32} {named : Int32} (B : jB G X cX0_has 2 RX0 { frames := 0, cells := 0, slots := 0, locals := 0 }) (E : jR G X (pd ad (some (.int r)) [ob 0 [.ref (ad 1), .ref (ad 2), .ref (ad 3), .ref (ad 4), .ref (ad 5), .ref (ad 6), .ref (ad 8), .int size, .int depth, .int named], aI G 1500 kinds, aI G 1500 starts, aI G 1500 lengths, aI G 1500 depths, aL G 1500 numbers, ob 2 [.ref (ad 7), .int b_size, .int b_tooLong], aB G 5000 b_cells, aI G 30 openKinds]) { frames := 0, cells := 0, slots := 0, locals := 0 } (some .boolean))  {p0 : Int32} (h : bX0_has_0  size p0 = some r) : J G X 2 ad 0 0 [ob 0 [.ref (ad 1), .ref (ad 2), .ref (ad 3), .ref (ad 4), .ref (ad 5), .ref (ad 6), .ref (ad 8), .int size, .int depth, .int named], aI G 1500 kinds, aI G 1500 starts, aI G 1500 lengths, aI G 1500 depths, aL G 1500 numbers, ob 2 [.ref (ad 7), .int b_size, .int b_tooLong], aB G 5000 b_cells, aI G 30 openKinds] [(0, .ref (ad 0)), (1, .int p0)] 0 [] := by
  unfold bX0_has_0 at h
  refine jv_iload_n B dX0_has_0 rfl ?_
  refine jv_if_lt (tgt := 23) B dX0_has_1 (by decide) (fun c1 => ?_) (fun c1 => ?_)
  · replace h := dc_t c1 h
    refine jv_iconst (v := 0) B dX0_has_23 (by decide) ?_
    obtain rfl := Option.some.inj h
    exact jv_zret B E (Or.inl rfl) ⟨rfl, rfl⟩ ⟨by decide, by decide⟩ dX0_has_24
  · replace h := dc_f c1 h
    refine jv_iload_n B dX0_has_4 rfl ?_
    refine jv_aload_n B dX0_has_5 rfl ?_
    refine jv_get B kX0 7 (by decide) wf_X0_40 rfl rfl dX0_has_6 ?_
    refine jv_icmp_ge (tgt := 23) B dX0_has_9 (by decide) (fun c9 => ?_) (fun c9 => ?_)
    · replace h := dc_t c9 h
      refine jv_iconst (v := 0) B dX0_has_23 (by decide) ?_
      obtain rfl := Option.some.inj h
      exact jv_zret B E (Or.inl rfl) ⟨rfl, rfl⟩ ⟨by decide, by decide⟩ dX0_has_24
    · replace h := dc_f c9 h
      refine jv_iload_n B dX0_has_12 rfl ?_
      refine jv_sipush (v := 1500) B dX0_has_13 (by decide) ?_
      refine jv_icmp_ge (tgt := 23) B dX0_has_16 (by decide) (fun c16 => ?_) (fun c16 => ?_)
      · replace h := dc_t c16 h
        refine jv_iconst (v := 0) B dX0_has_23 (by decide) ?_
        obtain rfl := Option.some.inj h
        exact jv_zret B E (Or.inl rfl) ⟨rfl, rfl⟩ ⟨by decide, by decide⟩ dX0_has_24
      · replace h := dc_f c16 h
        refine jv_iconst (v := 1) B dX0_has_19 (by decide) ?_
        refine jv_goto (tgt := 24) B dX0_has_20 (by decide) ?_
        obtain rfl := Option.some.inj h
        exact jv_zret B E (Or.inr rfl) ⟨rfl, rfl⟩ ⟨by decide, by decide⟩ dX0_has_24
set_option maxRecDepth 100000 in
set_option maxHeartbeats 4000000 in
theorem qX0_has (l : Launch) (G : jG) (ad : Nat → Nat) {kinds : Nat → Int32} {starts : Nat → Int32} {lengths : Nat → Int32} {depths : Nat → Int32} {numbers : Nat → Int64} {b_cells : Nat → Int32} {b_size : Int32} {b_tooLong : Int32} {openKinds : Nat → Int32} {size : Int32} {depth : Int32} {named : Int32} {p0 : Int32} {r : Int32} (h : fX0_has size p0 = some r) : CT l G yX0_has cX0_has 2 (some .boolean) { frames := 0, cells := 0, slots := 0, locals := 0 } ad [.ref (ad 0), .int p0] [ob 0 [.ref (ad 1), .ref (ad 2), .ref (ad 3), .ref (ad 4), .ref (ad 5), .ref (ad 6), .ref (ad 8), .int size, .int depth, .int named], aI G 1500 kinds, aI G 1500 starts, aI G 1500 lengths, aI G 1500 depths, aL G 1500 numbers, ob 2 [.ref (ad 7), .int b_size, .int b_tooLong], aB G 5000 b_cells, aI G 30 openKinds] 0 (pd ad (some (.int r)) [ob 0 [.ref (ad 1), .ref (ad 2), .ref (ad 3), .ref (ad 4), .ref (ad 5), .ref (ad 6), .ref (ad 8), .int size, .int depth, .int named], aI G 1500 kinds, aI G 1500 starts, aI G 1500 lengths, aI G 1500 depths, aL G 1500 numbers, ob 2 [.ref (ad 7), .int b_size, .int b_tooLong], aB G 5000 b_cells, aI G 30 openKinds]) :=
  CT.of jyX0_has (Nat.le_of_ble_eq_true rfl) (fun X B E _ _ => tX0_has_0 B E h)
def bX0_kindOf_0  (kinds : Nat → Int32) (size : Int32) (p0 : Int32) : Option (Int32) :=
  ((fX0_has size p0).bind fun v2 => (if v2 = 0 then some ((-1)) else (if ix p0 1500 then some ((kinds (Int32.toNatClampNeg p0))) else none)))
def fX0_kindOf (kinds : Nat → Int32) (size : Int32) (p0 : Int32) : Option (Int32) := bX0_kindOf_0 kinds size p0
set_option maxRecDepth 100000 in
set_option maxHeartbeats 4000000 in
theorem tX0_kindOf_0 {G : jG} {X : jX} {ad : Nat → Nat} {r : Int32} {kinds : Nat → Int32} {starts : Nat → Int32} {lengths : Nat → Int32} {depths : Nat → Int32} {numbers : Nat → Int64} {b_cells : Nat → Int32} {b_size : Int32} {b_tooLong : Int32} {openKinds : Nat → Int32} {size : Int32} {depth : Int32} {named : Int32} (B : jB G X cX0_kindOf 2 RX0 { frames := 1, cells := 0, slots := 0, locals := 21 }) (E : jR G X (pd ad (some (.int r)) [ob 0 [.ref (ad 1), .ref (ad 2), .ref (ad 3), .ref (ad 4), .ref (ad 5), .ref (ad 6), .ref (ad 8), .int size, .int depth, .int named], aI G 1500 kinds, aI G 1500 starts, aI G 1500 lengths, aI G 1500 depths, aL G 1500 numbers, ob 2 [.ref (ad 7), .int b_size, .int b_tooLong], aB G 5000 b_cells, aI G 30 openKinds]) { frames := 1, cells := 0, slots := 0, locals := 21 } (some .int))  {p0 : Int32} (h : bX0_kindOf_0  kinds size p0 = some r) : J G X 2 ad 0 0 [ob 0 [.ref (ad 1), .ref (ad 2), .ref (ad 3), .ref (ad 4), .ref (ad 5), .ref (ad 6), .ref (ad 8), .int size, .int depth, .int named], aI G 1500 kinds, aI G 1500 starts, aI G 1500 lengths, aI G 1500 depths, aL G 1500 numbers, ob 2 [.ref (ad 7), .int b_size, .int b_tooLong], aB G 5000 b_cells, aI G 30 openKinds] [(0, .ref (ad 0)), (1, .int p0)] 0 [] := by
  unfold bX0_kindOf_0 at h
  refine jv_aload_n B dX0_kindOf_0 rfl ?_
  refine jv_iload_n B dX0_kindOf_1 rfl ?_
  obtain ⟨v2, hv2, h⟩ := dc_b h
  refine jv_callV0 B jyX0_has jiX0_has wm_X0_78 (qX0_has _ G _ hv2) ⟨⟨by decide, by decide⟩, by decide, by decide⟩ rfl rfl rfl rfl rfl (Nat.le_of_ble_eq_true rfl) dX0_kindOf_2 ?_
  refine jv_if_eq (tgt := 17) B dX0_kindOf_5 (by decide) (fun c5 => ?_) (fun c5 => ?_)
  · replace h := dc_t c5 h
    refine jv_iconst (v := (-1)) B dX0_kindOf_17 (by decide) ?_
    obtain rfl := Option.some.inj h
    exact jv_iret B E ⟨rfl, rfl⟩ ⟨by decide, by decide⟩ dX0_kindOf_18
  · replace h := dc_f c5 h
    refine jv_aload_n B dX0_kindOf_8 rfl ?_
    refine jv_get B kX0 0 (by decide) wf_X0_9 rfl rfl dX0_kindOf_9 ?_
    refine jv_iload_n B dX0_kindOf_12 rfl ?_
    obtain ⟨g13, h⟩ := dc_if h
    refine jx_iald B rfl g13 dX0_kindOf_13 ?_
    refine jv_goto (tgt := 18) B dX0_kindOf_14 (by decide) ?_
    obtain rfl := Option.some.inj h
    exact jv_iret B E ⟨rfl, rfl⟩ ⟨by decide, by decide⟩ dX0_kindOf_18
set_option maxRecDepth 100000 in
set_option maxHeartbeats 4000000 in
theorem qX0_kindOf (l : Launch) (G : jG) (ad : Nat → Nat) {kinds : Nat → Int32} {starts : Nat → Int32} {lengths : Nat → Int32} {depths : Nat → Int32} {numbers : Nat → Int64} {b_cells : Nat → Int32} {b_size : Int32} {b_tooLong : Int32} {openKinds : Nat → Int32} {size : Int32} {depth : Int32} {named : Int32} {p0 : Int32} {r : Int32} (h : fX0_kindOf kinds size p0 = some r) : CT l G yX0_kindOf cX0_kindOf 2 (some .int) { frames := 1, cells := 0, slots := 0, locals := 21 } ad [.ref (ad 0), .int p0] [ob 0 [.ref (ad 1), .ref (ad 2), .ref (ad 3), .ref (ad 4), .ref (ad 5), .ref (ad 6), .ref (ad 8), .int size, .int depth, .int named], aI G 1500 kinds, aI G 1500 starts, aI G 1500 lengths, aI G 1500 depths, aL G 1500 numbers, ob 2 [.ref (ad 7), .int b_size, .int b_tooLong], aB G 5000 b_cells, aI G 30 openKinds] 0 (pd ad (some (.int r)) [ob 0 [.ref (ad 1), .ref (ad 2), .ref (ad 3), .ref (ad 4), .ref (ad 5), .ref (ad 6), .ref (ad 8), .int size, .int depth, .int named], aI G 1500 kinds, aI G 1500 starts, aI G 1500 lengths, aI G 1500 depths, aL G 1500 numbers, ob 2 [.ref (ad 7), .int b_size, .int b_tooLong], aB G 5000 b_cells, aI G 30 openKinds]) :=
  CT.of jyX0_kindOf (Nat.le_of_ble_eq_true rfl) (fun X B E _ _ => tX0_kindOf_0 B E h)
def bX0_lengthOf_0  (lengths : Nat → Int32) (size : Int32) (p0 : Int32) : Option (Int32) :=
  ((fX0_has size p0).bind fun v2 => (if v2 = 0 then some ((-1)) else (if ix p0 1500 then some ((lengths (Int32.toNatClampNeg p0))) else none)))
def fX0_lengthOf (lengths : Nat → Int32) (size : Int32) (p0 : Int32) : Option (Int32) := bX0_lengthOf_0 lengths size p0
set_option maxRecDepth 100000 in
set_option maxHeartbeats 4000000 in
theorem tX0_lengthOf_0 {G : jG} {X : jX} {ad : Nat → Nat} {r : Int32} {kinds : Nat → Int32} {starts : Nat → Int32} {lengths : Nat → Int32} {depths : Nat → Int32} {numbers : Nat → Int64} {b_cells : Nat → Int32} {b_size : Int32} {b_tooLong : Int32} {openKinds : Nat → Int32} {size : Int32} {depth : Int32} {named : Int32} (B : jB G X cX0_lengthOf 2 RX0 { frames := 1, cells := 0, slots := 0, locals := 21 }) (E : jR G X (pd ad (some (.int r)) [ob 0 [.ref (ad 1), .ref (ad 2), .ref (ad 3), .ref (ad 4), .ref (ad 5), .ref (ad 6), .ref (ad 8), .int size, .int depth, .int named], aI G 1500 kinds, aI G 1500 starts, aI G 1500 lengths, aI G 1500 depths, aL G 1500 numbers, ob 2 [.ref (ad 7), .int b_size, .int b_tooLong], aB G 5000 b_cells, aI G 30 openKinds]) { frames := 1, cells := 0, slots := 0, locals := 21 } (some .int))  {p0 : Int32} (h : bX0_lengthOf_0  lengths size p0 = some r) : J G X 2 ad 0 0 [ob 0 [.ref (ad 1), .ref (ad 2), .ref (ad 3), .ref (ad 4), .ref (ad 5), .ref (ad 6), .ref (ad 8), .int size, .int depth, .int named], aI G 1500 kinds, aI G 1500 starts, aI G 1500 lengths, aI G 1500 depths, aL G 1500 numbers, ob 2 [.ref (ad 7), .int b_size, .int b_tooLong], aB G 5000 b_cells, aI G 30 openKinds] [(0, .ref (ad 0)), (1, .int p0)] 0 [] := by
  unfold bX0_lengthOf_0 at h
  refine jv_aload_n B dX0_lengthOf_0 rfl ?_
  refine jv_iload_n B dX0_lengthOf_1 rfl ?_
  obtain ⟨v2, hv2, h⟩ := dc_b h
  refine jv_callV0 B jyX0_has jiX0_has wm_X0_78 (qX0_has _ G _ hv2) ⟨⟨by decide, by decide⟩, by decide, by decide⟩ rfl rfl rfl rfl rfl (Nat.le_of_ble_eq_true rfl) dX0_lengthOf_2 ?_
  refine jv_if_eq (tgt := 17) B dX0_lengthOf_5 (by decide) (fun c5 => ?_) (fun c5 => ?_)
  · replace h := dc_t c5 h
    refine jv_iconst (v := (-1)) B dX0_lengthOf_17 (by decide) ?_
    obtain rfl := Option.some.inj h
    exact jv_iret B E ⟨rfl, rfl⟩ ⟨by decide, by decide⟩ dX0_lengthOf_18
  · replace h := dc_f c5 h
    refine jv_aload_n B dX0_lengthOf_8 rfl ?_
    refine jv_get B kX0 2 (by decide) wf_X0_18 rfl rfl dX0_lengthOf_9 ?_
    refine jv_iload_n B dX0_lengthOf_12 rfl ?_
    obtain ⟨g13, h⟩ := dc_if h
    refine jx_iald B rfl g13 dX0_lengthOf_13 ?_
    refine jv_goto (tgt := 18) B dX0_lengthOf_14 (by decide) ?_
    obtain rfl := Option.some.inj h
    exact jv_iret B E ⟨rfl, rfl⟩ ⟨by decide, by decide⟩ dX0_lengthOf_18
set_option maxRecDepth 100000 in
set_option maxHeartbeats 4000000 in
theorem qX0_lengthOf (l : Launch) (G : jG) (ad : Nat → Nat) {kinds : Nat → Int32} {starts : Nat → Int32} {lengths : Nat → Int32} {depths : Nat → Int32} {numbers : Nat → Int64} {b_cells : Nat → Int32} {b_size : Int32} {b_tooLong : Int32} {openKinds : Nat → Int32} {size : Int32} {depth : Int32} {named : Int32} {p0 : Int32} {r : Int32} (h : fX0_lengthOf lengths size p0 = some r) : CT l G yX0_lengthOf cX0_lengthOf 2 (some .int) { frames := 1, cells := 0, slots := 0, locals := 21 } ad [.ref (ad 0), .int p0] [ob 0 [.ref (ad 1), .ref (ad 2), .ref (ad 3), .ref (ad 4), .ref (ad 5), .ref (ad 6), .ref (ad 8), .int size, .int depth, .int named], aI G 1500 kinds, aI G 1500 starts, aI G 1500 lengths, aI G 1500 depths, aL G 1500 numbers, ob 2 [.ref (ad 7), .int b_size, .int b_tooLong], aB G 5000 b_cells, aI G 30 openKinds] 0 (pd ad (some (.int r)) [ob 0 [.ref (ad 1), .ref (ad 2), .ref (ad 3), .ref (ad 4), .ref (ad 5), .ref (ad 6), .ref (ad 8), .int size, .int depth, .int named], aI G 1500 kinds, aI G 1500 starts, aI G 1500 lengths, aI G 1500 depths, aL G 1500 numbers, ob 2 [.ref (ad 7), .int b_size, .int b_tooLong], aB G 5000 b_cells, aI G 30 openKinds]) :=
  CT.of jyX0_lengthOf (Nat.le_of_ble_eq_true rfl) (fun X B E _ _ => tX0_lengthOf_0 B E h)
def bX0_isAscii_0  (starts : Nat → Int32) (lengths : Nat → Int32) (b_cells : Nat → Int32) (b_size : Int32) (size : Int32) (p0 : Int32) : Option (Int32) :=
  ((fX0_has size p0).bind fun v3 => (if v3 = 0 then some (0) else (if ix p0 1500 then (if ix p0 1500 then ((fX4_isAscii 5000 b_cells b_size (starts (Int32.toNatClampNeg p0)) (lengths (Int32.toNatClampNeg p0))).bind fun v4 => (if v4 = 0 then some (0) else some (1))) else none) else none)))
def fX0_isAscii (starts : Nat → Int32) (lengths : Nat → Int32) (b_cells : Nat → Int32) (b_size : Int32) (size : Int32) (p0 : Int32) : Option (Int32) := bX0_isAscii_0 starts lengths b_cells b_size size p0
set_option maxRecDepth 100000 in
set_option maxHeartbeats 4000000 in
theorem tX0_isAscii_0 {G : jG} {X : jX} {ad : Nat → Nat} {r : Int32} {kinds : Nat → Int32} {starts : Nat → Int32} {lengths : Nat → Int32} {depths : Nat → Int32} {numbers : Nat → Int64} {b_cells : Nat → Int32} {b_size : Int32} {b_tooLong : Int32} {openKinds : Nat → Int32} {size : Int32} {depth : Int32} {named : Int32} (B : jB G X cX0_isAscii 2 RX0 { frames := 2, cells := 0, slots := 0, locals := 45 }) (E : jR G X (pd ad (some (.int r)) [ob 0 [.ref (ad 1), .ref (ad 2), .ref (ad 3), .ref (ad 4), .ref (ad 5), .ref (ad 6), .ref (ad 8), .int size, .int depth, .int named], aI G 1500 kinds, aI G 1500 starts, aI G 1500 lengths, aI G 1500 depths, aL G 1500 numbers, ob 2 [.ref (ad 7), .int b_size, .int b_tooLong], aB G 5000 b_cells, aI G 30 openKinds]) { frames := 2, cells := 0, slots := 0, locals := 45 } (some .boolean))  {p0 : Int32} (h : bX0_isAscii_0  starts lengths b_cells b_size size p0 = some r) : J G X 2 ad 0 0 [ob 0 [.ref (ad 1), .ref (ad 2), .ref (ad 3), .ref (ad 4), .ref (ad 5), .ref (ad 6), .ref (ad 8), .int size, .int depth, .int named], aI G 1500 kinds, aI G 1500 starts, aI G 1500 lengths, aI G 1500 depths, aL G 1500 numbers, ob 2 [.ref (ad 7), .int b_size, .int b_tooLong], aB G 5000 b_cells, aI G 30 openKinds] [(0, .ref (ad 0)), (1, .int p0)] 0 [] := by
  unfold bX0_isAscii_0 at h
  refine jv_aload_n B dX0_isAscii_0 rfl ?_
  refine jv_iload_n B dX0_isAscii_1 rfl ?_
  obtain ⟨v3, hv3, h⟩ := dc_b h
  refine jv_callV0 B jyX0_has jiX0_has wm_X0_78 (qX0_has _ G _ hv3) ⟨⟨by decide, by decide⟩, by decide, by decide⟩ rfl rfl rfl rfl rfl (Nat.le_of_ble_eq_true rfl) dX0_isAscii_2 ?_
  refine jv_if_eq (tgt := 34) B dX0_isAscii_5 (by decide) (fun c5 => ?_) (fun c5 => ?_)
  · replace h := dc_t c5 h
    refine jv_iconst (v := 0) B dX0_isAscii_34 (by decide) ?_
    obtain rfl := Option.some.inj h
    exact jv_zret B E (Or.inl rfl) ⟨rfl, rfl⟩ ⟨by decide, by decide⟩ dX0_isAscii_35
  · replace h := dc_f c5 h
    refine jv_aload_n B dX0_isAscii_8 rfl ?_
    refine jv_get B kX0 5 (by decide) wf_X0_33 rfl rfl dX0_isAscii_9 ?_
    refine jv_aload_n B dX0_isAscii_12 rfl ?_
    refine jv_get B kX0 1 (by decide) wf_X0_15 rfl rfl dX0_isAscii_13 ?_
    refine jv_iload_n B dX0_isAscii_16 rfl ?_
    obtain ⟨g17, h⟩ := dc_if h
    refine jx_iald B rfl g17 dX0_isAscii_17 ?_
    refine jv_aload_n B dX0_isAscii_18 rfl ?_
    refine jv_get B kX0 2 (by decide) wf_X0_18 rfl rfl dX0_isAscii_19 ?_
    refine jv_iload_n B dX0_isAscii_22 rfl ?_
    obtain ⟨g23, h⟩ := dc_if h
    refine jx_iald B rfl g23 dX0_isAscii_23 ?_
    obtain ⟨v4, hv4, h⟩ := dc_b h
    refine jv_callS (ws' := [_, _, _, _, _, _, ob 2 [.ref (ad 7), _, _], _, _]) B jyX4_isAscii jtX4_isAscii wm_X0_85 [6, 7] (qX4_isAscii _ G _ hv4) ⟨⟨by decide, by decide⟩, by decide, by decide⟩ rfl rfl (by decide) rfl rfl rfl (Nat.le_of_ble_eq_true rfl) dX0_isAscii_24 ?_
    refine jv_if_eq (tgt := 34) B dX0_isAscii_27 (by decide) (fun c27 => ?_) (fun c27 => ?_)
    · replace h := dc_t c27 h
      refine jv_iconst (v := 0) B dX0_isAscii_34 (by decide) ?_
      obtain rfl := Option.some.inj h
      exact jv_zret B E (Or.inl rfl) ⟨rfl, rfl⟩ ⟨by decide, by decide⟩ dX0_isAscii_35
    · replace h := dc_f c27 h
      refine jv_iconst (v := 1) B dX0_isAscii_30 (by decide) ?_
      refine jv_goto (tgt := 35) B dX0_isAscii_31 (by decide) ?_
      obtain rfl := Option.some.inj h
      exact jv_zret B E (Or.inr rfl) ⟨rfl, rfl⟩ ⟨by decide, by decide⟩ dX0_isAscii_35
set_option maxRecDepth 100000 in
set_option maxHeartbeats 4000000 in
theorem qX0_isAscii (l : Launch) (G : jG) (ad : Nat → Nat) {kinds : Nat → Int32} {starts : Nat → Int32} {lengths : Nat → Int32} {depths : Nat → Int32} {numbers : Nat → Int64} {b_cells : Nat → Int32} {b_size : Int32} {b_tooLong : Int32} {openKinds : Nat → Int32} {size : Int32} {depth : Int32} {named : Int32} {p0 : Int32} {r : Int32} (h : fX0_isAscii starts lengths b_cells b_size size p0 = some r) : CT l G yX0_isAscii cX0_isAscii 2 (some .boolean) { frames := 2, cells := 0, slots := 0, locals := 45 } ad [.ref (ad 0), .int p0] [ob 0 [.ref (ad 1), .ref (ad 2), .ref (ad 3), .ref (ad 4), .ref (ad 5), .ref (ad 6), .ref (ad 8), .int size, .int depth, .int named], aI G 1500 kinds, aI G 1500 starts, aI G 1500 lengths, aI G 1500 depths, aL G 1500 numbers, ob 2 [.ref (ad 7), .int b_size, .int b_tooLong], aB G 5000 b_cells, aI G 30 openKinds] 0 (pd ad (some (.int r)) [ob 0 [.ref (ad 1), .ref (ad 2), .ref (ad 3), .ref (ad 4), .ref (ad 5), .ref (ad 6), .ref (ad 8), .int size, .int depth, .int named], aI G 1500 kinds, aI G 1500 starts, aI G 1500 lengths, aI G 1500 depths, aL G 1500 numbers, ob 2 [.ref (ad 7), .int b_size, .int b_tooLong], aB G 5000 b_cells, aI G 30 openKinds]) :=
  CT.of jyX0_isAscii (Nat.le_of_ble_eq_true rfl) (fun X B E _ _ => tX0_isAscii_0 B E h)
def bX0_mixOf_12  : Nat → (Nat → Int32) → (Nat → Int32) → (Nat → Int32) → Int32 → Int32 → Int32 → Int32 → Int32 → Option (Int32)
  | 0, _, _, _, _, _, _, _, _ => none
  | nn + 1, starts, lengths, b_cells, b_size, size, x1, x2, x3 =>
    (if ix x1 1500 then (if (lengths (Int32.toNatClampNeg x1)) ≤ x3 then some (x2) else (if ix x1 1500 then ((fX2_at 5000 b_cells b_size ((starts (Int32.toNatClampNeg x1)) + x3)).bind fun v3 => bX0_mixOf_12  nn starts lengths b_cells b_size size x1 (((x2 * 31) + v3) + 1) (x3 + 1)) else none)) else none)
def bX0_mixOf_0  (starts : Nat → Int32) (lengths : Nat → Int32) (b_cells : Nat → Int32) (b_size : Int32) (size : Int32) (p0 : Int32) : Option (Int32) :=
  ((fX0_has size p0).bind fun v4 => (if v4 = 0 then some (0) else bX0_mixOf_12  FU starts lengths b_cells b_size size p0 0 0))
def fX0_mixOf (starts : Nat → Int32) (lengths : Nat → Int32) (b_cells : Nat → Int32) (b_size : Int32) (size : Int32) (p0 : Int32) : Option (Int32) := bX0_mixOf_0 starts lengths b_cells b_size size p0
set_option maxRecDepth 100000 in
set_option maxHeartbeats 4000000 in
theorem tX0_mixOf_12 {G : jG} {X : jX} {ad : Nat → Nat} {r : Int32} {kinds : Nat → Int32} {starts : Nat → Int32} {lengths : Nat → Int32} {depths : Nat → Int32} {numbers : Nat → Int64} {b_cells : Nat → Int32} {b_size : Int32} {b_tooLong : Int32} {openKinds : Nat → Int32} {size : Int32} {depth : Int32} {named : Int32} (B : jB G X cX0_mixOf 4 RX0 { frames := 1, cells := 0, slots := 0, locals := 21 }) (E : jR G X (pd ad (some (.int r)) [ob 0 [.ref (ad 1), .ref (ad 2), .ref (ad 3), .ref (ad 4), .ref (ad 5), .ref (ad 6), .ref (ad 8), .int size, .int depth, .int named], aI G 1500 kinds, aI G 1500 starts, aI G 1500 lengths, aI G 1500 depths, aL G 1500 numbers, ob 2 [.ref (ad 7), .int b_size, .int b_tooLong], aB G 5000 b_cells, aI G 30 openKinds]) { frames := 1, cells := 0, slots := 0, locals := 21 } (some .int)) : ∀ (nn : Nat)  (x1 : Int32) (x2 : Int32) (x3 : Int32), bX0_mixOf_12  nn starts lengths b_cells b_size size x1 x2 x3 = some r → J G X 4 ad 0 0 [ob 0 [.ref (ad 1), .ref (ad 2), .ref (ad 3), .ref (ad 4), .ref (ad 5), .ref (ad 6), .ref (ad 8), .int size, .int depth, .int named], aI G 1500 kinds, aI G 1500 starts, aI G 1500 lengths, aI G 1500 depths, aL G 1500 numbers, ob 2 [.ref (ad 7), .int b_size, .int b_tooLong], aB G 5000 b_cells, aI G 30 openKinds] [(0, .ref (ad 0)), (1, .int x1), (2, .int x2), (3, .int x3)] 12 [] := by
  intro nn
  induction nn with
  | zero => intro x1 x2 x3 h; cases h
  | succ nn ih =>
    intro x1 x2 x3 h
    unfold bX0_mixOf_12 at h
    refine jv_iload_n B dX0_mixOf_12 rfl ?_
    refine jv_aload_n B dX0_mixOf_13 rfl ?_
    refine jv_get B kX0 2 (by decide) wf_X0_18 rfl rfl dX0_mixOf_14 ?_
    refine jv_iload_n B dX0_mixOf_17 rfl ?_
    obtain ⟨g18, h⟩ := dc_if h
    refine jx_iald B rfl g18 dX0_mixOf_18 ?_
    refine jv_icmp_ge (tgt := 51) B dX0_mixOf_19 (by decide) (fun c19 => ?_) (fun c19 => ?_)
    · replace h := dc_t c19 h
      refine jv_iload_n B dX0_mixOf_51 rfl ?_
      obtain rfl := Option.some.inj h
      exact jv_iret B E ⟨rfl, rfl⟩ ⟨by decide, by decide⟩ dX0_mixOf_52
    · replace h := dc_f c19 h
      refine jv_iload_n B dX0_mixOf_22 rfl ?_
      refine jv_bipush (v := 31) B dX0_mixOf_23 (by decide) ?_
      refine jv_imul B dX0_mixOf_25 ?_
      refine jv_aload_n B dX0_mixOf_26 rfl ?_
      refine jv_get B kX0 5 (by decide) wf_X0_33 rfl rfl dX0_mixOf_27 ?_
      refine jv_aload_n B dX0_mixOf_30 rfl ?_
      refine jv_get B kX0 1 (by decide) wf_X0_15 rfl rfl dX0_mixOf_31 ?_
      refine jv_iload_n B dX0_mixOf_34 rfl ?_
      obtain ⟨g35, h⟩ := dc_if h
      refine jx_iald B rfl g35 dX0_mixOf_35 ?_
      refine jv_iload_n B dX0_mixOf_36 rfl ?_
      refine jv_iadd B dX0_mixOf_37 ?_
      obtain ⟨v3, hv3, h⟩ := dc_b h
      refine jv_callV (ws' := [_, _, _, _, _, _, ob 2 [.ref (ad 7), _, _], _, _]) B jyX2_at jiX2_at wm_X0_71 [6, 7] (qX2_at _ G _ hv3) ⟨⟨by decide, by decide⟩, by decide, by decide⟩ rfl rfl rfl rfl rfl (by decide) rfl rfl rfl (Nat.le_of_ble_eq_true rfl) dX0_mixOf_38 ?_
      refine jv_iadd B dX0_mixOf_41 ?_
      refine jv_iconst (v := 1) B dX0_mixOf_42 (by decide) ?_
      refine jv_iadd B dX0_mixOf_43 ?_
      refine jv_istore_n (lv' := [(0, _), (1, _), (2, _), (3, _)]) B dX0_mixOf_44 (by decide) (lvi_cons rfl (lvi_cons rfl (lvi_cons rfl (lvi_cons rfl lvi_nil)))) ?_
      refine jv_iinc (v := x3 + 1) (lv' := [(0, _), (1, _), (2, _), (3, _)]) B dX0_mixOf_45 rfl (by rfl) (by decide) (lvi_cons rfl (lvi_cons rfl (lvi_cons rfl (lvi_cons rfl lvi_nil)))) ?_
      refine jv_goto (tgt := 12) B dX0_mixOf_48 (by decide) ?_
      exact jv_lv (lv' := [(0, _), (1, _), (2, _), (3, _)]) (lvi_cons rfl (lvi_cons rfl (lvi_cons rfl (lvi_cons rfl lvi_nil)))) (ih _ _ _ h)
set_option maxRecDepth 100000 in
set_option maxHeartbeats 4000000 in
theorem tX0_mixOf_0 {G : jG} {X : jX} {ad : Nat → Nat} {r : Int32} {kinds : Nat → Int32} {starts : Nat → Int32} {lengths : Nat → Int32} {depths : Nat → Int32} {numbers : Nat → Int64} {b_cells : Nat → Int32} {b_size : Int32} {b_tooLong : Int32} {openKinds : Nat → Int32} {size : Int32} {depth : Int32} {named : Int32} (B : jB G X cX0_mixOf 4 RX0 { frames := 1, cells := 0, slots := 0, locals := 21 }) (E : jR G X (pd ad (some (.int r)) [ob 0 [.ref (ad 1), .ref (ad 2), .ref (ad 3), .ref (ad 4), .ref (ad 5), .ref (ad 6), .ref (ad 8), .int size, .int depth, .int named], aI G 1500 kinds, aI G 1500 starts, aI G 1500 lengths, aI G 1500 depths, aL G 1500 numbers, ob 2 [.ref (ad 7), .int b_size, .int b_tooLong], aB G 5000 b_cells, aI G 30 openKinds]) { frames := 1, cells := 0, slots := 0, locals := 21 } (some .int))  {p0 : Int32} (h : bX0_mixOf_0  starts lengths b_cells b_size size p0 = some r) : J G X 4 ad 0 0 [ob 0 [.ref (ad 1), .ref (ad 2), .ref (ad 3), .ref (ad 4), .ref (ad 5), .ref (ad 6), .ref (ad 8), .int size, .int depth, .int named], aI G 1500 kinds, aI G 1500 starts, aI G 1500 lengths, aI G 1500 depths, aL G 1500 numbers, ob 2 [.ref (ad 7), .int b_size, .int b_tooLong], aB G 5000 b_cells, aI G 30 openKinds] [(0, .ref (ad 0)), (1, .int p0)] 0 [] := by
  unfold bX0_mixOf_0 at h
  refine jv_iconst (v := 0) B dX0_mixOf_0 (by decide) ?_
  refine jv_istore_n (lv' := [(0, _), (1, _), (2, _)]) B dX0_mixOf_1 (by decide) (lvi_cons rfl (lvi_cons rfl (lvi_cons rfl lvi_nil))) ?_
  refine jv_aload_n B dX0_mixOf_2 rfl ?_
  refine jv_iload_n B dX0_mixOf_3 rfl ?_
  obtain ⟨v4, hv4, h⟩ := dc_b h
  refine jv_callV0 B jyX0_has jiX0_has wm_X0_78 (qX0_has _ G _ hv4) ⟨⟨by decide, by decide⟩, by decide, by decide⟩ rfl rfl rfl rfl rfl (Nat.le_of_ble_eq_true rfl) dX0_mixOf_4 ?_
  refine jv_if_eq (tgt := 51) B dX0_mixOf_7 (by decide) (fun c7 => ?_) (fun c7 => ?_)
  · replace h := dc_t c7 h
    refine jv_iload_n B dX0_mixOf_51 rfl ?_
    obtain rfl := Option.some.inj h
    exact jv_iret B E ⟨rfl, rfl⟩ ⟨by decide, by decide⟩ dX0_mixOf_52
  · replace h := dc_f c7 h
    refine jv_iconst (v := 0) B dX0_mixOf_10 (by decide) ?_
    refine jv_istore_n (lv' := [(0, _), (1, _), (2, _), (3, _)]) B dX0_mixOf_11 (by decide) (lvi_cons rfl (lvi_cons rfl (lvi_cons rfl (lvi_cons rfl lvi_nil)))) ?_
    exact jv_lv (lv' := [(0, _), (1, _), (2, _), (3, _)]) (lvi_cons rfl (lvi_cons rfl (lvi_cons rfl (lvi_cons rfl lvi_nil)))) (tX0_mixOf_12 B E  FU _ _ _ h)
set_option maxRecDepth 100000 in
set_option maxHeartbeats 4000000 in
theorem qX0_mixOf (l : Launch) (G : jG) (ad : Nat → Nat) {kinds : Nat → Int32} {starts : Nat → Int32} {lengths : Nat → Int32} {depths : Nat → Int32} {numbers : Nat → Int64} {b_cells : Nat → Int32} {b_size : Int32} {b_tooLong : Int32} {openKinds : Nat → Int32} {size : Int32} {depth : Int32} {named : Int32} {p0 : Int32} {r : Int32} (h : fX0_mixOf starts lengths b_cells b_size size p0 = some r) : CT l G yX0_mixOf cX0_mixOf 4 (some .int) { frames := 1, cells := 0, slots := 0, locals := 21 } ad [.ref (ad 0), .int p0] [ob 0 [.ref (ad 1), .ref (ad 2), .ref (ad 3), .ref (ad 4), .ref (ad 5), .ref (ad 6), .ref (ad 8), .int size, .int depth, .int named], aI G 1500 kinds, aI G 1500 starts, aI G 1500 lengths, aI G 1500 depths, aL G 1500 numbers, ob 2 [.ref (ad 7), .int b_size, .int b_tooLong], aB G 5000 b_cells, aI G 30 openKinds] 0 (pd ad (some (.int r)) [ob 0 [.ref (ad 1), .ref (ad 2), .ref (ad 3), .ref (ad 4), .ref (ad 5), .ref (ad 6), .ref (ad 8), .int size, .int depth, .int named], aI G 1500 kinds, aI G 1500 starts, aI G 1500 lengths, aI G 1500 depths, aL G 1500 numbers, ob 2 [.ref (ad 7), .int b_size, .int b_tooLong], aB G 5000 b_cells, aI G 30 openKinds]) :=
  CT.of jyX0_mixOf (Nat.le_of_ble_eq_true rfl) (fun X B E _ _ => tX0_mixOf_0 B E h)
def bX0_haveSameText_35  : Nat → (Nat → Int32) → (Nat → Int32) → (Nat → Int32) → Int32 → Int32 → Int32 → Int32 → Int32 → Option (Int32)
  | 0, _, _, _, _, _, _, _, _ => none
  | nn + 1, starts, lengths, b_cells, b_size, size, x1, x2, x3 =>
    (if ix x1 1500 then (if (lengths (Int32.toNatClampNeg x1)) ≤ x3 then some (1) else (if ix x1 1500 then ((fX2_at 5000 b_cells b_size ((starts (Int32.toNatClampNeg x1)) + x3)).bind fun v5 => (if ix x2 1500 then ((fX2_at 5000 b_cells b_size ((starts (Int32.toNatClampNeg x2)) + x3)).bind fun v6 => (if v5 = v6 then bX0_haveSameText_35  nn starts lengths b_cells b_size size x1 x2 (x3 + 1) else some (0))) else none)) else none)) else none)
def bX0_haveSameText_0  (starts : Nat → Int32) (lengths : Nat → Int32) (b_cells : Nat → Int32) (b_size : Int32) (size : Int32) (p0 : Int32) (p1 : Int32) : Option (Int32) :=
  ((fX0_has size p0).bind fun v7 => (if v7 = 0 then some (0) else ((fX0_has size p1).bind fun v8 => (if v8 = 0 then some (0) else (if ix p0 1500 then (if ix p1 1500 then (if (lengths (Int32.toNatClampNeg p0)) = (lengths (Int32.toNatClampNeg p1)) then bX0_haveSameText_35  FU starts lengths b_cells b_size size p0 p1 0 else some (0)) else none) else none)))))
def fX0_haveSameText (starts : Nat → Int32) (lengths : Nat → Int32) (b_cells : Nat → Int32) (b_size : Int32) (size : Int32) (p0 : Int32) (p1 : Int32) : Option (Int32) := bX0_haveSameText_0 starts lengths b_cells b_size size p0 p1
set_option maxRecDepth 100000 in
set_option maxHeartbeats 4000000 in
theorem tX0_haveSameText_35 {G : jG} {X : jX} {ad : Nat → Nat} {r : Int32} {kinds : Nat → Int32} {starts : Nat → Int32} {lengths : Nat → Int32} {depths : Nat → Int32} {numbers : Nat → Int64} {b_cells : Nat → Int32} {b_size : Int32} {b_tooLong : Int32} {openKinds : Nat → Int32} {size : Int32} {depth : Int32} {named : Int32} (B : jB G X cX0_haveSameText 4 RX0 { frames := 1, cells := 0, slots := 0, locals := 21 }) (E : jR G X (pd ad (some (.int r)) [ob 0 [.ref (ad 1), .ref (ad 2), .ref (ad 3), .ref (ad 4), .ref (ad 5), .ref (ad 6), .ref (ad 8), .int size, .int depth, .int named], aI G 1500 kinds, aI G 1500 starts, aI G 1500 lengths, aI G 1500 depths, aL G 1500 numbers, ob 2 [.ref (ad 7), .int b_size, .int b_tooLong], aB G 5000 b_cells, aI G 30 openKinds]) { frames := 1, cells := 0, slots := 0, locals := 21 } (some .boolean)) : ∀ (nn : Nat)  (x1 : Int32) (x2 : Int32) (x3 : Int32), bX0_haveSameText_35  nn starts lengths b_cells b_size size x1 x2 x3 = some r → J G X 4 ad 0 0 [ob 0 [.ref (ad 1), .ref (ad 2), .ref (ad 3), .ref (ad 4), .ref (ad 5), .ref (ad 6), .ref (ad 8), .int size, .int depth, .int named], aI G 1500 kinds, aI G 1500 starts, aI G 1500 lengths, aI G 1500 depths, aL G 1500 numbers, ob 2 [.ref (ad 7), .int b_size, .int b_tooLong], aB G 5000 b_cells, aI G 30 openKinds] [(0, .ref (ad 0)), (1, .int x1), (2, .int x2), (3, .int x3)] 35 [] := by
  intro nn
  induction nn with
  | zero => intro x1 x2 x3 h; cases h
  | succ nn ih =>
    intro x1 x2 x3 h
    unfold bX0_haveSameText_35 at h
    refine jv_iload_n B dX0_haveSameText_35 rfl ?_
    refine jv_aload_n B dX0_haveSameText_36 rfl ?_
    refine jv_get B kX0 2 (by decide) wf_X0_18 rfl rfl dX0_haveSameText_37 ?_
    refine jv_iload_n B dX0_haveSameText_40 rfl ?_
    obtain ⟨g41, h⟩ := dc_if h
    refine jx_iald B rfl g41 dX0_haveSameText_41 ?_
    refine jv_icmp_ge (tgt := 86) B dX0_haveSameText_42 (by decide) (fun c42 => ?_) (fun c42 => ?_)
    · replace h := dc_t c42 h
      refine jv_iconst (v := 1) B dX0_haveSameText_86 (by decide) ?_
      obtain rfl := Option.some.inj h
      exact jv_zret B E (Or.inr rfl) ⟨rfl, rfl⟩ ⟨by decide, by decide⟩ dX0_haveSameText_87
    · replace h := dc_f c42 h
      refine jv_aload_n B dX0_haveSameText_45 rfl ?_
      refine jv_get B kX0 5 (by decide) wf_X0_33 rfl rfl dX0_haveSameText_46 ?_
      refine jv_aload_n B dX0_haveSameText_49 rfl ?_
      refine jv_get B kX0 1 (by decide) wf_X0_15 rfl rfl dX0_haveSameText_50 ?_
      refine jv_iload_n B dX0_haveSameText_53 rfl ?_
      obtain ⟨g54, h⟩ := dc_if h
      refine jx_iald B rfl g54 dX0_haveSameText_54 ?_
      refine jv_iload_n B dX0_haveSameText_55 rfl ?_
      refine jv_iadd B dX0_haveSameText_56 ?_
      obtain ⟨v5, hv5, h⟩ := dc_b h
      refine jv_callV (ws' := [_, _, _, _, _, _, ob 2 [.ref (ad 7), _, _], _, _]) B jyX2_at jiX2_at wm_X0_71 [6, 7] (qX2_at _ G _ hv5) ⟨⟨by decide, by decide⟩, by decide, by decide⟩ rfl rfl rfl rfl rfl (by decide) rfl rfl rfl (Nat.le_of_ble_eq_true rfl) dX0_haveSameText_57 ?_
      refine jv_aload_n B dX0_haveSameText_60 rfl ?_
      refine jv_get B kX0 5 (by decide) wf_X0_33 rfl rfl dX0_haveSameText_61 ?_
      refine jv_aload_n B dX0_haveSameText_64 rfl ?_
      refine jv_get B kX0 1 (by decide) wf_X0_15 rfl rfl dX0_haveSameText_65 ?_
      refine jv_iload_n B dX0_haveSameText_68 rfl ?_
      obtain ⟨g69, h⟩ := dc_if h
      refine jx_iald B rfl g69 dX0_haveSameText_69 ?_
      refine jv_iload_n B dX0_haveSameText_70 rfl ?_
      refine jv_iadd B dX0_haveSameText_71 ?_
      obtain ⟨v6, hv6, h⟩ := dc_b h
      refine jv_callV (ws' := [_, _, _, _, _, _, ob 2 [.ref (ad 7), _, _], _, _]) B jyX2_at jiX2_at wm_X0_71 [6, 7] (qX2_at _ G _ hv6) ⟨⟨by decide, by decide⟩, by decide, by decide⟩ rfl rfl rfl rfl rfl (by decide) rfl rfl rfl (Nat.le_of_ble_eq_true rfl) dX0_haveSameText_72 ?_
      refine jv_icmp_eq (tgt := 80) B dX0_haveSameText_75 (by decide) (fun c75 => ?_) (fun c75 => ?_)
      · replace h := dc_t c75 h
        refine jv_iinc (v := x3 + 1) (lv' := [(0, _), (1, _), (2, _), (3, _)]) B dX0_haveSameText_80 rfl (by rfl) (by decide) (lvi_cons rfl (lvi_cons rfl (lvi_cons rfl (lvi_cons rfl lvi_nil)))) ?_
        refine jv_goto (tgt := 35) B dX0_haveSameText_83 (by decide) ?_
        exact jv_lv (lv' := [(0, _), (1, _), (2, _), (3, _)]) (lvi_cons rfl (lvi_cons rfl (lvi_cons rfl (lvi_cons rfl lvi_nil)))) (ih _ _ _ h)
      · replace h := dc_f c75 h
        refine jv_iconst (v := 0) B dX0_haveSameText_78 (by decide) ?_
        obtain rfl := Option.some.inj h
        exact jv_zret B E (Or.inl rfl) ⟨rfl, rfl⟩ ⟨by decide, by decide⟩ dX0_haveSameText_79
set_option maxRecDepth 100000 in
set_option maxHeartbeats 4000000 in
theorem tX0_haveSameText_0 {G : jG} {X : jX} {ad : Nat → Nat} {r : Int32} {kinds : Nat → Int32} {starts : Nat → Int32} {lengths : Nat → Int32} {depths : Nat → Int32} {numbers : Nat → Int64} {b_cells : Nat → Int32} {b_size : Int32} {b_tooLong : Int32} {openKinds : Nat → Int32} {size : Int32} {depth : Int32} {named : Int32} (B : jB G X cX0_haveSameText 4 RX0 { frames := 1, cells := 0, slots := 0, locals := 21 }) (E : jR G X (pd ad (some (.int r)) [ob 0 [.ref (ad 1), .ref (ad 2), .ref (ad 3), .ref (ad 4), .ref (ad 5), .ref (ad 6), .ref (ad 8), .int size, .int depth, .int named], aI G 1500 kinds, aI G 1500 starts, aI G 1500 lengths, aI G 1500 depths, aL G 1500 numbers, ob 2 [.ref (ad 7), .int b_size, .int b_tooLong], aB G 5000 b_cells, aI G 30 openKinds]) { frames := 1, cells := 0, slots := 0, locals := 21 } (some .boolean))  {p0 : Int32} {p1 : Int32} (h : bX0_haveSameText_0  starts lengths b_cells b_size size p0 p1 = some r) : J G X 4 ad 0 0 [ob 0 [.ref (ad 1), .ref (ad 2), .ref (ad 3), .ref (ad 4), .ref (ad 5), .ref (ad 6), .ref (ad 8), .int size, .int depth, .int named], aI G 1500 kinds, aI G 1500 starts, aI G 1500 lengths, aI G 1500 depths, aL G 1500 numbers, ob 2 [.ref (ad 7), .int b_size, .int b_tooLong], aB G 5000 b_cells, aI G 30 openKinds] [(0, .ref (ad 0)), (1, .int p0), (2, .int p1)] 0 [] := by
  unfold bX0_haveSameText_0 at h
  refine jv_aload_n B dX0_haveSameText_0 rfl ?_
  refine jv_iload_n B dX0_haveSameText_1 rfl ?_
  obtain ⟨v7, hv7, h⟩ := dc_b h
  refine jv_callV0 B jyX0_has jiX0_has wm_X0_78 (qX0_has _ G _ hv7) ⟨⟨by decide, by decide⟩, by decide, by decide⟩ rfl rfl rfl rfl rfl (Nat.le_of_ble_eq_true rfl) dX0_haveSameText_2 ?_
  refine jv_if_eq (tgt := 31) B dX0_haveSameText_5 (by decide) (fun c5 => ?_) (fun c5 => ?_)
  · replace h := dc_t c5 h
    refine jv_iconst (v := 0) B dX0_haveSameText_31 (by decide) ?_
    obtain rfl := Option.some.inj h
    exact jv_zret B E (Or.inl rfl) ⟨rfl, rfl⟩ ⟨by decide, by decide⟩ dX0_haveSameText_32
  · replace h := dc_f c5 h
    refine jv_aload_n B dX0_haveSameText_8 rfl ?_
    refine jv_iload_n B dX0_haveSameText_9 rfl ?_
    obtain ⟨v8, hv8, h⟩ := dc_b h
    refine jv_callV0 B jyX0_has jiX0_has wm_X0_78 (qX0_has _ G _ hv8) ⟨⟨by decide, by decide⟩, by decide, by decide⟩ rfl rfl rfl rfl rfl (Nat.le_of_ble_eq_true rfl) dX0_haveSameText_10 ?_
    refine jv_if_eq (tgt := 31) B dX0_haveSameText_13 (by decide) (fun c13 => ?_) (fun c13 => ?_)
    · replace h := dc_t c13 h
      refine jv_iconst (v := 0) B dX0_haveSameText_31 (by decide) ?_
      obtain rfl := Option.some.inj h
      exact jv_zret B E (Or.inl rfl) ⟨rfl, rfl⟩ ⟨by decide, by decide⟩ dX0_haveSameText_32
    · replace h := dc_f c13 h
      refine jv_aload_n B dX0_haveSameText_16 rfl ?_
      refine jv_get B kX0 2 (by decide) wf_X0_18 rfl rfl dX0_haveSameText_17 ?_
      refine jv_iload_n B dX0_haveSameText_20 rfl ?_
      obtain ⟨g21, h⟩ := dc_if h
      refine jx_iald B rfl g21 dX0_haveSameText_21 ?_
      refine jv_aload_n B dX0_haveSameText_22 rfl ?_
      refine jv_get B kX0 2 (by decide) wf_X0_18 rfl rfl dX0_haveSameText_23 ?_
      refine jv_iload_n B dX0_haveSameText_26 rfl ?_
      obtain ⟨g27, h⟩ := dc_if h
      refine jx_iald B rfl g27 dX0_haveSameText_27 ?_
      refine jv_icmp_eq (tgt := 33) B dX0_haveSameText_28 (by decide) (fun c28 => ?_) (fun c28 => ?_)
      · replace h := dc_t c28 h
        refine jv_iconst (v := 0) B dX0_haveSameText_33 (by decide) ?_
        refine jv_istore_n (lv' := [(0, _), (1, _), (2, _), (3, _)]) B dX0_haveSameText_34 (by decide) (lvi_cons rfl (lvi_cons rfl (lvi_cons rfl (lvi_cons rfl lvi_nil)))) ?_
        exact jv_lv (lv' := [(0, _), (1, _), (2, _), (3, _)]) (lvi_cons rfl (lvi_cons rfl (lvi_cons rfl (lvi_cons rfl lvi_nil)))) (tX0_haveSameText_35 B E  FU _ _ _ h)
      · replace h := dc_f c28 h
        refine jv_iconst (v := 0) B dX0_haveSameText_31 (by decide) ?_
        obtain rfl := Option.some.inj h
        exact jv_zret B E (Or.inl rfl) ⟨rfl, rfl⟩ ⟨by decide, by decide⟩ dX0_haveSameText_32
set_option maxRecDepth 100000 in
set_option maxHeartbeats 4000000 in
theorem qX0_haveSameText (l : Launch) (G : jG) (ad : Nat → Nat) {kinds : Nat → Int32} {starts : Nat → Int32} {lengths : Nat → Int32} {depths : Nat → Int32} {numbers : Nat → Int64} {b_cells : Nat → Int32} {b_size : Int32} {b_tooLong : Int32} {openKinds : Nat → Int32} {size : Int32} {depth : Int32} {named : Int32} {p0 : Int32} {p1 : Int32} {r : Int32} (h : fX0_haveSameText starts lengths b_cells b_size size p0 p1 = some r) : CT l G yX0_haveSameText cX0_haveSameText 4 (some .boolean) { frames := 1, cells := 0, slots := 0, locals := 21 } ad [.ref (ad 0), .int p0, .int p1] [ob 0 [.ref (ad 1), .ref (ad 2), .ref (ad 3), .ref (ad 4), .ref (ad 5), .ref (ad 6), .ref (ad 8), .int size, .int depth, .int named], aI G 1500 kinds, aI G 1500 starts, aI G 1500 lengths, aI G 1500 depths, aL G 1500 numbers, ob 2 [.ref (ad 7), .int b_size, .int b_tooLong], aB G 5000 b_cells, aI G 30 openKinds] 0 (pd ad (some (.int r)) [ob 0 [.ref (ad 1), .ref (ad 2), .ref (ad 3), .ref (ad 4), .ref (ad 5), .ref (ad 6), .ref (ad 8), .int size, .int depth, .int named], aI G 1500 kinds, aI G 1500 starts, aI G 1500 lengths, aI G 1500 depths, aL G 1500 numbers, ob 2 [.ref (ad 7), .int b_size, .int b_tooLong], aB G 5000 b_cells, aI G 30 openKinds]) :=
  CT.of jyX0_haveSameText (Nat.le_of_ble_eq_true rfl) (fun X B E _ _ => tX0_haveSameText_0 B E h)
def bX0_copyText_10  : Nat → (Nat → Int32) → (Nat → Int32) → (Nat → Int32) → Int32 → Int32 → Nat → (Nat → Int32) → Int32 → Int32 → Int32 → Int32 → Option ((Nat → Int32) × (Int32) × (Int32))
  | 0, _, _, _, _, _, _, _, _, _, _, _ => none
  | nn + 1, starts, lengths, b_cells, b_size, size, t_cap, t_cells, t_size, t_tooLong, x1, x3 =>
    (if ix x1 1500 then (if (lengths (Int32.toNatClampNeg x1)) ≤ x3 then some (t_cells, t_size, t_tooLong) else (if ix x1 1500 then ((fX2_at 5000 b_cells b_size ((starts (Int32.toNatClampNeg x1)) + x3)).bind fun v4 => ((fX2_push t_cap t_cells t_size t_tooLong v4).bind fun v5 => bX0_copyText_10  nn starts lengths b_cells b_size size t_cap v5.1 v5.2.1 v5.2.2 x1 (x3 + 1))) else none)) else none)
def bX0_copyText_0  (starts : Nat → Int32) (lengths : Nat → Int32) (b_cells : Nat → Int32) (b_size : Int32) (size : Int32) (t_cap : Nat) (t_cells : Nat → Int32) (t_size : Int32) (t_tooLong : Int32) (p0 : Int32) : Option ((Nat → Int32) × (Int32) × (Int32)) :=
  ((fX0_has size p0).bind fun v6 => (if v6 = 0 then some (t_cells, t_size, t_tooLong) else bX0_copyText_10  FU starts lengths b_cells b_size size t_cap t_cells t_size t_tooLong p0 0))
def fX0_copyText (starts : Nat → Int32) (lengths : Nat → Int32) (b_cells : Nat → Int32) (b_size : Int32) (size : Int32) (t_cap : Nat) (t_cells : Nat → Int32) (t_size : Int32) (t_tooLong : Int32) (p0 : Int32) : Option ((Nat → Int32) × (Int32) × (Int32)) := bX0_copyText_0 starts lengths b_cells b_size size t_cap t_cells t_size t_tooLong p0
set_option maxRecDepth 100000 in
set_option maxHeartbeats 4000000 in
theorem tX0_copyText_10 {G : jG} {X : jX} {ad : Nat → Nat} {r : (Nat → Int32) × (Int32) × (Int32)} {kinds : Nat → Int32} {starts : Nat → Int32} {lengths : Nat → Int32} {depths : Nat → Int32} {numbers : Nat → Int64} {b_cells : Nat → Int32} {b_size : Int32} {b_tooLong : Int32} {openKinds : Nat → Int32} {size : Int32} {depth : Int32} {named : Int32} {t_cap : Nat} (B : jB G X cX0_copyText 4 RX0 { frames := 1, cells := 0, slots := 0, locals := 21 }) (E : jR G X (pd ad none [ob 0 [.ref (ad 1), .ref (ad 2), .ref (ad 3), .ref (ad 4), .ref (ad 5), .ref (ad 6), .ref (ad 8), .int size, .int depth, .int named], aI G 1500 kinds, aI G 1500 starts, aI G 1500 lengths, aI G 1500 depths, aL G 1500 numbers, ob 2 [.ref (ad 7), .int b_size, .int b_tooLong], aB G 5000 b_cells, aI G 30 openKinds, ob 2 [.ref (ad 10), .int r.2.1, .int r.2.2], aB G t_cap r.1]) { frames := 1, cells := 0, slots := 0, locals := 21 } none) : ∀ (nn : Nat) (t_cells : Nat → Int32) (t_size : Int32) (t_tooLong : Int32) (x1 : Int32) (x3 : Int32), bX0_copyText_10  nn starts lengths b_cells b_size size t_cap t_cells t_size t_tooLong x1 x3 = some r → J G X 4 ad 0 0 [ob 0 [.ref (ad 1), .ref (ad 2), .ref (ad 3), .ref (ad 4), .ref (ad 5), .ref (ad 6), .ref (ad 8), .int size, .int depth, .int named], aI G 1500 kinds, aI G 1500 starts, aI G 1500 lengths, aI G 1500 depths, aL G 1500 numbers, ob 2 [.ref (ad 7), .int b_size, .int b_tooLong], aB G 5000 b_cells, aI G 30 openKinds, ob 2 [.ref (ad 10), .int t_size, .int t_tooLong], aB G t_cap t_cells] [(0, .ref (ad 0)), (1, .int x1), (2, .ref (ad 9)), (3, .int x3)] 10 [] := by
  intro nn
  induction nn with
  | zero => intro t_cells t_size t_tooLong x1 x3 h; cases h
  | succ nn ih =>
    intro t_cells t_size t_tooLong x1 x3 h
    unfold bX0_copyText_10 at h
    refine jv_iload_n B dX0_copyText_10 rfl ?_
    refine jv_aload_n B dX0_copyText_11 rfl ?_
    refine jv_get B kX0 2 (by decide) wf_X0_18 rfl rfl dX0_copyText_12 ?_
    refine jv_iload_n B dX0_copyText_15 rfl ?_
    obtain ⟨g16, h⟩ := dc_if h
    refine jx_iald B rfl g16 dX0_copyText_16 ?_
    refine jv_icmp_ge (tgt := 45) B dX0_copyText_17 (by decide) (fun c17 => ?_) (fun c17 => ?_)
    · replace h := dc_t c17 h
      obtain rfl := Option.some.inj h
      exact jv_vret B E ⟨rfl, rfl⟩ ⟨by decide, by decide⟩ dX0_copyText_45
    · replace h := dc_f c17 h
      refine jv_aload_n B dX0_copyText_20 rfl ?_
      refine jv_aload_n B dX0_copyText_21 rfl ?_
      refine jv_get B kX0 5 (by decide) wf_X0_33 rfl rfl dX0_copyText_22 ?_
      refine jv_aload_n B dX0_copyText_25 rfl ?_
      refine jv_get B kX0 1 (by decide) wf_X0_15 rfl rfl dX0_copyText_26 ?_
      refine jv_iload_n B dX0_copyText_29 rfl ?_
      obtain ⟨g30, h⟩ := dc_if h
      refine jx_iald B rfl g30 dX0_copyText_30 ?_
      refine jv_iload_n B dX0_copyText_31 rfl ?_
      refine jv_iadd B dX0_copyText_32 ?_
      obtain ⟨v4, hv4, h⟩ := dc_b h
      refine jv_callV (ws' := [_, _, _, _, _, _, ob 2 [.ref (ad 7), _, _], _, _, _, _]) B jyX2_at jiX2_at wm_X0_71 [6, 7] (qX2_at _ G _ hv4) ⟨⟨by decide, by decide⟩, by decide, by decide⟩ rfl rfl rfl rfl rfl (by decide) rfl rfl rfl (Nat.le_of_ble_eq_true rfl) dX0_copyText_33 ?_
      obtain ⟨v5, hv5, h⟩ := dc_b h
      refine jv_callV (ws' := [_, _, _, _, _, _, _, _, _, ob 2 [.ref (ad 10), _, _], _]) B jyX2_push jiX2_push wm_X0_68 [9, 10] (qX2_push _ G _ hv5) ⟨⟨by decide, by decide⟩, by decide, by decide⟩ rfl rfl rfl rfl rfl (by decide) rfl rfl rfl (Nat.le_of_ble_eq_true rfl) dX0_copyText_36 ?_
      refine jv_iinc (v := x3 + 1) (lv' := [(0, _), (1, _), (2, _), (3, _)]) B dX0_copyText_39 rfl (by rfl) (by decide) (lvi_cons rfl (lvi_cons rfl (lvi_cons rfl (lvi_cons rfl lvi_nil)))) ?_
      refine jv_goto (tgt := 10) B dX0_copyText_42 (by decide) ?_
      exact jv_lv (lv' := [(0, _), (1, _), (2, _), (3, _)]) (lvi_cons rfl (lvi_cons rfl (lvi_cons rfl (lvi_cons rfl lvi_nil)))) (ih _ _ _ _ _ h)
set_option maxRecDepth 100000 in
set_option maxHeartbeats 4000000 in
theorem tX0_copyText_0 {G : jG} {X : jX} {ad : Nat → Nat} {r : (Nat → Int32) × (Int32) × (Int32)} {kinds : Nat → Int32} {starts : Nat → Int32} {lengths : Nat → Int32} {depths : Nat → Int32} {numbers : Nat → Int64} {b_cells : Nat → Int32} {b_size : Int32} {b_tooLong : Int32} {openKinds : Nat → Int32} {size : Int32} {depth : Int32} {named : Int32} {t_cap : Nat} (B : jB G X cX0_copyText 4 RX0 { frames := 1, cells := 0, slots := 0, locals := 21 }) (E : jR G X (pd ad none [ob 0 [.ref (ad 1), .ref (ad 2), .ref (ad 3), .ref (ad 4), .ref (ad 5), .ref (ad 6), .ref (ad 8), .int size, .int depth, .int named], aI G 1500 kinds, aI G 1500 starts, aI G 1500 lengths, aI G 1500 depths, aL G 1500 numbers, ob 2 [.ref (ad 7), .int b_size, .int b_tooLong], aB G 5000 b_cells, aI G 30 openKinds, ob 2 [.ref (ad 10), .int r.2.1, .int r.2.2], aB G t_cap r.1]) { frames := 1, cells := 0, slots := 0, locals := 21 } none) {t_cells : Nat → Int32} {t_size : Int32} {t_tooLong : Int32} {p0 : Int32} (h : bX0_copyText_0  starts lengths b_cells b_size size t_cap t_cells t_size t_tooLong p0 = some r) : J G X 4 ad 0 0 [ob 0 [.ref (ad 1), .ref (ad 2), .ref (ad 3), .ref (ad 4), .ref (ad 5), .ref (ad 6), .ref (ad 8), .int size, .int depth, .int named], aI G 1500 kinds, aI G 1500 starts, aI G 1500 lengths, aI G 1500 depths, aL G 1500 numbers, ob 2 [.ref (ad 7), .int b_size, .int b_tooLong], aB G 5000 b_cells, aI G 30 openKinds, ob 2 [.ref (ad 10), .int t_size, .int t_tooLong], aB G t_cap t_cells] [(0, .ref (ad 0)), (1, .int p0), (2, .ref (ad 9))] 0 [] := by
  unfold bX0_copyText_0 at h
  refine jv_aload_n B dX0_copyText_0 rfl ?_
  refine jv_iload_n B dX0_copyText_1 rfl ?_
  obtain ⟨v6, hv6, h⟩ := dc_b h
  refine jv_callV (ws' := [ob 0 [.ref (ad 1), .ref (ad 2), .ref (ad 3), .ref (ad 4), .ref (ad 5), .ref (ad 6), .ref (ad 8), _, _, _], _, _, _, _, _, ob 2 [.ref (ad 7), _, _], _, _, _, _]) B jyX0_has jiX0_has wm_X0_78 [0, 1, 2, 3, 4, 5, 6, 7, 8] (qX0_has _ G _ hv6) ⟨⟨by decide, by decide⟩, by decide, by decide⟩ rfl rfl rfl rfl rfl (by decide) rfl rfl rfl (Nat.le_of_ble_eq_true rfl) dX0_copyText_2 ?_
  refine jv_if_eq (tgt := 45) B dX0_copyText_5 (by decide) (fun c5 => ?_) (fun c5 => ?_)
  · replace h := dc_t c5 h
    obtain rfl := Option.some.inj h
    exact jv_vret B E ⟨rfl, rfl⟩ ⟨by decide, by decide⟩ dX0_copyText_45
  · replace h := dc_f c5 h
    refine jv_iconst (v := 0) B dX0_copyText_8 (by decide) ?_
    refine jv_istore_n (lv' := [(0, _), (1, _), (2, _), (3, _)]) B dX0_copyText_9 (by decide) (lvi_cons rfl (lvi_cons rfl (lvi_cons rfl (lvi_cons rfl lvi_nil)))) ?_
    exact jv_lv (lv' := [(0, _), (1, _), (2, _), (3, _)]) (lvi_cons rfl (lvi_cons rfl (lvi_cons rfl (lvi_cons rfl lvi_nil)))) (tX0_copyText_10 B E  FU _ _ _ _ _ h)
set_option maxRecDepth 100000 in
set_option maxHeartbeats 4000000 in
theorem qX0_copyText (l : Launch) (G : jG) (ad : Nat → Nat) {kinds : Nat → Int32} {starts : Nat → Int32} {lengths : Nat → Int32} {depths : Nat → Int32} {numbers : Nat → Int64} {b_cells : Nat → Int32} {b_size : Int32} {b_tooLong : Int32} {openKinds : Nat → Int32} {size : Int32} {depth : Int32} {named : Int32} {t_cap : Nat} {t_cells : Nat → Int32} {t_size : Int32} {t_tooLong : Int32} {p0 : Int32} {r : (Nat → Int32) × (Int32) × (Int32)} (h : fX0_copyText starts lengths b_cells b_size size t_cap t_cells t_size t_tooLong p0 = some r) : CT l G yX0_copyText cX0_copyText 4 none { frames := 1, cells := 0, slots := 0, locals := 21 } ad [.ref (ad 0), .int p0, .ref (ad 9)] [ob 0 [.ref (ad 1), .ref (ad 2), .ref (ad 3), .ref (ad 4), .ref (ad 5), .ref (ad 6), .ref (ad 8), .int size, .int depth, .int named], aI G 1500 kinds, aI G 1500 starts, aI G 1500 lengths, aI G 1500 depths, aL G 1500 numbers, ob 2 [.ref (ad 7), .int b_size, .int b_tooLong], aB G 5000 b_cells, aI G 30 openKinds, ob 2 [.ref (ad 10), .int t_size, .int t_tooLong], aB G t_cap t_cells] 0 (pd ad none [ob 0 [.ref (ad 1), .ref (ad 2), .ref (ad 3), .ref (ad 4), .ref (ad 5), .ref (ad 6), .ref (ad 8), .int size, .int depth, .int named], aI G 1500 kinds, aI G 1500 starts, aI G 1500 lengths, aI G 1500 depths, aL G 1500 numbers, ob 2 [.ref (ad 7), .int b_size, .int b_tooLong], aB G 5000 b_cells, aI G 30 openKinds, ob 2 [.ref (ad 10), .int r.2.1, .int r.2.2], aB G t_cap r.1]) :=
  CT.of jyX0_copyText (Nat.le_of_ble_eq_true rfl) (fun X B E _ _ => tX0_copyText_0 B E h)
def bX0_textByte_0  (starts : Nat → Int32) (lengths : Nat → Int32) (b_cells : Nat → Int32) (b_size : Int32) (size : Int32) (p0 : Int32) (p1 : Int32) : Option (Int32) :=
  ((fX0_has size p0).bind fun v3 => (if v3 = 0 then some ((-1)) else (if p1 < 0 then some ((-1)) else (if ix p0 1500 then (if (lengths (Int32.toNatClampNeg p0)) ≤ p1 then some ((-1)) else (if ix p0 1500 then ((fX2_at 5000 b_cells b_size ((starts (Int32.toNatClampNeg p0)) + p1)).bind fun v4 => some (v4)) else none)) else none))))
def fX0_textByte (starts : Nat → Int32) (lengths : Nat → Int32) (b_cells : Nat → Int32) (b_size : Int32) (size : Int32) (p0 : Int32) (p1 : Int32) : Option (Int32) := bX0_textByte_0 starts lengths b_cells b_size size p0 p1
set_option maxRecDepth 100000 in
set_option maxHeartbeats 4000000 in
theorem tX0_textByte_0 {G : jG} {X : jX} {ad : Nat → Nat} {r : Int32} {kinds : Nat → Int32} {starts : Nat → Int32} {lengths : Nat → Int32} {depths : Nat → Int32} {numbers : Nat → Int64} {b_cells : Nat → Int32} {b_size : Int32} {b_tooLong : Int32} {openKinds : Nat → Int32} {size : Int32} {depth : Int32} {named : Int32} (B : jB G X cX0_textByte 3 RX0 { frames := 1, cells := 0, slots := 0, locals := 21 }) (E : jR G X (pd ad (some (.int r)) [ob 0 [.ref (ad 1), .ref (ad 2), .ref (ad 3), .ref (ad 4), .ref (ad 5), .ref (ad 6), .ref (ad 8), .int size, .int depth, .int named], aI G 1500 kinds, aI G 1500 starts, aI G 1500 lengths, aI G 1500 depths, aL G 1500 numbers, ob 2 [.ref (ad 7), .int b_size, .int b_tooLong], aB G 5000 b_cells, aI G 30 openKinds]) { frames := 1, cells := 0, slots := 0, locals := 21 } (some .int))  {p0 : Int32} {p1 : Int32} (h : bX0_textByte_0  starts lengths b_cells b_size size p0 p1 = some r) : J G X 3 ad 0 0 [ob 0 [.ref (ad 1), .ref (ad 2), .ref (ad 3), .ref (ad 4), .ref (ad 5), .ref (ad 6), .ref (ad 8), .int size, .int depth, .int named], aI G 1500 kinds, aI G 1500 starts, aI G 1500 lengths, aI G 1500 depths, aL G 1500 numbers, ob 2 [.ref (ad 7), .int b_size, .int b_tooLong], aB G 5000 b_cells, aI G 30 openKinds] [(0, .ref (ad 0)), (1, .int p0), (2, .int p1)] 0 [] := by
  unfold bX0_textByte_0 at h
  refine jv_aload_n B dX0_textByte_0 rfl ?_
  refine jv_iload_n B dX0_textByte_1 rfl ?_
  obtain ⟨v3, hv3, h⟩ := dc_b h
  refine jv_callV0 B jyX0_has jiX0_has wm_X0_78 (qX0_has _ G _ hv3) ⟨⟨by decide, by decide⟩, by decide, by decide⟩ rfl rfl rfl rfl rfl (Nat.le_of_ble_eq_true rfl) dX0_textByte_2 ?_
  refine jv_if_eq (tgt := 40) B dX0_textByte_5 (by decide) (fun c5 => ?_) (fun c5 => ?_)
  · replace h := dc_t c5 h
    refine jv_iconst (v := (-1)) B dX0_textByte_40 (by decide) ?_
    obtain rfl := Option.some.inj h
    exact jv_iret B E ⟨rfl, rfl⟩ ⟨by decide, by decide⟩ dX0_textByte_41
  · replace h := dc_f c5 h
    refine jv_iload_n B dX0_textByte_8 rfl ?_
    refine jv_if_lt (tgt := 40) B dX0_textByte_9 (by decide) (fun c9 => ?_) (fun c9 => ?_)
    · replace h := dc_t c9 h
      refine jv_iconst (v := (-1)) B dX0_textByte_40 (by decide) ?_
      obtain rfl := Option.some.inj h
      exact jv_iret B E ⟨rfl, rfl⟩ ⟨by decide, by decide⟩ dX0_textByte_41
    · replace h := dc_f c9 h
      refine jv_iload_n B dX0_textByte_12 rfl ?_
      refine jv_aload_n B dX0_textByte_13 rfl ?_
      refine jv_get B kX0 2 (by decide) wf_X0_18 rfl rfl dX0_textByte_14 ?_
      refine jv_iload_n B dX0_textByte_17 rfl ?_
      obtain ⟨g18, h⟩ := dc_if h
      refine jx_iald B rfl g18 dX0_textByte_18 ?_
      refine jv_icmp_ge (tgt := 40) B dX0_textByte_19 (by decide) (fun c19 => ?_) (fun c19 => ?_)
      · replace h := dc_t c19 h
        refine jv_iconst (v := (-1)) B dX0_textByte_40 (by decide) ?_
        obtain rfl := Option.some.inj h
        exact jv_iret B E ⟨rfl, rfl⟩ ⟨by decide, by decide⟩ dX0_textByte_41
      · replace h := dc_f c19 h
        refine jv_aload_n B dX0_textByte_22 rfl ?_
        refine jv_get B kX0 5 (by decide) wf_X0_33 rfl rfl dX0_textByte_23 ?_
        refine jv_aload_n B dX0_textByte_26 rfl ?_
        refine jv_get B kX0 1 (by decide) wf_X0_15 rfl rfl dX0_textByte_27 ?_
        refine jv_iload_n B dX0_textByte_30 rfl ?_
        obtain ⟨g31, h⟩ := dc_if h
        refine jx_iald B rfl g31 dX0_textByte_31 ?_
        refine jv_iload_n B dX0_textByte_32 rfl ?_
        refine jv_iadd B dX0_textByte_33 ?_
        obtain ⟨v4, hv4, h⟩ := dc_b h
        refine jv_callV (ws' := [_, _, _, _, _, _, ob 2 [.ref (ad 7), _, _], _, _]) B jyX2_at jiX2_at wm_X0_71 [6, 7] (qX2_at _ G _ hv4) ⟨⟨by decide, by decide⟩, by decide, by decide⟩ rfl rfl rfl rfl rfl (by decide) rfl rfl rfl (Nat.le_of_ble_eq_true rfl) dX0_textByte_34 ?_
        refine jv_goto (tgt := 41) B dX0_textByte_37 (by decide) ?_
        obtain rfl := Option.some.inj h
        exact jv_iret B E ⟨rfl, rfl⟩ ⟨by decide, by decide⟩ dX0_textByte_41
set_option maxRecDepth 100000 in
set_option maxHeartbeats 4000000 in
theorem qX0_textByte (l : Launch) (G : jG) (ad : Nat → Nat) {kinds : Nat → Int32} {starts : Nat → Int32} {lengths : Nat → Int32} {depths : Nat → Int32} {numbers : Nat → Int64} {b_cells : Nat → Int32} {b_size : Int32} {b_tooLong : Int32} {openKinds : Nat → Int32} {size : Int32} {depth : Int32} {named : Int32} {p0 : Int32} {p1 : Int32} {r : Int32} (h : fX0_textByte starts lengths b_cells b_size size p0 p1 = some r) : CT l G yX0_textByte cX0_textByte 3 (some .int) { frames := 1, cells := 0, slots := 0, locals := 21 } ad [.ref (ad 0), .int p0, .int p1] [ob 0 [.ref (ad 1), .ref (ad 2), .ref (ad 3), .ref (ad 4), .ref (ad 5), .ref (ad 6), .ref (ad 8), .int size, .int depth, .int named], aI G 1500 kinds, aI G 1500 starts, aI G 1500 lengths, aI G 1500 depths, aL G 1500 numbers, ob 2 [.ref (ad 7), .int b_size, .int b_tooLong], aB G 5000 b_cells, aI G 30 openKinds] 0 (pd ad (some (.int r)) [ob 0 [.ref (ad 1), .ref (ad 2), .ref (ad 3), .ref (ad 4), .ref (ad 5), .ref (ad 6), .ref (ad 8), .int size, .int depth, .int named], aI G 1500 kinds, aI G 1500 starts, aI G 1500 lengths, aI G 1500 depths, aL G 1500 numbers, ob 2 [.ref (ad 7), .int b_size, .int b_tooLong], aB G 5000 b_cells, aI G 30 openKinds]) :=
  CT.of jyX0_textByte (Nat.le_of_ble_eq_true rfl) (fun X B E _ _ => tX0_textByte_0 B E h)
def bX0_depthOf_0  (depths : Nat → Int32) (size : Int32) (p0 : Int32) : Option (Int32) :=
  ((fX0_has size p0).bind fun v2 => (if v2 = 0 then some ((-1)) else (if ix p0 1500 then some ((depths (Int32.toNatClampNeg p0))) else none)))
def fX0_depthOf (depths : Nat → Int32) (size : Int32) (p0 : Int32) : Option (Int32) := bX0_depthOf_0 depths size p0
set_option maxRecDepth 100000 in
set_option maxHeartbeats 4000000 in
theorem tX0_depthOf_0 {G : jG} {X : jX} {ad : Nat → Nat} {r : Int32} {kinds : Nat → Int32} {starts : Nat → Int32} {lengths : Nat → Int32} {depths : Nat → Int32} {numbers : Nat → Int64} {b_cells : Nat → Int32} {b_size : Int32} {b_tooLong : Int32} {openKinds : Nat → Int32} {size : Int32} {depth : Int32} {named : Int32} (B : jB G X cX0_depthOf 2 RX0 { frames := 1, cells := 0, slots := 0, locals := 21 }) (E : jR G X (pd ad (some (.int r)) [ob 0 [.ref (ad 1), .ref (ad 2), .ref (ad 3), .ref (ad 4), .ref (ad 5), .ref (ad 6), .ref (ad 8), .int size, .int depth, .int named], aI G 1500 kinds, aI G 1500 starts, aI G 1500 lengths, aI G 1500 depths, aL G 1500 numbers, ob 2 [.ref (ad 7), .int b_size, .int b_tooLong], aB G 5000 b_cells, aI G 30 openKinds]) { frames := 1, cells := 0, slots := 0, locals := 21 } (some .int))  {p0 : Int32} (h : bX0_depthOf_0  depths size p0 = some r) : J G X 2 ad 0 0 [ob 0 [.ref (ad 1), .ref (ad 2), .ref (ad 3), .ref (ad 4), .ref (ad 5), .ref (ad 6), .ref (ad 8), .int size, .int depth, .int named], aI G 1500 kinds, aI G 1500 starts, aI G 1500 lengths, aI G 1500 depths, aL G 1500 numbers, ob 2 [.ref (ad 7), .int b_size, .int b_tooLong], aB G 5000 b_cells, aI G 30 openKinds] [(0, .ref (ad 0)), (1, .int p0)] 0 [] := by
  unfold bX0_depthOf_0 at h
  refine jv_aload_n B dX0_depthOf_0 rfl ?_
  refine jv_iload_n B dX0_depthOf_1 rfl ?_
  obtain ⟨v2, hv2, h⟩ := dc_b h
  refine jv_callV0 B jyX0_has jiX0_has wm_X0_78 (qX0_has _ G _ hv2) ⟨⟨by decide, by decide⟩, by decide, by decide⟩ rfl rfl rfl rfl rfl (Nat.le_of_ble_eq_true rfl) dX0_depthOf_2 ?_
  refine jv_if_eq (tgt := 17) B dX0_depthOf_5 (by decide) (fun c5 => ?_) (fun c5 => ?_)
  · replace h := dc_t c5 h
    refine jv_iconst (v := (-1)) B dX0_depthOf_17 (by decide) ?_
    obtain rfl := Option.some.inj h
    exact jv_iret B E ⟨rfl, rfl⟩ ⟨by decide, by decide⟩ dX0_depthOf_18
  · replace h := dc_f c5 h
    refine jv_aload_n B dX0_depthOf_8 rfl ?_
    refine jv_get B kX0 3 (by decide) wf_X0_21 rfl rfl dX0_depthOf_9 ?_
    refine jv_iload_n B dX0_depthOf_12 rfl ?_
    obtain ⟨g13, h⟩ := dc_if h
    refine jx_iald B rfl g13 dX0_depthOf_13 ?_
    refine jv_goto (tgt := 18) B dX0_depthOf_14 (by decide) ?_
    obtain rfl := Option.some.inj h
    exact jv_iret B E ⟨rfl, rfl⟩ ⟨by decide, by decide⟩ dX0_depthOf_18
set_option maxRecDepth 100000 in
set_option maxHeartbeats 4000000 in
theorem qX0_depthOf (l : Launch) (G : jG) (ad : Nat → Nat) {kinds : Nat → Int32} {starts : Nat → Int32} {lengths : Nat → Int32} {depths : Nat → Int32} {numbers : Nat → Int64} {b_cells : Nat → Int32} {b_size : Int32} {b_tooLong : Int32} {openKinds : Nat → Int32} {size : Int32} {depth : Int32} {named : Int32} {p0 : Int32} {r : Int32} (h : fX0_depthOf depths size p0 = some r) : CT l G yX0_depthOf cX0_depthOf 2 (some .int) { frames := 1, cells := 0, slots := 0, locals := 21 } ad [.ref (ad 0), .int p0] [ob 0 [.ref (ad 1), .ref (ad 2), .ref (ad 3), .ref (ad 4), .ref (ad 5), .ref (ad 6), .ref (ad 8), .int size, .int depth, .int named], aI G 1500 kinds, aI G 1500 starts, aI G 1500 lengths, aI G 1500 depths, aL G 1500 numbers, ob 2 [.ref (ad 7), .int b_size, .int b_tooLong], aB G 5000 b_cells, aI G 30 openKinds] 0 (pd ad (some (.int r)) [ob 0 [.ref (ad 1), .ref (ad 2), .ref (ad 3), .ref (ad 4), .ref (ad 5), .ref (ad 6), .ref (ad 8), .int size, .int depth, .int named], aI G 1500 kinds, aI G 1500 starts, aI G 1500 lengths, aI G 1500 depths, aL G 1500 numbers, ob 2 [.ref (ad 7), .int b_size, .int b_tooLong], aB G 5000 b_cells, aI G 30 openKinds]) :=
  CT.of jyX0_depthOf (Nat.le_of_ble_eq_true rfl) (fun X B E _ _ => tX0_depthOf_0 B E h)
def bX0_numberOf_0  (numbers : Nat → Int64) (size : Int32) (p0 : Int32) : Option (Int64) :=
  ((fX0_has size p0).bind fun v2 => (if v2 = 0 then some (0) else (if ix p0 1500 then some ((numbers (Int32.toNatClampNeg p0))) else none)))
def fX0_numberOf (numbers : Nat → Int64) (size : Int32) (p0 : Int32) : Option (Int64) := bX0_numberOf_0 numbers size p0
set_option maxRecDepth 100000 in
set_option maxHeartbeats 4000000 in
theorem tX0_numberOf_0 {G : jG} {X : jX} {ad : Nat → Nat} {r : Int64} {kinds : Nat → Int32} {starts : Nat → Int32} {lengths : Nat → Int32} {depths : Nat → Int32} {numbers : Nat → Int64} {b_cells : Nat → Int32} {b_size : Int32} {b_tooLong : Int32} {openKinds : Nat → Int32} {size : Int32} {depth : Int32} {named : Int32} (B : jB G X cX0_numberOf 2 RX0 { frames := 1, cells := 0, slots := 0, locals := 21 }) (E : jR G X (pd ad (some (.long r)) [ob 0 [.ref (ad 1), .ref (ad 2), .ref (ad 3), .ref (ad 4), .ref (ad 5), .ref (ad 6), .ref (ad 8), .int size, .int depth, .int named], aI G 1500 kinds, aI G 1500 starts, aI G 1500 lengths, aI G 1500 depths, aL G 1500 numbers, ob 2 [.ref (ad 7), .int b_size, .int b_tooLong], aB G 5000 b_cells, aI G 30 openKinds]) { frames := 1, cells := 0, slots := 0, locals := 21 } (some .long))  {p0 : Int32} (h : bX0_numberOf_0  numbers size p0 = some r) : J G X 2 ad 0 0 [ob 0 [.ref (ad 1), .ref (ad 2), .ref (ad 3), .ref (ad 4), .ref (ad 5), .ref (ad 6), .ref (ad 8), .int size, .int depth, .int named], aI G 1500 kinds, aI G 1500 starts, aI G 1500 lengths, aI G 1500 depths, aL G 1500 numbers, ob 2 [.ref (ad 7), .int b_size, .int b_tooLong], aB G 5000 b_cells, aI G 30 openKinds] [(0, .ref (ad 0)), (1, .int p0)] 0 [] := by
  unfold bX0_numberOf_0 at h
  refine jv_aload_n B dX0_numberOf_0 rfl ?_
  refine jv_iload_n B dX0_numberOf_1 rfl ?_
  obtain ⟨v2, hv2, h⟩ := dc_b h
  refine jv_callV0 B jyX0_has jiX0_has wm_X0_78 (qX0_has _ G _ hv2) ⟨⟨by decide, by decide⟩, by decide, by decide⟩ rfl rfl rfl rfl rfl (Nat.le_of_ble_eq_true rfl) dX0_numberOf_2 ?_
  refine jv_if_eq (tgt := 17) B dX0_numberOf_5 (by decide) (fun c5 => ?_) (fun c5 => ?_)
  · replace h := dc_t c5 h
    refine jv_lconst (v := 0) B dX0_numberOf_17 (by decide) ?_
    obtain rfl := Option.some.inj h
    exact jv_lret B E ⟨rfl, rfl⟩ ⟨by decide, by decide⟩ dX0_numberOf_18
  · replace h := dc_f c5 h
    refine jv_aload_n B dX0_numberOf_8 rfl ?_
    refine jv_get B kX0 4 (by decide) wf_X0_24 rfl rfl dX0_numberOf_9 ?_
    refine jv_iload_n B dX0_numberOf_12 rfl ?_
    obtain ⟨g13, h⟩ := dc_if h
    refine jx_lald B rfl g13 dX0_numberOf_13 ?_
    refine jv_goto (tgt := 18) B dX0_numberOf_14 (by decide) ?_
    obtain rfl := Option.some.inj h
    exact jv_lret B E ⟨rfl, rfl⟩ ⟨by decide, by decide⟩ dX0_numberOf_18
set_option maxRecDepth 100000 in
set_option maxHeartbeats 4000000 in
theorem qX0_numberOf (l : Launch) (G : jG) (ad : Nat → Nat) {kinds : Nat → Int32} {starts : Nat → Int32} {lengths : Nat → Int32} {depths : Nat → Int32} {numbers : Nat → Int64} {b_cells : Nat → Int32} {b_size : Int32} {b_tooLong : Int32} {openKinds : Nat → Int32} {size : Int32} {depth : Int32} {named : Int32} {p0 : Int32} {r : Int64} (h : fX0_numberOf numbers size p0 = some r) : CT l G yX0_numberOf cX0_numberOf 2 (some .long) { frames := 1, cells := 0, slots := 0, locals := 21 } ad [.ref (ad 0), .int p0] [ob 0 [.ref (ad 1), .ref (ad 2), .ref (ad 3), .ref (ad 4), .ref (ad 5), .ref (ad 6), .ref (ad 8), .int size, .int depth, .int named], aI G 1500 kinds, aI G 1500 starts, aI G 1500 lengths, aI G 1500 depths, aL G 1500 numbers, ob 2 [.ref (ad 7), .int b_size, .int b_tooLong], aB G 5000 b_cells, aI G 30 openKinds] 0 (pd ad (some (.long r)) [ob 0 [.ref (ad 1), .ref (ad 2), .ref (ad 3), .ref (ad 4), .ref (ad 5), .ref (ad 6), .ref (ad 8), .int size, .int depth, .int named], aI G 1500 kinds, aI G 1500 starts, aI G 1500 lengths, aI G 1500 depths, aL G 1500 numbers, ob 2 [.ref (ad 7), .int b_size, .int b_tooLong], aB G 5000 b_cells, aI G 30 openKinds]) :=
  CT.of jyX0_numberOf (Nat.le_of_ble_eq_true rfl) (fun X B E _ _ => tX0_numberOf_0 B E h)
def bX0_extendBy_self_3  : Nat → (Nat → Int32) → (Nat → Int32) → (Nat → Int32) → Int32 → Int32 → Int32 → Int32 → Int32 → Int32 → Option ((Nat → Int32) × (Nat → Int32) × (Int32) × (Int32))
  | 0, _, _, _, _, _, _, _, _, _ => none
  | nn + 1, starts, lengths, b_cells, b_size, b_tooLong, size, x2, x3, x4 =>
    (if (x2 + x3) ≤ x4 then some (lengths, b_cells, b_size, b_tooLong) else ((fX2_at 5000 b_cells b_size x4).bind fun v3 => ((fX0_extend starts lengths b_cells b_size b_tooLong size v3).bind fun v4 => bX0_extendBy_self_3  nn starts v4.1 v4.2.1 v4.2.2.1 v4.2.2.2 size x2 x3 (x4 + 1))))
def bX0_extendBy_self_0  (starts : Nat → Int32) (lengths : Nat → Int32) (b_cells : Nat → Int32) (b_size : Int32) (b_tooLong : Int32) (size : Int32) (p0 : Int32) (p1 : Int32) : Option ((Nat → Int32) × (Nat → Int32) × (Int32) × (Int32)) :=
  bX0_extendBy_self_3  FU starts lengths b_cells b_size b_tooLong size p0 p1 p0
def fX0_extendBy_self (starts : Nat → Int32) (lengths : Nat → Int32) (b_cells : Nat → Int32) (b_size : Int32) (b_tooLong : Int32) (size : Int32) (p0 : Int32) (p1 : Int32) : Option ((Nat → Int32) × (Nat → Int32) × (Int32) × (Int32)) := bX0_extendBy_self_0 starts lengths b_cells b_size b_tooLong size p0 p1
set_option maxRecDepth 100000 in
set_option maxHeartbeats 4000000 in
theorem tX0_extendBy_self_3 {G : jG} {X : jX} {ad : Nat → Nat} {r : (Nat → Int32) × (Nat → Int32) × (Int32) × (Int32)} {kinds : Nat → Int32} {starts : Nat → Int32} {depths : Nat → Int32} {numbers : Nat → Int64} {openKinds : Nat → Int32} {size : Int32} {depth : Int32} {named : Int32} (B : jB G X cX0_extendBy 5 RX0 { frames := 2, cells := 0, slots := 0, locals := 42 }) (E : jR G X (pd ad none [ob 0 [.ref (ad 1), .ref (ad 2), .ref (ad 3), .ref (ad 4), .ref (ad 5), .ref (ad 6), .ref (ad 8), .int size, .int depth, .int named], aI G 1500 kinds, aI G 1500 starts, aI G 1500 r.1, aI G 1500 depths, aL G 1500 numbers, ob 2 [.ref (ad 7), .int r.2.2.1, .int r.2.2.2], aB G 5000 r.2.1, aI G 30 openKinds]) { frames := 2, cells := 0, slots := 0, locals := 42 } none) : ∀ (nn : Nat) (lengths : Nat → Int32) (b_cells : Nat → Int32) (b_size : Int32) (b_tooLong : Int32) (x2 : Int32) (x3 : Int32) (x4 : Int32), bX0_extendBy_self_3  nn starts lengths b_cells b_size b_tooLong size x2 x3 x4 = some r → J G X 5 ad 0 0 [ob 0 [.ref (ad 1), .ref (ad 2), .ref (ad 3), .ref (ad 4), .ref (ad 5), .ref (ad 6), .ref (ad 8), .int size, .int depth, .int named], aI G 1500 kinds, aI G 1500 starts, aI G 1500 lengths, aI G 1500 depths, aL G 1500 numbers, ob 2 [.ref (ad 7), .int b_size, .int b_tooLong], aB G 5000 b_cells, aI G 30 openKinds] [(0, .ref (ad 0)), (1, .ref (ad 6)), (2, .int x2), (3, .int x3), (4, .int x4)] 3 [] := by
  intro nn
  induction nn with
  | zero => intro lengths b_cells b_size b_tooLong x2 x3 x4 h; cases h
  | succ nn ih =>
    intro lengths b_cells b_size b_tooLong x2 x3 x4 h
    unfold bX0_extendBy_self_3 at h
    refine jv_iload B dX0_extendBy_3 rfl ?_
    refine jv_iload_n B dX0_extendBy_5 rfl ?_
    refine jv_iload_n B dX0_extendBy_6 rfl ?_
    refine jv_iadd B dX0_extendBy_7 ?_
    refine jv_icmp_ge (tgt := 27) B dX0_extendBy_8 (by decide) (fun c8 => ?_) (fun c8 => ?_)
    · replace h := dc_t c8 h
      obtain rfl := Option.some.inj h
      exact jv_vret B E ⟨rfl, rfl⟩ ⟨by decide, by decide⟩ dX0_extendBy_27
    · replace h := dc_f c8 h
      refine jv_aload_n B dX0_extendBy_11 rfl ?_
      refine jv_aload_n B dX0_extendBy_12 rfl ?_
      refine jv_iload B dX0_extendBy_13 rfl ?_
      obtain ⟨v3, hv3, h⟩ := dc_b h
      refine jv_callV (ws' := [_, _, _, _, _, _, ob 2 [.ref (ad 7), _, _], _, _]) B jyX2_at jiX2_at wm_X0_71 [6, 7] (qX2_at _ G _ hv3) ⟨⟨by decide, by decide⟩, by decide, by decide⟩ rfl rfl rfl rfl rfl (by decide) rfl rfl rfl (Nat.le_of_ble_eq_true rfl) dX0_extendBy_15 ?_
      obtain ⟨v4, hv4, h⟩ := dc_b h
      refine jv_callV0 B jyX0_extend jiX0_extend wm_X0_75 (qX0_extend _ G _ hv4) ⟨⟨by decide, by decide⟩, by decide, by decide⟩ rfl rfl rfl rfl rfl (Nat.le_of_ble_eq_true rfl) dX0_extendBy_18 ?_
      refine jv_iinc (v := x4 + 1) (lv' := [(0, _), (1, _), (2, _), (3, _), (4, _)]) B dX0_extendBy_21 rfl (by rfl) (by decide) (lvi_cons rfl (lvi_cons rfl (lvi_cons rfl (lvi_cons rfl (lvi_cons rfl lvi_nil))))) ?_
      refine jv_goto (tgt := 3) B dX0_extendBy_24 (by decide) ?_
      exact jv_lv (lv' := [(0, _), (1, _), (2, _), (3, _), (4, _)]) (lvi_cons rfl (lvi_cons rfl (lvi_cons rfl (lvi_cons rfl (lvi_cons rfl lvi_nil))))) (ih _ _ _ _ _ _ _ h)
set_option maxRecDepth 100000 in
set_option maxHeartbeats 4000000 in
theorem tX0_extendBy_self_0 {G : jG} {X : jX} {ad : Nat → Nat} {r : (Nat → Int32) × (Nat → Int32) × (Int32) × (Int32)} {kinds : Nat → Int32} {starts : Nat → Int32} {depths : Nat → Int32} {numbers : Nat → Int64} {openKinds : Nat → Int32} {size : Int32} {depth : Int32} {named : Int32} (B : jB G X cX0_extendBy 5 RX0 { frames := 2, cells := 0, slots := 0, locals := 42 }) (E : jR G X (pd ad none [ob 0 [.ref (ad 1), .ref (ad 2), .ref (ad 3), .ref (ad 4), .ref (ad 5), .ref (ad 6), .ref (ad 8), .int size, .int depth, .int named], aI G 1500 kinds, aI G 1500 starts, aI G 1500 r.1, aI G 1500 depths, aL G 1500 numbers, ob 2 [.ref (ad 7), .int r.2.2.1, .int r.2.2.2], aB G 5000 r.2.1, aI G 30 openKinds]) { frames := 2, cells := 0, slots := 0, locals := 42 } none) {lengths : Nat → Int32} {b_cells : Nat → Int32} {b_size : Int32} {b_tooLong : Int32} {p0 : Int32} {p1 : Int32} (h : bX0_extendBy_self_0  starts lengths b_cells b_size b_tooLong size p0 p1 = some r) : J G X 5 ad 0 0 [ob 0 [.ref (ad 1), .ref (ad 2), .ref (ad 3), .ref (ad 4), .ref (ad 5), .ref (ad 6), .ref (ad 8), .int size, .int depth, .int named], aI G 1500 kinds, aI G 1500 starts, aI G 1500 lengths, aI G 1500 depths, aL G 1500 numbers, ob 2 [.ref (ad 7), .int b_size, .int b_tooLong], aB G 5000 b_cells, aI G 30 openKinds] [(0, .ref (ad 0)), (1, .ref (ad 6)), (2, .int p0), (3, .int p1)] 0 [] := by
  unfold bX0_extendBy_self_0 at h
  refine jv_iload_n B dX0_extendBy_0 rfl ?_
  refine jv_istore (lv' := [(0, _), (1, _), (2, _), (3, _), (4, _)]) B dX0_extendBy_1 (by decide) (lvi_cons rfl (lvi_cons rfl (lvi_cons rfl (lvi_cons rfl (lvi_cons rfl lvi_nil))))) ?_
  exact jv_lv (lv' := [(0, _), (1, _), (2, _), (3, _), (4, _)]) (lvi_cons rfl (lvi_cons rfl (lvi_cons rfl (lvi_cons rfl (lvi_cons rfl lvi_nil))))) (tX0_extendBy_self_3 B E  FU _ _ _ _ _ _ _ h)
set_option maxRecDepth 100000 in
set_option maxHeartbeats 4000000 in
theorem qX0_extendBy_self (l : Launch) (G : jG) (ad : Nat → Nat) {kinds : Nat → Int32} {starts : Nat → Int32} {lengths : Nat → Int32} {depths : Nat → Int32} {numbers : Nat → Int64} {b_cells : Nat → Int32} {b_size : Int32} {b_tooLong : Int32} {openKinds : Nat → Int32} {size : Int32} {depth : Int32} {named : Int32} {p0 : Int32} {p1 : Int32} {r : (Nat → Int32) × (Nat → Int32) × (Int32) × (Int32)} (h : fX0_extendBy_self starts lengths b_cells b_size b_tooLong size p0 p1 = some r) : CT l G yX0_extendBy cX0_extendBy 5 none { frames := 2, cells := 0, slots := 0, locals := 42 } ad [.ref (ad 0), .ref (ad 6), .int p0, .int p1] [ob 0 [.ref (ad 1), .ref (ad 2), .ref (ad 3), .ref (ad 4), .ref (ad 5), .ref (ad 6), .ref (ad 8), .int size, .int depth, .int named], aI G 1500 kinds, aI G 1500 starts, aI G 1500 lengths, aI G 1500 depths, aL G 1500 numbers, ob 2 [.ref (ad 7), .int b_size, .int b_tooLong], aB G 5000 b_cells, aI G 30 openKinds] 0 (pd ad none [ob 0 [.ref (ad 1), .ref (ad 2), .ref (ad 3), .ref (ad 4), .ref (ad 5), .ref (ad 6), .ref (ad 8), .int size, .int depth, .int named], aI G 1500 kinds, aI G 1500 starts, aI G 1500 r.1, aI G 1500 depths, aL G 1500 numbers, ob 2 [.ref (ad 7), .int r.2.2.1, .int r.2.2.2], aB G 5000 r.2.1, aI G 30 openKinds]) :=
  CT.of jyX0_extendBy (Nat.le_of_ble_eq_true rfl) (fun X B E _ _ => tX0_extendBy_self_0 B E h)
def bX0_extendByTextOf_0  (starts : Nat → Int32) (lengths : Nat → Int32) (b_cells : Nat → Int32) (b_size : Int32) (b_tooLong : Int32) (size : Int32) (p0 : Int32) : Option ((Nat → Int32) × (Nat → Int32) × (Int32) × (Int32)) :=
  ((fX0_has size p0).bind fun v3 => (if v3 = 0 then some (lengths, b_cells, b_size, b_tooLong) else (if ix p0 1500 then (if ix p0 1500 then ((fX0_extendBy_self starts lengths b_cells b_size b_tooLong size (starts (Int32.toNatClampNeg p0)) (lengths (Int32.toNatClampNeg p0))).bind fun v4 => some (v4.1, v4.2.1, v4.2.2.1, v4.2.2.2)) else none) else none)))
def fX0_extendByTextOf (starts : Nat → Int32) (lengths : Nat → Int32) (b_cells : Nat → Int32) (b_size : Int32) (b_tooLong : Int32) (size : Int32) (p0 : Int32) : Option ((Nat → Int32) × (Nat → Int32) × (Int32) × (Int32)) := bX0_extendByTextOf_0 starts lengths b_cells b_size b_tooLong size p0
set_option maxRecDepth 100000 in
set_option maxHeartbeats 4000000 in
theorem tX0_extendByTextOf_0 {G : jG} {X : jX} {ad : Nat → Nat} {r : (Nat → Int32) × (Nat → Int32) × (Int32) × (Int32)} {kinds : Nat → Int32} {starts : Nat → Int32} {depths : Nat → Int32} {numbers : Nat → Int64} {openKinds : Nat → Int32} {size : Int32} {depth : Int32} {named : Int32} (B : jB G X cX0_extendByTextOf 2 RX0 { frames := 3, cells := 0, slots := 0, locals := 66 }) (E : jR G X (pd ad none [ob 0 [.ref (ad 1), .ref (ad 2), .ref (ad 3), .ref (ad 4), .ref (ad 5), .ref (ad 6), .ref (ad 8), .int size, .int depth, .int named], aI G 1500 kinds, aI G 1500 starts, aI G 1500 r.1, aI G 1500 depths, aL G 1500 numbers, ob 2 [.ref (ad 7), .int r.2.2.1, .int r.2.2.2], aB G 5000 r.2.1, aI G 30 openKinds]) { frames := 3, cells := 0, slots := 0, locals := 66 } none) {lengths : Nat → Int32} {b_cells : Nat → Int32} {b_size : Int32} {b_tooLong : Int32} {p0 : Int32} (h : bX0_extendByTextOf_0  starts lengths b_cells b_size b_tooLong size p0 = some r) : J G X 2 ad 0 0 [ob 0 [.ref (ad 1), .ref (ad 2), .ref (ad 3), .ref (ad 4), .ref (ad 5), .ref (ad 6), .ref (ad 8), .int size, .int depth, .int named], aI G 1500 kinds, aI G 1500 starts, aI G 1500 lengths, aI G 1500 depths, aL G 1500 numbers, ob 2 [.ref (ad 7), .int b_size, .int b_tooLong], aB G 5000 b_cells, aI G 30 openKinds] [(0, .ref (ad 0)), (1, .int p0)] 0 [] := by
  unfold bX0_extendByTextOf_0 at h
  refine jv_aload_n B dX0_extendByTextOf_0 rfl ?_
  refine jv_iload_n B dX0_extendByTextOf_1 rfl ?_
  obtain ⟨v3, hv3, h⟩ := dc_b h
  refine jv_callV0 B jyX0_has jiX0_has wm_X0_78 (qX0_has _ G _ hv3) ⟨⟨by decide, by decide⟩, by decide, by decide⟩ rfl rfl rfl rfl rfl (Nat.le_of_ble_eq_true rfl) dX0_extendByTextOf_2 ?_
  refine jv_if_eq (tgt := 28) B dX0_extendByTextOf_5 (by decide) (fun c5 => ?_) (fun c5 => ?_)
  · replace h := dc_t c5 h
    obtain rfl := Option.some.inj h
    exact jv_vret B E ⟨rfl, rfl⟩ ⟨by decide, by decide⟩ dX0_extendByTextOf_28
  · replace h := dc_f c5 h
    refine jv_aload_n B dX0_extendByTextOf_8 rfl ?_
    refine jv_aload_n B dX0_extendByTextOf_9 rfl ?_
    refine jv_get B kX0 5 (by decide) wf_X0_33 rfl rfl dX0_extendByTextOf_10 ?_
    refine jv_aload_n B dX0_extendByTextOf_13 rfl ?_
    refine jv_get B kX0 1 (by decide) wf_X0_15 rfl rfl dX0_extendByTextOf_14 ?_
    refine jv_iload_n B dX0_extendByTextOf_17 rfl ?_
    obtain ⟨g18, h⟩ := dc_if h
    refine jx_iald B rfl g18 dX0_extendByTextOf_18 ?_
    refine jv_aload_n B dX0_extendByTextOf_19 rfl ?_
    refine jv_get B kX0 2 (by decide) wf_X0_18 rfl rfl dX0_extendByTextOf_20 ?_
    refine jv_iload_n B dX0_extendByTextOf_23 rfl ?_
    obtain ⟨g24, h⟩ := dc_if h
    refine jx_iald B rfl g24 dX0_extendByTextOf_24 ?_
    obtain ⟨v4, hv4, h⟩ := dc_b h
    refine jv_callV0 B jyX0_extendBy jiX0_extendBy wm_X0_81 (qX0_extendBy_self _ G _ hv4) ⟨⟨by decide, by decide⟩, by decide, by decide⟩ rfl rfl rfl rfl rfl (Nat.le_of_ble_eq_true rfl) dX0_extendByTextOf_25 ?_
    obtain rfl := Option.some.inj h
    exact jv_vret B E ⟨rfl, rfl⟩ ⟨by decide, by decide⟩ dX0_extendByTextOf_28
set_option maxRecDepth 100000 in
set_option maxHeartbeats 4000000 in
theorem qX0_extendByTextOf (l : Launch) (G : jG) (ad : Nat → Nat) {kinds : Nat → Int32} {starts : Nat → Int32} {lengths : Nat → Int32} {depths : Nat → Int32} {numbers : Nat → Int64} {b_cells : Nat → Int32} {b_size : Int32} {b_tooLong : Int32} {openKinds : Nat → Int32} {size : Int32} {depth : Int32} {named : Int32} {p0 : Int32} {r : (Nat → Int32) × (Nat → Int32) × (Int32) × (Int32)} (h : fX0_extendByTextOf starts lengths b_cells b_size b_tooLong size p0 = some r) : CT l G yX0_extendByTextOf cX0_extendByTextOf 2 none { frames := 3, cells := 0, slots := 0, locals := 66 } ad [.ref (ad 0), .int p0] [ob 0 [.ref (ad 1), .ref (ad 2), .ref (ad 3), .ref (ad 4), .ref (ad 5), .ref (ad 6), .ref (ad 8), .int size, .int depth, .int named], aI G 1500 kinds, aI G 1500 starts, aI G 1500 lengths, aI G 1500 depths, aL G 1500 numbers, ob 2 [.ref (ad 7), .int b_size, .int b_tooLong], aB G 5000 b_cells, aI G 30 openKinds] 0 (pd ad none [ob 0 [.ref (ad 1), .ref (ad 2), .ref (ad 3), .ref (ad 4), .ref (ad 5), .ref (ad 6), .ref (ad 8), .int size, .int depth, .int named], aI G 1500 kinds, aI G 1500 starts, aI G 1500 r.1, aI G 1500 depths, aL G 1500 numbers, ob 2 [.ref (ad 7), .int r.2.2.1, .int r.2.2.2], aB G 5000 r.2.1, aI G 30 openKinds]) :=
  CT.of jyX0_extendByTextOf (Nat.le_of_ble_eq_true rfl) (fun X B E _ _ => tX0_extendByTextOf_0 B E h)
def bX0_textBytes_0  (b_size : Int32)  : Option (Int32) :=
  ((fX2_size b_size).bind fun v2 => some (v2))
def fX0_textBytes (b_size : Int32)  : Option (Int32) := bX0_textBytes_0 b_size
set_option maxRecDepth 100000 in
set_option maxHeartbeats 4000000 in
theorem tX0_textBytes_0 {G : jG} {X : jX} {ad : Nat → Nat} {r : Int32} {kinds : Nat → Int32} {starts : Nat → Int32} {lengths : Nat → Int32} {depths : Nat → Int32} {numbers : Nat → Int64} {b_cells : Nat → Int32} {b_size : Int32} {b_tooLong : Int32} {openKinds : Nat → Int32} {size : Int32} {depth : Int32} {named : Int32} (B : jB G X cX0_textBytes 1 RX0 { frames := 1, cells := 0, slots := 0, locals := 20 }) (E : jR G X (pd ad (some (.int r)) [ob 0 [.ref (ad 1), .ref (ad 2), .ref (ad 3), .ref (ad 4), .ref (ad 5), .ref (ad 6), .ref (ad 8), .int size, .int depth, .int named], aI G 1500 kinds, aI G 1500 starts, aI G 1500 lengths, aI G 1500 depths, aL G 1500 numbers, ob 2 [.ref (ad 7), .int b_size, .int b_tooLong], aB G 5000 b_cells, aI G 30 openKinds]) { frames := 1, cells := 0, slots := 0, locals := 20 } (some .int))   (h : bX0_textBytes_0  b_size = some r) : J G X 1 ad 0 0 [ob 0 [.ref (ad 1), .ref (ad 2), .ref (ad 3), .ref (ad 4), .ref (ad 5), .ref (ad 6), .ref (ad 8), .int size, .int depth, .int named], aI G 1500 kinds, aI G 1500 starts, aI G 1500 lengths, aI G 1500 depths, aL G 1500 numbers, ob 2 [.ref (ad 7), .int b_size, .int b_tooLong], aB G 5000 b_cells, aI G 30 openKinds] [(0, .ref (ad 0))] 0 [] := by
  unfold bX0_textBytes_0 at h
  refine jv_aload_n B dX0_textBytes_0 rfl ?_
  refine jv_get B kX0 5 (by decide) wf_X0_33 rfl rfl dX0_textBytes_1 ?_
  obtain ⟨v2, hv2, h⟩ := dc_b h
  refine jv_callV (ws' := [_, _, _, _, _, _, ob 2 [.ref (ad 7), _, _], _, _]) B jyX2_size jiX2_size wm_X0_44 [6, 7] (qX2_size _ G _ hv2) ⟨⟨by decide, by decide⟩, by decide, by decide⟩ rfl rfl rfl rfl rfl (by decide) rfl rfl rfl (Nat.le_of_ble_eq_true rfl) dX0_textBytes_4 ?_
  obtain rfl := Option.some.inj h
  exact jv_iret B E ⟨rfl, rfl⟩ ⟨by decide, by decide⟩ dX0_textBytes_7
set_option maxRecDepth 100000 in
set_option maxHeartbeats 4000000 in
theorem qX0_textBytes (l : Launch) (G : jG) (ad : Nat → Nat) {kinds : Nat → Int32} {starts : Nat → Int32} {lengths : Nat → Int32} {depths : Nat → Int32} {numbers : Nat → Int64} {b_cells : Nat → Int32} {b_size : Int32} {b_tooLong : Int32} {openKinds : Nat → Int32} {size : Int32} {depth : Int32} {named : Int32}  {r : Int32} (h : fX0_textBytes b_size = some r) : CT l G yX0_textBytes cX0_textBytes 1 (some .int) { frames := 1, cells := 0, slots := 0, locals := 20 } ad [.ref (ad 0)] [ob 0 [.ref (ad 1), .ref (ad 2), .ref (ad 3), .ref (ad 4), .ref (ad 5), .ref (ad 6), .ref (ad 8), .int size, .int depth, .int named], aI G 1500 kinds, aI G 1500 starts, aI G 1500 lengths, aI G 1500 depths, aL G 1500 numbers, ob 2 [.ref (ad 7), .int b_size, .int b_tooLong], aB G 5000 b_cells, aI G 30 openKinds] 0 (pd ad (some (.int r)) [ob 0 [.ref (ad 1), .ref (ad 2), .ref (ad 3), .ref (ad 4), .ref (ad 5), .ref (ad 6), .ref (ad 8), .int size, .int depth, .int named], aI G 1500 kinds, aI G 1500 starts, aI G 1500 lengths, aI G 1500 depths, aL G 1500 numbers, ob 2 [.ref (ad 7), .int b_size, .int b_tooLong], aB G 5000 b_cells, aI G 30 openKinds]) :=
  CT.of jyX0_textBytes (Nat.le_of_ble_eq_true rfl) (fun X B E _ _ => tX0_textBytes_0 B E h)
def bX0_isSound_33 (K4 : (Nat → Int32) → (Nat → Int32) → Int32 → Int32 → Int32 → Int32 → Option (Int32)) (kinds : Nat → Int32) (depths : Nat → Int32) (size : Int32) (depth : Int32) (x1 : Int32) (x2 : Int32) : Option (Int32) :=
  K4 kinds depths size depth x1 (x2 + 1)
def bX0_isSound_4  : Nat → (Nat → Int32) → (Nat → Int32) → Int32 → Int32 → Int32 → Int32 → Option (Int32)
  | 0, _, _, _, _, _, _ => none
  | nn + 1, kinds, depths, size, depth, x1, x2 =>
    (if size ≤ x2 then (if 1 < x1 then some (0) else (if size < depth then some (0) else some (1))) else ((fX0_depthOf depths size x2).bind fun v3 => (if v3 = 0 then ((fX0_kindOf kinds size x2).bind fun v4 => (if v4 = 11 then bX0_isSound_33 (fun z0 z1 z2 z3 z4 z5 => bX0_isSound_4  nn z0 z1 z2 z3 z4 z5) kinds depths size depth x1 x2 else bX0_isSound_33 (fun z0 z1 z2 z3 z4 z5 => bX0_isSound_4  nn z0 z1 z2 z3 z4 z5) kinds depths size depth (x1 + 1) x2)) else bX0_isSound_33 (fun z0 z1 z2 z3 z4 z5 => bX0_isSound_4  nn z0 z1 z2 z3 z4 z5) kinds depths size depth x1 x2)))
def bX0_isSound_0  (kinds : Nat → Int32) (depths : Nat → Int32) (size : Int32) (depth : Int32)  : Option (Int32) :=
  bX0_isSound_4  FU kinds depths size depth 0 0
def fX0_isSound (kinds : Nat → Int32) (depths : Nat → Int32) (size : Int32) (depth : Int32)  : Option (Int32) := bX0_isSound_0 kinds depths size depth
set_option maxRecDepth 100000 in
set_option maxHeartbeats 4000000 in
theorem tX0_isSound_33 {G : jG} {X : jX} {ad : Nat → Nat} {r : Int32} {kinds : Nat → Int32} {starts : Nat → Int32} {lengths : Nat → Int32} {depths : Nat → Int32} {numbers : Nat → Int64} {b_cells : Nat → Int32} {b_size : Int32} {b_tooLong : Int32} {openKinds : Nat → Int32} {size : Int32} {depth : Int32} {named : Int32} (B : jB G X cX0_isSound 3 RX0 { frames := 2, cells := 0, slots := 0, locals := 42 }) (E : jR G X (pd ad (some (.int r)) [ob 0 [.ref (ad 1), .ref (ad 2), .ref (ad 3), .ref (ad 4), .ref (ad 5), .ref (ad 6), .ref (ad 8), .int size, .int depth, .int named], aI G 1500 kinds, aI G 1500 starts, aI G 1500 lengths, aI G 1500 depths, aL G 1500 numbers, ob 2 [.ref (ad 7), .int b_size, .int b_tooLong], aB G 5000 b_cells, aI G 30 openKinds]) { frames := 2, cells := 0, slots := 0, locals := 42 } (some .boolean)) (K4 : (Nat → Int32) → (Nat → Int32) → Int32 → Int32 → Int32 → Int32 → Option (Int32)) (hK4 : ∀  {x1 : Int32} {x2 : Int32}, K4 kinds depths size depth x1 x2 = some r → J G X 3 ad 0 0 [ob 0 [.ref (ad 1), .ref (ad 2), .ref (ad 3), .ref (ad 4), .ref (ad 5), .ref (ad 6), .ref (ad 8), .int size, .int depth, .int named], aI G 1500 kinds, aI G 1500 starts, aI G 1500 lengths, aI G 1500 depths, aL G 1500 numbers, ob 2 [.ref (ad 7), .int b_size, .int b_tooLong], aB G 5000 b_cells, aI G 30 openKinds] [(0, .ref (ad 0)), (1, .int x1), (2, .int x2)] 4 [])  {x1 : Int32} {x2 : Int32} (h : bX0_isSound_33 K4 kinds depths size depth x1 x2 = some r) : J G X 3 ad 0 0 [ob 0 [.ref (ad 1), .ref (ad 2), .ref (ad 3), .ref (ad 4), .ref (ad 5), .ref (ad 6), .ref (ad 8), .int size, .int depth, .int named], aI G 1500 kinds, aI G 1500 starts, aI G 1500 lengths, aI G 1500 depths, aL G 1500 numbers, ob 2 [.ref (ad 7), .int b_size, .int b_tooLong], aB G 5000 b_cells, aI G 30 openKinds] [(0, .ref (ad 0)), (1, .int x1), (2, .int x2)] 33 [] := by
  unfold bX0_isSound_33 at h
  refine jv_iinc (v := x2 + 1) (lv' := [(0, _), (1, _), (2, _)]) B dX0_isSound_33 rfl (by rfl) (by decide) (lvi_cons rfl (lvi_cons rfl (lvi_cons rfl lvi_nil))) ?_
  refine jv_goto (tgt := 4) B dX0_isSound_36 (by decide) ?_
  exact jv_lv (lv' := [(0, _), (1, _), (2, _)]) (lvi_cons rfl (lvi_cons rfl (lvi_cons rfl lvi_nil))) (hK4 h)
set_option maxRecDepth 100000 in
set_option maxHeartbeats 4000000 in
theorem tX0_isSound_4 {G : jG} {X : jX} {ad : Nat → Nat} {r : Int32} {kinds : Nat → Int32} {starts : Nat → Int32} {lengths : Nat → Int32} {depths : Nat → Int32} {numbers : Nat → Int64} {b_cells : Nat → Int32} {b_size : Int32} {b_tooLong : Int32} {openKinds : Nat → Int32} {size : Int32} {depth : Int32} {named : Int32} (B : jB G X cX0_isSound 3 RX0 { frames := 2, cells := 0, slots := 0, locals := 42 }) (E : jR G X (pd ad (some (.int r)) [ob 0 [.ref (ad 1), .ref (ad 2), .ref (ad 3), .ref (ad 4), .ref (ad 5), .ref (ad 6), .ref (ad 8), .int size, .int depth, .int named], aI G 1500 kinds, aI G 1500 starts, aI G 1500 lengths, aI G 1500 depths, aL G 1500 numbers, ob 2 [.ref (ad 7), .int b_size, .int b_tooLong], aB G 5000 b_cells, aI G 30 openKinds]) { frames := 2, cells := 0, slots := 0, locals := 42 } (some .boolean)) : ∀ (nn : Nat)  (x1 : Int32) (x2 : Int32), bX0_isSound_4  nn kinds depths size depth x1 x2 = some r → J G X 3 ad 0 0 [ob 0 [.ref (ad 1), .ref (ad 2), .ref (ad 3), .ref (ad 4), .ref (ad 5), .ref (ad 6), .ref (ad 8), .int size, .int depth, .int named], aI G 1500 kinds, aI G 1500 starts, aI G 1500 lengths, aI G 1500 depths, aL G 1500 numbers, ob 2 [.ref (ad 7), .int b_size, .int b_tooLong], aB G 5000 b_cells, aI G 30 openKinds] [(0, .ref (ad 0)), (1, .int x1), (2, .int x2)] 4 [] := by
  intro nn
  induction nn with
  | zero => intro x1 x2 h; cases h
  | succ nn ih =>
    intro x1 x2 h
    unfold bX0_isSound_4 at h
    refine jv_iload_n B dX0_isSound_4 rfl ?_
    refine jv_aload_n B dX0_isSound_5 rfl ?_
    refine jv_get B kX0 7 (by decide) wf_X0_40 rfl rfl dX0_isSound_6 ?_
    refine jv_icmp_ge (tgt := 39) B dX0_isSound_9 (by decide) (fun c9 => ?_) (fun c9 => ?_)
    · replace h := dc_t c9 h
      refine jv_iload_n B dX0_isSound_39 rfl ?_
      refine jv_iconst (v := 1) B dX0_isSound_40 (by decide) ?_
      refine jv_icmp_gt (tgt := 59) B dX0_isSound_41 (by decide) (fun c41 => ?_) (fun c41 => ?_)
      · replace h := dc_t c41 h
        refine jv_iconst (v := 0) B dX0_isSound_59 (by decide) ?_
        obtain rfl := Option.some.inj h
        exact jv_zret B E (Or.inl rfl) ⟨rfl, rfl⟩ ⟨by decide, by decide⟩ dX0_isSound_60
      · replace h := dc_f c41 h
        refine jv_aload_n B dX0_isSound_44 rfl ?_
        refine jv_get B kX0 8 (by decide) wf_X0_47 rfl rfl dX0_isSound_45 ?_
        refine jv_aload_n B dX0_isSound_48 rfl ?_
        refine jv_get B kX0 7 (by decide) wf_X0_40 rfl rfl dX0_isSound_49 ?_
        refine jv_icmp_gt (tgt := 59) B dX0_isSound_52 (by decide) (fun c52 => ?_) (fun c52 => ?_)
        · replace h := dc_t c52 h
          refine jv_iconst (v := 0) B dX0_isSound_59 (by decide) ?_
          obtain rfl := Option.some.inj h
          exact jv_zret B E (Or.inl rfl) ⟨rfl, rfl⟩ ⟨by decide, by decide⟩ dX0_isSound_60
        · replace h := dc_f c52 h
          refine jv_iconst (v := 1) B dX0_isSound_55 (by decide) ?_
          refine jv_goto (tgt := 60) B dX0_isSound_56 (by decide) ?_
          obtain rfl := Option.some.inj h
          exact jv_zret B E (Or.inr rfl) ⟨rfl, rfl⟩ ⟨by decide, by decide⟩ dX0_isSound_60
    · replace h := dc_f c9 h
      refine jv_aload_n B dX0_isSound_12 rfl ?_
      refine jv_iload_n B dX0_isSound_13 rfl ?_
      obtain ⟨v3, hv3, h⟩ := dc_b h
      refine jv_callV0 B jyX0_depthOf jiX0_depthOf wm_X0_91 (qX0_depthOf _ G _ hv3) ⟨⟨by decide, by decide⟩, by decide, by decide⟩ rfl rfl rfl rfl rfl (Nat.le_of_ble_eq_true rfl) dX0_isSound_14 ?_
      refine jv_if_ne (tgt := 33) B dX0_isSound_17 (by decide) (fun c17 => ?_) (fun c17 => ?_)
      · replace h := dc_f c17 h
        exact jv_lv (lv' := [(0, _), (1, _), (2, _)]) (lvi_cons rfl (lvi_cons rfl (lvi_cons rfl lvi_nil))) (tX0_isSound_33 B E (fun z0 z1 z2 z3 z4 z5 => bX0_isSound_4  nn z0 z1 z2 z3 z4 z5) (fun h => ih _ _ h) h)
      · replace h := dc_t c17 h
        refine jv_aload_n B dX0_isSound_20 rfl ?_
        refine jv_iload_n B dX0_isSound_21 rfl ?_
        obtain ⟨v4, hv4, h⟩ := dc_b h
        refine jv_callV0 B jyX0_kindOf jiX0_kindOf wm_X0_94 (qX0_kindOf _ G _ hv4) ⟨⟨by decide, by decide⟩, by decide, by decide⟩ rfl rfl rfl rfl rfl (Nat.le_of_ble_eq_true rfl) dX0_isSound_22 ?_
        refine jv_bipush (v := 11) B dX0_isSound_25 (by decide) ?_
        refine jv_icmp_eq (tgt := 33) B dX0_isSound_27 (by decide) (fun c27 => ?_) (fun c27 => ?_)
        · replace h := dc_t c27 h
          exact jv_lv (lv' := [(0, _), (1, _), (2, _)]) (lvi_cons rfl (lvi_cons rfl (lvi_cons rfl lvi_nil))) (tX0_isSound_33 B E (fun z0 z1 z2 z3 z4 z5 => bX0_isSound_4  nn z0 z1 z2 z3 z4 z5) (fun h => ih _ _ h) h)
        · replace h := dc_f c27 h
          refine jv_iinc (v := x1 + 1) (lv' := [(0, _), (1, _), (2, _)]) B dX0_isSound_30 rfl (by rfl) (by decide) (lvi_cons rfl (lvi_cons rfl (lvi_cons rfl lvi_nil))) ?_
          exact jv_lv (lv' := [(0, _), (1, _), (2, _)]) (lvi_cons rfl (lvi_cons rfl (lvi_cons rfl lvi_nil))) (tX0_isSound_33 B E (fun z0 z1 z2 z3 z4 z5 => bX0_isSound_4  nn z0 z1 z2 z3 z4 z5) (fun h => ih _ _ h) h)
set_option maxRecDepth 100000 in
set_option maxHeartbeats 4000000 in
theorem tX0_isSound_0 {G : jG} {X : jX} {ad : Nat → Nat} {r : Int32} {kinds : Nat → Int32} {starts : Nat → Int32} {lengths : Nat → Int32} {depths : Nat → Int32} {numbers : Nat → Int64} {b_cells : Nat → Int32} {b_size : Int32} {b_tooLong : Int32} {openKinds : Nat → Int32} {size : Int32} {depth : Int32} {named : Int32} (B : jB G X cX0_isSound 3 RX0 { frames := 2, cells := 0, slots := 0, locals := 42 }) (E : jR G X (pd ad (some (.int r)) [ob 0 [.ref (ad 1), .ref (ad 2), .ref (ad 3), .ref (ad 4), .ref (ad 5), .ref (ad 6), .ref (ad 8), .int size, .int depth, .int named], aI G 1500 kinds, aI G 1500 starts, aI G 1500 lengths, aI G 1500 depths, aL G 1500 numbers, ob 2 [.ref (ad 7), .int b_size, .int b_tooLong], aB G 5000 b_cells, aI G 30 openKinds]) { frames := 2, cells := 0, slots := 0, locals := 42 } (some .boolean))   (h : bX0_isSound_0  kinds depths size depth = some r) : J G X 3 ad 0 0 [ob 0 [.ref (ad 1), .ref (ad 2), .ref (ad 3), .ref (ad 4), .ref (ad 5), .ref (ad 6), .ref (ad 8), .int size, .int depth, .int named], aI G 1500 kinds, aI G 1500 starts, aI G 1500 lengths, aI G 1500 depths, aL G 1500 numbers, ob 2 [.ref (ad 7), .int b_size, .int b_tooLong], aB G 5000 b_cells, aI G 30 openKinds] [(0, .ref (ad 0))] 0 [] := by
  unfold bX0_isSound_0 at h
  refine jv_iconst (v := 0) B dX0_isSound_0 (by decide) ?_
  refine jv_istore_n (lv' := [(0, _), (1, _)]) B dX0_isSound_1 (by decide) (lvi_cons rfl (lvi_cons rfl lvi_nil)) ?_
  refine jv_iconst (v := 0) B dX0_isSound_2 (by decide) ?_
  refine jv_istore_n (lv' := [(0, _), (1, _), (2, _)]) B dX0_isSound_3 (by decide) (lvi_cons rfl (lvi_cons rfl (lvi_cons rfl lvi_nil))) ?_
  exact jv_lv (lv' := [(0, _), (1, _), (2, _)]) (lvi_cons rfl (lvi_cons rfl (lvi_cons rfl lvi_nil))) (tX0_isSound_4 B E  FU _ _ h)
set_option maxRecDepth 100000 in
set_option maxHeartbeats 4000000 in
theorem qX0_isSound (l : Launch) (G : jG) (ad : Nat → Nat) {kinds : Nat → Int32} {starts : Nat → Int32} {lengths : Nat → Int32} {depths : Nat → Int32} {numbers : Nat → Int64} {b_cells : Nat → Int32} {b_size : Int32} {b_tooLong : Int32} {openKinds : Nat → Int32} {size : Int32} {depth : Int32} {named : Int32}  {r : Int32} (h : fX0_isSound kinds depths size depth = some r) : CT l G yX0_isSound cX0_isSound 3 (some .boolean) { frames := 2, cells := 0, slots := 0, locals := 42 } ad [.ref (ad 0)] [ob 0 [.ref (ad 1), .ref (ad 2), .ref (ad 3), .ref (ad 4), .ref (ad 5), .ref (ad 6), .ref (ad 8), .int size, .int depth, .int named], aI G 1500 kinds, aI G 1500 starts, aI G 1500 lengths, aI G 1500 depths, aL G 1500 numbers, ob 2 [.ref (ad 7), .int b_size, .int b_tooLong], aB G 5000 b_cells, aI G 30 openKinds] 0 (pd ad (some (.int r)) [ob 0 [.ref (ad 1), .ref (ad 2), .ref (ad 3), .ref (ad 4), .ref (ad 5), .ref (ad 6), .ref (ad 8), .int size, .int depth, .int named], aI G 1500 kinds, aI G 1500 starts, aI G 1500 lengths, aI G 1500 depths, aL G 1500 numbers, ob 2 [.ref (ad 7), .int b_size, .int b_tooLong], aB G 5000 b_cells, aI G 30 openKinds]) :=
  CT.of jyX0_isSound (Nat.le_of_ble_eq_true rfl) (fun X B E _ _ => tX0_isSound_0 B E h)
