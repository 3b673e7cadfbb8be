def bX2_push_0  (cap : Nat) (cells : Nat → Int32) (size : Int32) (tooLong : Int32) (p0 : Int32) : Option ((Nat → Int32) × (Int32) × (Int32)) :=
  (if (nI cap) ≤ size then some (cells, size, 1) else (if ix size cap then some ((upd cells (Int32.toNatClampNeg size) ((Int32.toInt8 ((Int32.toInt8 p0).toInt32)).toInt32)), (size + 1), tooLong) else none))
def fX2_push (cap : Nat) (cells : Nat → Int32) (size : Int32) (tooLong : Int32) (p0 : Int32) : Option ((Nat → Int32) × (Int32) × (Int32)) := bX2_push_0 cap cells size tooLong p0
set_option maxRecDepth 100000 in
set_option maxHeartbeats 4000000 in
theorem tX2_push_0 {G : jG} {X : jX} {ad : Nat → Nat} {r : (Nat → Int32) × (Int32) × (Int32)} {cap : Nat} (B : jB G X cX2_push 2 RX2 { frames := 0, cells := 0, slots := 0, locals := 0 }) (E : jR G X (pd ad none [ob 2 [.ref (ad 1), .int r.2.1, .int r.2.2], aB G cap r.1]) { frames := 0, cells := 0, slots := 0, locals := 0 } none) {cells : Nat → Int32} {size : Int32} {tooLong : Int32} {p0 : Int32} (h : bX2_push_0  cap cells size tooLong p0 = some r) : J G X 2 ad 0 0 [ob 2 [.ref (ad 1), .int size, .int tooLong], aB G cap cells] [(0, .ref (ad 0)), (1, .int p0)] 0 [] := by
  unfold bX2_push_0 at h
  refine jv_aload_n B dX2_push_0 rfl ?_
  refine jv_get B kX2 1 (by decide) wf_X2_15 rfl rfl dX2_push_1 ?_
  refine jv_aload_n B dX2_push_4 rfl ?_
  refine jv_get B kX2 0 (by decide) wf_X2_9 rfl rfl dX2_push_5 ?_
  refine jv_alenB B rfl dX2_push_8 ?_
  refine jv_icmp_ge (tgt := 36) B dX2_push_9 (by decide) (fun c9 => ?_) (fun c9 => ?_)
  · replace h := dc_t c9 h
    refine jv_aload_n B dX2_push_36 rfl ?_
    refine jv_iconst (v := 1) B dX2_push_37 (by decide) ?_
    refine jv_put (fs' := [_, _, _]) (ws' := [_, _]) B kX2 2 (by decide) wf_X2_19 rfl rfl rfl rfl (Nat.le_of_ble_eq_true rfl) rfl rfl dX2_push_38 ?_
    obtain rfl := Option.some.inj h
    exact jv_vret B E ⟨rfl, rfl⟩ ⟨by decide, by decide⟩ dX2_push_41
  · replace h := dc_f c9 h
    refine jv_aload_n B dX2_push_12 rfl ?_
    refine jv_get B kX2 0 (by decide) wf_X2_9 rfl rfl dX2_push_13 ?_
    refine jv_aload_n B dX2_push_16 rfl ?_
    refine jv_get B kX2 1 (by decide) wf_X2_15 rfl rfl dX2_push_17 ?_
    refine jv_iload_n B dX2_push_20 rfl ?_
    refine jv_i2b B dX2_push_21 ?_
    obtain ⟨g22, h⟩ := dc_if h
    refine jx_bast (ws' := [_, _]) B rfl g22 rfl dX2_push_22 ?_
    refine jv_aload_n B dX2_push_23 rfl ?_
    refine jv_dup B dX2_push_24 rfl ?_
    refine jv_get B kX2 1 (by decide) wf_X2_15 rfl rfl dX2_push_25 ?_
    refine jv_iconst (v := 1) B dX2_push_28 (by decide) ?_
    refine jv_iadd B dX2_push_29 ?_
    refine jv_put (fs' := [_, _, _]) (ws' := [_, _]) B kX2 1 (by decide) wf_X2_15 rfl rfl rfl rfl (Nat.le_of_ble_eq_true rfl) rfl rfl dX2_push_30 ?_
    refine jv_goto (tgt := 41) B dX2_push_33 (by decide) ?_
    obtain rfl := Option.some.inj h
    exact jv_vret B E ⟨rfl, rfl⟩ ⟨by decide, by decide⟩ dX2_push_41
set_option maxRecDepth 100000 in
set_option maxHeartbeats 4000000 in
theorem qX2_push (l : Launch) (G : jG) (ad : Nat → Nat) {cap : Nat} {cells : Nat → Int32} {size : Int32} {tooLong : Int32} {p0 : Int32} {r : (Nat → Int32) × (Int32) × (Int32)} (h : fX2_push cap cells size tooLong p0 = some r) : CT l G yX2_push cX2_push 2 none { frames := 0, cells := 0, slots := 0, locals := 0 } ad [.ref (ad 0), .int p0] [ob 2 [.ref (ad 1), .int size, .int tooLong], aB G cap cells] 0 (pd ad none [ob 2 [.ref (ad 1), .int r.2.1, .int r.2.2], aB G cap r.1]) :=
  CT.of jyX2_push (Nat.le_of_ble_eq_true rfl) (fun X B E _ _ => tX2_push_0 B E h)
def bX2_pushLowest_32  : Nat → Nat → (Nat → Int32) → Int32 → Int32 → Int64 → Int32 → Option (Int32 × (Nat → Int32) × (Int32) × (Int32))
  | 0, _, _, _, _, _, _ => none
  | nn + 1, cap, cells, size, tooLong, x1, x4 =>
    (if x4 < 0 then some (size, cells, size, tooLong) else ((fX2_push cap cells size tooLong (Int64.toInt32 ((Int64.toUInt64 x1 >>> ((Int32.toInt64 (8 * x4)).toUInt64 &&& Int64.toUInt64 63)).toInt64))).bind fun v2 => bX2_pushLowest_32  nn cap v2.1 v2.2.1 v2.2.2 x1 (x4 + (-1))))
def bX2_pushLowest_0  (cap : Nat) (cells : Nat → Int32) (size : Int32) (tooLong : Int32) (p0 : Int64) (p1 : Int32) : Option (Int32 × (Nat → Int32) × (Int32) × (Int32)) :=
  (if p1 < 1 then some ((-1), cells, size, tooLong) else (if 8 < p1 then some ((-1), cells, size, tooLong) else (if p1 ≤ ((nI cap) - size) then bX2_pushLowest_32  FU cap cells size tooLong p0 (p1 - 1) else some ((-1), cells, size, tooLong))))
def fX2_pushLowest (cap : Nat) (cells : Nat → Int32) (size : Int32) (tooLong : Int32) (p0 : Int64) (p1 : Int32) : Option (Int32 × (Nat → Int32) × (Int32) × (Int32)) := bX2_pushLowest_0 cap cells size tooLong p0 p1
set_option maxRecDepth 100000 in
set_option maxHeartbeats 4000000 in
theorem tX2_pushLowest_32 {G : jG} {X : jX} {ad : Nat → Nat} {r : Int32 × (Nat → Int32) × (Int32) × (Int32)} {cap : Nat} (B : jB G X cX2_pushLowest 5 RX2 { frames := 1, cells := 0, slots := 0, locals := 21 }) (E : jR G X (pd ad (some (.int r.1)) [ob 2 [.ref (ad 1), .int r.2.2.1, .int r.2.2.2], aB G cap r.2.1]) { frames := 1, cells := 0, slots := 0, locals := 21 } (some .int)) : ∀ (nn : Nat) (cells : Nat → Int32) (size : Int32) (tooLong : Int32) (x1 : Int64) (x4 : Int32), bX2_pushLowest_32  nn cap cells size tooLong x1 x4 = some r → J G X 5 ad 0 0 [ob 2 [.ref (ad 1), .int size, .int tooLong], aB G cap cells] [(0, .ref (ad 0)), (1, .long x1), (4, .int x4)] 32 [] := by
  intro nn
  induction nn with
  | zero => intro cells size tooLong x1 x4 h; cases h
  | succ nn ih =>
    intro cells size tooLong x1 x4 h
    unfold bX2_pushLowest_32 at h
    refine jv_iload B dX2_pushLowest_32 rfl ?_
    refine jv_if_lt (tgt := 55) B dX2_pushLowest_34 (by decide) (fun c34 => ?_) (fun c34 => ?_)
    · replace h := dc_t c34 h
      refine jv_aload_n B dX2_pushLowest_55 rfl ?_
      refine jv_get B kX2 1 (by decide) wf_X2_15 rfl rfl dX2_pushLowest_56 ?_
      obtain rfl := Option.some.inj h
      exact jv_iret B E ⟨rfl, rfl⟩ ⟨by decide, by decide⟩ dX2_pushLowest_59
    · replace h := dc_f c34 h
      refine jv_aload_n B dX2_pushLowest_37 rfl ?_
      refine jv_lload_n B dX2_pushLowest_38 rfl ?_
      refine jv_bipush (v := 8) B dX2_pushLowest_39 (by decide) ?_
      refine jv_iload B dX2_pushLowest_41 rfl ?_
      refine jv_imul B dX2_pushLowest_43 ?_
      refine jv_lushr B dX2_pushLowest_44 ?_
      refine jv_l2i B dX2_pushLowest_45 ?_
      obtain ⟨v2, hv2, h⟩ := dc_b h
      refine jv_callV0 B jyX2_push jiX2_push wm_X2_23 (qX2_push _ G _ hv2) ⟨⟨by decide, by decide⟩, by decide, by decide⟩ rfl rfl rfl rfl rfl (Nat.le_of_ble_eq_true rfl) dX2_pushLowest_46 ?_
      refine jv_iinc (v := x4 + (-1)) (lv' := [(0, _), (1, _), (4, _)]) B dX2_pushLowest_49 rfl (by rfl) (by decide) (lvi_cons rfl (lvi_cons rfl (lvi_cons rfl lvi_nil))) ?_
      refine jv_goto (tgt := 32) B dX2_pushLowest_52 (by decide) ?_
      exact jv_lv (lv' := [(0, _), (1, _), (4, _)]) (lvi_cons rfl (lvi_cons rfl (lvi_cons rfl lvi_nil))) (ih _ _ _ _ _ h)
set_option maxRecDepth 100000 in
set_option maxHeartbeats 4000000 in
theorem tX2_pushLowest_0 {G : jG} {X : jX} {ad : Nat → Nat} {r : Int32 × (Nat → Int32) × (Int32) × (Int32)} {cap : Nat} (B : jB G X cX2_pushLowest 5 RX2 { frames := 1, cells := 0, slots := 0, locals := 21 }) (E : jR G X (pd ad (some (.int r.1)) [ob 2 [.ref (ad 1), .int r.2.2.1, .int r.2.2.2], aB G cap r.2.1]) { frames := 1, cells := 0, slots := 0, locals := 21 } (some .int)) {cells : Nat → Int32} {size : Int32} {tooLong : Int32} {p0 : Int64} {p1 : Int32} (h : bX2_pushLowest_0  cap cells size tooLong p0 p1 = some r) : J G X 5 ad 0 0 [ob 2 [.ref (ad 1), .int size, .int tooLong], aB G cap cells] [(0, .ref (ad 0)), (1, .long p0), (3, .int p1)] 0 [] := by
  unfold bX2_pushLowest_0 at h
  refine jv_iload_n B dX2_pushLowest_0 rfl ?_
  refine jv_iconst (v := 1) B dX2_pushLowest_1 (by decide) ?_
  refine jv_icmp_lt (tgt := 25) B dX2_pushLowest_2 (by decide) (fun c2 => ?_) (fun c2 => ?_)
  · replace h := dc_t c2 h
    refine jv_iconst (v := (-1)) B dX2_pushLowest_25 (by decide) ?_
    obtain rfl := Option.some.inj h
    exact jv_iret B E ⟨rfl, rfl⟩ ⟨by decide, by decide⟩ dX2_pushLowest_26
  · replace h := dc_f c2 h
    refine jv_iload_n B dX2_pushLowest_5 rfl ?_
    refine jv_bipush (v := 8) B dX2_pushLowest_6 (by decide) ?_
    refine jv_icmp_gt (tgt := 25) B dX2_pushLowest_8 (by decide) (fun c8 => ?_) (fun c8 => ?_)
    · replace h := dc_t c8 h
      refine jv_iconst (v := (-1)) B dX2_pushLowest_25 (by decide) ?_
      obtain rfl := Option.some.inj h
      exact jv_iret B E ⟨rfl, rfl⟩ ⟨by decide, by decide⟩ dX2_pushLowest_26
    · replace h := dc_f c8 h
      refine jv_iload_n B dX2_pushLowest_11 rfl ?_
      refine jv_aload_n B dX2_pushLowest_12 rfl ?_
      refine jv_get B kX2 0 (by decide) wf_X2_9 rfl rfl dX2_pushLowest_13 ?_
      refine jv_alenB B rfl dX2_pushLowest_16 ?_
      refine jv_aload_n B dX2_pushLowest_17 rfl ?_
      refine jv_get B kX2 1 (by decide) wf_X2_15 rfl rfl dX2_pushLowest_18 ?_
      refine jv_isub B dX2_pushLowest_21 ?_
      refine jv_icmp_le (tgt := 27) B dX2_pushLowest_22 (by decide) (fun c22 => ?_) (fun c22 => ?_)
      · replace h := dc_t c22 h
        refine jv_iload_n B dX2_pushLowest_27 rfl ?_
        refine jv_iconst (v := 1) B dX2_pushLowest_28 (by decide) ?_
        refine jv_isub B dX2_pushLowest_29 ?_
        refine jv_istore (lv' := [(0, _), (1, _), (4, _)]) B dX2_pushLowest_30 (by decide) (lvi_cons rfl (lvi_cons rfl (lvi_cons rfl lvi_nil))) ?_
        exact jv_lv (lv' := [(0, _), (1, _), (4, _)]) (lvi_cons rfl (lvi_cons rfl (lvi_cons rfl lvi_nil))) (tX2_pushLowest_32 B E  FU _ _ _ _ _ h)
      · replace h := dc_f c22 h
        refine jv_iconst (v := (-1)) B dX2_pushLowest_25 (by decide) ?_
        obtain rfl := Option.some.inj h
        exact jv_iret B E ⟨rfl, rfl⟩ ⟨by decide, by decide⟩ dX2_pushLowest_26
set_option maxRecDepth 100000 in
set_option maxHeartbeats 4000000 in
theorem qX2_pushLowest (l : Launch) (G : jG) (ad : Nat → Nat) {cap : Nat} {cells : Nat → Int32} {size : Int32} {tooLong : Int32} {p0 : Int64} {p1 : Int32} {r : Int32 × (Nat → Int32) × (Int32) × (Int32)} (h : fX2_pushLowest cap cells size tooLong p0 p1 = some r) : CT l G yX2_pushLowest cX2_pushLowest 5 (some .int) { frames := 1, cells := 0, slots := 0, locals := 21 } ad [.ref (ad 0), .long p0, .int p1] [ob 2 [.ref (ad 1), .int size, .int tooLong], aB G cap cells] 0 (pd ad (some (.int r.1)) [ob 2 [.ref (ad 1), .int r.2.2.1, .int r.2.2.2], aB G cap r.2.1]) :=
  CT.of jyX2_pushLowest (Nat.le_of_ble_eq_true rfl) (fun X B E _ _ => tX2_pushLowest_0 B E h)
def bX2_size_0  (size : Int32)  : Option (Int32) :=
  some (size)
def fX2_size (size : Int32)  : Option (Int32) := bX2_size_0 size
set_option maxRecDepth 100000 in
set_option maxHeartbeats 4000000 in
theorem tX2_size_0 {G : jG} {X : jX} {ad : Nat → Nat} {r : Int32} {cap : Nat} {cells : Nat → Int32} {size : Int32} {tooLong : Int32} (B : jB G X cX2_size 1 RX2 { frames := 0, cells := 0, slots := 0, locals := 0 }) (E : jR G X (pd ad (some (.int r)) [ob 2 [.ref (ad 1), .int size, .int tooLong], aB G cap cells]) { frames := 0, cells := 0, slots := 0, locals := 0 } (some .int))   (h : bX2_size_0  size = some r) : J G X 1 ad 0 0 [ob 2 [.ref (ad 1), .int size, .int tooLong], aB G cap cells] [(0, .ref (ad 0))] 0 [] := by
  unfold bX2_size_0 at h
  refine jv_aload_n B dX2_size_0 rfl ?_
  refine jv_get B kX2 1 (by decide) wf_X2_15 rfl rfl dX2_size_1 ?_
  obtain rfl := Option.some.inj h
  exact jv_iret B E ⟨rfl, rfl⟩ ⟨by decide, by decide⟩ dX2_size_4
set_option maxRecDepth 100000 in
set_option maxHeartbeats 4000000 in
theorem qX2_size (l : Launch) (G : jG) (ad : Nat → Nat) {cap : Nat} {cells : Nat → Int32} {size : Int32} {tooLong : Int32}  {r : Int32} (h : fX2_size size = some r) : CT l G yX2_size cX2_size 1 (some .int) { frames := 0, cells := 0, slots := 0, locals := 0 } ad [.ref (ad 0)] [ob 2 [.ref (ad 1), .int size, .int tooLong], aB G cap cells] 0 (pd ad (some (.int r)) [ob 2 [.ref (ad 1), .int size, .int tooLong], aB G cap cells]) :=
  CT.of jyX2_size (Nat.le_of_ble_eq_true rfl) (fun X B E _ _ => tX2_size_0 B E h)
def bX2_at_0  (cap : Nat) (cells : Nat → Int32) (size : Int32) (p0 : Int32) : Option (Int32) :=
  (if p0 < 0 then some ((-1)) else (if size ≤ p0 then some ((-1)) else (if ix p0 cap then some (((cells (Int32.toNatClampNeg p0)) &&& 255)) else none)))
def fX2_at (cap : Nat) (cells : Nat → Int32) (size : Int32) (p0 : Int32) : Option (Int32) := bX2_at_0 cap cells size p0
set_option maxRecDepth 100000 in
set_option maxHeartbeats 4000000 in
theorem tX2_at_0 {G : jG} {X : jX} {ad : Nat → Nat} {r : Int32} {cap : Nat} {cells : Nat → Int32} {size : Int32} {tooLong : Int32} (B : jB G X cX2_at 2 RX2 { frames := 0, cells := 0, slots := 0, locals := 0 }) (E : jR G X (pd ad (some (.int r)) [ob 2 [.ref (ad 1), .int size, .int tooLong], aB G cap cells]) { frames := 0, cells := 0, slots := 0, locals := 0 } (some .int))  {p0 : Int32} (h : bX2_at_0  cap cells size p0 = some r) : J G X 2 ad 0 0 [ob 2 [.ref (ad 1), .int size, .int tooLong], aB G cap cells] [(0, .ref (ad 0)), (1, .int p0)] 0 [] := by
  unfold bX2_at_0 at h
  refine jv_iload_n B dX2_at_0 rfl ?_
  refine jv_if_lt (tgt := 25) B dX2_at_1 (by decide) (fun c1 => ?_) (fun c1 => ?_)
  · replace h := dc_t c1 h
    refine jv_iconst (v := (-1)) B dX2_at_25 (by decide) ?_
    obtain rfl := Option.some.inj h
    exact jv_iret B E ⟨rfl, rfl⟩ ⟨by decide, by decide⟩ dX2_at_26
  · replace h := dc_f c1 h
    refine jv_iload_n B dX2_at_4 rfl ?_
    refine jv_aload_n B dX2_at_5 rfl ?_
    refine jv_get B kX2 1 (by decide) wf_X2_15 rfl rfl dX2_at_6 ?_
    refine jv_icmp_ge (tgt := 25) B dX2_at_9 (by decide) (fun c9 => ?_) (fun c9 => ?_)
    · replace h := dc_t c9 h
      refine jv_iconst (v := (-1)) B dX2_at_25 (by decide) ?_
      obtain rfl := Option.some.inj h
      exact jv_iret B E ⟨rfl, rfl⟩ ⟨by decide, by decide⟩ dX2_at_26
    · replace h := dc_f c9 h
      refine jv_aload_n B dX2_at_12 rfl ?_
      refine jv_get B kX2 0 (by decide) wf_X2_9 rfl rfl dX2_at_13 ?_
      refine jv_iload_n B dX2_at_16 rfl ?_
      obtain ⟨g17, h⟩ := dc_if h
      refine jx_bald B rfl g17 dX2_at_17 ?_
      refine jv_sipush (v := 255) B dX2_at_18 (by decide) ?_
      refine jv_iand B dX2_at_21 ?_
      refine jv_goto (tgt := 26) B dX2_at_22 (by decide) ?_
      obtain rfl := Option.some.inj h
      exact jv_iret B E ⟨rfl, rfl⟩ ⟨by decide, by decide⟩ dX2_at_26
set_option maxRecDepth 100000 in
set_option maxHeartbeats 4000000 in
theorem qX2_at (l : Launch) (G : jG) (ad : Nat → Nat) {cap : Nat} {cells : Nat → Int32} {size : Int32} {tooLong : Int32} {p0 : Int32} {r : Int32} (h : fX2_at cap cells size p0 = some r) : CT l G yX2_at cX2_at 2 (some .int) { frames := 0, cells := 0, slots := 0, locals := 0 } ad [.ref (ad 0), .int p0] [ob 2 [.ref (ad 1), .int size, .int tooLong], aB G cap cells] 0 (pd ad (some (.int r)) [ob 2 [.ref (ad 1), .int size, .int tooLong], aB G cap cells]) :=
  CT.of jyX2_at (Nat.le_of_ble_eq_true rfl) (fun X B E _ _ => tX2_at_0 B E h)
def bX2_clear_0  (size : Int32) (tooLong : Int32)  : Option ((Int32) × (Int32)) :=
  some (0, 0)
def fX2_clear (size : Int32) (tooLong : Int32)  : Option ((Int32) × (Int32)) := bX2_clear_0 size tooLong
set_option maxRecDepth 100000 in
set_option maxHeartbeats 4000000 in
theorem tX2_clear_0 {G : jG} {X : jX} {ad : Nat → Nat} {r : (Int32) × (Int32)} {cap : Nat} {cells : Nat → Int32} (B : jB G X cX2_clear 1 RX2 { frames := 0, cells := 0, slots := 0, locals := 0 }) (E : jR G X (pd ad none [ob 2 [.ref (ad 1), .int r.1, .int r.2], aB G cap cells]) { frames := 0, cells := 0, slots := 0, locals := 0 } none) {size : Int32} {tooLong : Int32}  (h : bX2_clear_0  size tooLong = some r) : J G X 1 ad 0 0 [ob 2 [.ref (ad 1), .int size, .int tooLong], aB G cap cells] [(0, .ref (ad 0))] 0 [] := by
  unfold bX2_clear_0 at h
  refine jv_aload_n B dX2_clear_0 rfl ?_
  refine jv_iconst (v := 0) B dX2_clear_1 (by decide) ?_
  refine jv_put (fs' := [_, _, _]) (ws' := [_, _]) B kX2 1 (by decide) wf_X2_15 rfl rfl rfl rfl (Nat.le_of_ble_eq_true rfl) rfl rfl dX2_clear_2 ?_
  refine jv_aload_n B dX2_clear_5 rfl ?_
  refine jv_iconst (v := 0) B dX2_clear_6 (by decide) ?_
  refine jv_put (fs' := [_, _, _]) (ws' := [_, _]) B kX2 2 (by decide) wf_X2_19 rfl rfl rfl rfl (Nat.le_of_ble_eq_true rfl) rfl rfl dX2_clear_7 ?_
  obtain rfl := Option.some.inj h
  exact jv_vret B E ⟨rfl, rfl⟩ ⟨by decide, by decide⟩ dX2_clear_10
set_option maxRecDepth 100000 in
set_option maxHeartbeats 4000000 in
theorem qX2_clear (l : Launch) (G : jG) (ad : Nat → Nat) {cap : Nat} {cells : Nat → Int32} {size : Int32} {tooLong : Int32}  {r : (Int32) × (Int32)} (h : fX2_clear size tooLong = some r) : CT l G yX2_clear cX2_clear 1 none { frames := 0, cells := 0, slots := 0, locals := 0 } ad [.ref (ad 0)] [ob 2 [.ref (ad 1), .int size, .int tooLong], aB G cap cells] 0 (pd ad none [ob 2 [.ref (ad 1), .int r.1, .int r.2], aB G cap cells]) :=
  CT.of jyX2_clear (Nat.le_of_ble_eq_true rfl) (fun X B E _ _ => tX2_clear_0 B E h)
def bJ7_fill_53178_5  : Nat → Nat → (Nat → Int32) → Int32 → Int32 → Int32 → Option ((Nat → Int32))
  | 0, _, _, _, _, _ => none
  | nn + 1, n, a, x1, x2, x3 =>
    (if x3 ≤ x2 then some (a) else (if ix x2 n then bJ7_fill_53178_5  nn n (upd a (Int32.toNatClampNeg x2) x1) x1 (x2 + 1) x3 else none))
def bJ7_fill_53178_0  (n : Nat) (a : Nat → Int32) (p0 : Int32) : Option ((Nat → Int32)) :=
  bJ7_fill_53178_5  FU n a p0 0 (nI n)
def fJ7_fill_53178 (n : Nat) (a : Nat → Int32) (p0 : Int32) : Option ((Nat → Int32)) := bJ7_fill_53178_0 n a p0
set_option maxRecDepth 100000 in
set_option maxHeartbeats 4000000 in
theorem tJ7_fill_53178_5 {G : jG} {X : jX} {ad : Nat → Nat} {r : (Nat → Int32)} {n : Nat} (B : jB G X cJ7_fill_53178 4 RJ7 { frames := 0, cells := 0, slots := 0, locals := 0 }) (E : jR G X (pd ad none [aI G n r]) { frames := 0, cells := 0, slots := 0, locals := 0 } none) : ∀ (nn : Nat) (a : Nat → Int32) (x1 : Int32) (x2 : Int32) (x3 : Int32), bJ7_fill_53178_5  nn n a x1 x2 x3 = some r → J G X 4 ad 0 0 [aI G n a] [(0, .ref (ad 0)), (1, .int x1), (2, .int x2), (3, .int x3)] 5 [] := by
  intro nn
  induction nn with
  | zero => intro a x1 x2 x3 h; cases h
  | succ nn ih =>
    intro a x1 x2 x3 h
    unfold bJ7_fill_53178_5 at h
    refine jv_iload_n B dJ7_fill_53178_5 rfl ?_
    refine jv_iload_n B dJ7_fill_53178_6 rfl ?_
    refine jv_icmp_ge (tgt := 20) B dJ7_fill_53178_7 (by decide) (fun c7 => ?_) (fun c7 => ?_)
    · replace h := dc_t c7 h
      obtain rfl := Option.some.inj h
      exact jv_vret B E ⟨rfl, rfl⟩ ⟨by decide, by decide⟩ dJ7_fill_53178_20
    · replace h := dc_f c7 h
      refine jv_aload_n B dJ7_fill_53178_10 rfl ?_
      refine jv_iload_n B dJ7_fill_53178_11 rfl ?_
      refine jv_iload_n B dJ7_fill_53178_12 rfl ?_
      obtain ⟨g13, h⟩ := dc_if h
      refine jx_iast (ws' := [_]) B rfl g13 rfl dJ7_fill_53178_13 ?_
      refine jv_iinc (v := x2 + 1) (lv' := [(0, _), (1, _), (2, _), (3, _)]) B dJ7_fill_53178_14 rfl (by rfl) (by decide) (lvi_cons rfl (lvi_cons rfl (lvi_cons rfl (lvi_cons rfl lvi_nil)))) ?_
      refine jv_goto (tgt := 5) B dJ7_fill_53178_17 (by decide) ?_
      exact jv_lv (lv' := [(0, _), (1, _), (2, _), (3, _)]) (lvi_cons rfl (lvi_cons rfl (lvi_cons rfl (lvi_cons rfl lvi_nil)))) (ih _ _ _ _ h)
set_option maxRecDepth 100000 in
set_option maxHeartbeats 4000000 in
theorem tJ7_fill_53178_0 {G : jG} {X : jX} {ad : Nat → Nat} {r : (Nat → Int32)} {n : Nat} (B : jB G X cJ7_fill_53178 4 RJ7 { frames := 0, cells := 0, slots := 0, locals := 0 }) (E : jR G X (pd ad none [aI G n r]) { frames := 0, cells := 0, slots := 0, locals := 0 } none) {a : Nat → Int32} {p0 : Int32} (h : bJ7_fill_53178_0  n a p0 = some r) : J G X 4 ad 0 0 [aI G n a] [(0, .ref (ad 0)), (1, .int p0)] 0 [] := by
  unfold bJ7_fill_53178_0 at h
  refine jv_iconst (v := 0) B dJ7_fill_53178_0 (by decide) ?_
  refine jv_istore_n (lv' := [(0, _), (1, _), (2, _)]) B dJ7_fill_53178_1 (by decide) (lvi_cons rfl (lvi_cons rfl (lvi_cons rfl lvi_nil))) ?_
  refine jv_aload_n B dJ7_fill_53178_2 rfl ?_
  refine jv_alenI B rfl dJ7_fill_53178_3 ?_
  refine jv_istore_n (lv' := [(0, _), (1, _), (2, _), (3, _)]) B dJ7_fill_53178_4 (by decide) (lvi_cons rfl (lvi_cons rfl (lvi_cons rfl (lvi_cons rfl lvi_nil)))) ?_
  exact jv_lv (lv' := [(0, _), (1, _), (2, _), (3, _)]) (lvi_cons rfl (lvi_cons rfl (lvi_cons rfl (lvi_cons rfl lvi_nil)))) (tJ7_fill_53178_5 B E  FU _ _ _ _ h)
set_option maxRecDepth 100000 in
set_option maxHeartbeats 4000000 in
theorem qJ7_fill_53178 (l : Launch) (G : jG) (ad : Nat → Nat) {n : Nat} {a : Nat → Int32} {p0 : Int32} {r : (Nat → Int32)} (h : fJ7_fill_53178 n a p0 = some r) : CT l G yJ7_fill_53178 cJ7_fill_53178 4 none { frames := 0, cells := 0, slots := 0, locals := 0 } ad [.ref (ad 0), .int p0] [aI G n a] 0 (pd ad none [aI G n r]) :=
  CT.of jyJ7_fill_53178 (Nat.le_of_ble_eq_true rfl) (fun X B E _ _ => tJ7_fill_53178_0 B E h)
def bX2_isTooLong_0  (tooLong : Int32)  : Option (Int32) :=
  (if tooLong = 0 ∨ tooLong = 1 then some (tooLong) else none)
def fX2_isTooLong (tooLong : Int32)  : Option (Int32) := bX2_isTooLong_0 tooLong
set_option maxRecDepth 100000 in
set_option maxHeartbeats 4000000 in
theorem tX2_isTooLong_0 {G : jG} {X : jX} {ad : Nat → Nat} {r : Int32} {cap : Nat} {cells : Nat → Int32} {size : Int32} {tooLong : Int32} (B : jB G X cX2_isTooLong 1 RX2 { frames := 0, cells := 0, slots := 0, locals := 0 }) (E : jR G X (pd ad (some (.int r)) [ob 2 [.ref (ad 1), .int size, .int tooLong], aB G cap cells]) { frames := 0, cells := 0, slots := 0, locals := 0 } (some .boolean))   (h : bX2_isTooLong_0  tooLong = some r) : J G X 1 ad 0 0 [ob 2 [.ref (ad 1), .int size, .int tooLong], aB G cap cells] [(0, .ref (ad 0))] 0 [] := by
  unfold bX2_isTooLong_0 at h
  refine jv_aload_n B dX2_isTooLong_0 rfl ?_
  refine jv_get B kX2 2 (by decide) wf_X2_19 rfl rfl dX2_isTooLong_1 ?_
  obtain ⟨g4, h⟩ := dc_if h
  obtain rfl := Option.some.inj h
  exact jv_zret B E g4 ⟨rfl, rfl⟩ ⟨by decide, by decide⟩ dX2_isTooLong_4
set_option maxRecDepth 100000 in
set_option maxHeartbeats 4000000 in
theorem qX2_isTooLong (l : Launch) (G : jG) (ad : Nat → Nat) {cap : Nat} {cells : Nat → Int32} {size : Int32} {tooLong : Int32}  {r : Int32} (h : fX2_isTooLong tooLong = some r) : CT l G yX2_isTooLong cX2_isTooLong 1 (some .boolean) { frames := 0, cells := 0, slots := 0, locals := 0 } ad [.ref (ad 0)] [ob 2 [.ref (ad 1), .int size, .int tooLong], aB G cap cells] 0 (pd ad (some (.int r)) [ob 2 [.ref (ad 1), .int size, .int tooLong], aB G cap cells]) :=
  CT.of jyX2_isTooLong (Nat.le_of_ble_eq_true rfl) (fun X B E _ _ => tX2_isTooLong_0 B E h)
def bX2_copyFrom_6  : Nat → Nat → (Nat → Int32) → Int32 → Int32 → Nat → (Nat → Int32) → Int32 → Int32 → Option ((Nat → Int32) × (Int32) × (Int32))
  | 0, _, _, _, _, _, _, _, _ => none
  | nn + 1, cap, cells, size, tooLong, o_cap, o_cells, o_size, x2 =>
    (if o_size ≤ x2 then some (cells, size, tooLong) else ((fX2_at o_cap o_cells o_size x2).bind fun v4 => ((fX2_push cap cells size tooLong v4).bind fun v5 => bX2_copyFrom_6  nn cap v5.1 v5.2.1 v5.2.2 o_cap o_cells o_size (x2 + 1))))
def bX2_copyFrom_0  (cap : Nat) (cells : Nat → Int32) (size : Int32) (tooLong : Int32) (o_cap : Nat) (o_cells : Nat → Int32) (o_size : Int32)  : Option ((Nat → Int32) × (Int32) × (Int32)) :=
  ((fX2_clear size tooLong).bind fun v6 => bX2_copyFrom_6  FU cap cells v6.1 v6.2 o_cap o_cells o_size 0)
def fX2_copyFrom (cap : Nat) (cells : Nat → Int32) (size : Int32) (tooLong : Int32) (o_cap : Nat) (o_cells : Nat → Int32) (o_size : Int32)  : Option ((Nat → Int32) × (Int32) × (Int32)) := bX2_copyFrom_0 cap cells size tooLong o_cap o_cells o_size
set_option maxRecDepth 100000 in
set_option maxHeartbeats 4000000 in
theorem tX2_copyFrom_6 {G : jG} {X : jX} {ad : Nat → Nat} {r : (Nat → Int32) × (Int32) × (Int32)} {cap : Nat} {o_cap : Nat} {o_cells : Nat → Int32} {o_size : Int32} {o_tooLong : Int32} (B : jB G X cX2_copyFrom 3 RX2 { frames := 1, cells := 0, slots := 0, locals := 21 }) (E : jR G X (pd ad none [ob 2 [.ref (ad 1), .int r.2.1, .int r.2.2], aB G cap r.1, ob 2 [.ref (ad 3), .int o_size, .int o_tooLong], aB G o_cap o_cells]) { frames := 1, cells := 0, slots := 0, locals := 21 } none) : ∀ (nn : Nat) (cells : Nat → Int32) (size : Int32) (tooLong : Int32) (x2 : Int32), bX2_copyFrom_6  nn cap cells size tooLong o_cap o_cells o_size x2 = some r → J G X 3 ad 0 0 [ob 2 [.ref (ad 1), .int size, .int tooLong], aB G cap cells, ob 2 [.ref (ad 3), .int o_size, .int o_tooLong], aB G o_cap o_cells] [(0, .ref (ad 0)), (1, .ref (ad 2)), (2, .int x2)] 6 [] := by
  intro nn
  induction nn with
  | zero => intro cells size tooLong x2 h; cases h
  | succ nn ih =>
    intro cells size tooLong x2 h
    unfold bX2_copyFrom_6 at h
    refine jv_iload_n B dX2_copyFrom_6 rfl ?_
    refine jv_aload_n B dX2_copyFrom_7 rfl ?_
    refine jv_get B kX2 1 (by decide) wf_X2_15 rfl rfl dX2_copyFrom_8 ?_
    refine jv_icmp_ge (tgt := 29) B dX2_copyFrom_11 (by decide) (fun c11 => ?_) (fun c11 => ?_)
    · replace h := dc_t c11 h
      obtain rfl := Option.some.inj h
      exact jv_vret B E ⟨rfl, rfl⟩ ⟨by decide, by decide⟩ dX2_copyFrom_29
    · replace h := dc_f c11 h
      refine jv_aload_n B dX2_copyFrom_14 rfl ?_
      refine jv_aload_n B dX2_copyFrom_15 rfl ?_
      refine jv_iload_n B dX2_copyFrom_16 rfl ?_
      obtain ⟨v4, hv4, h⟩ := dc_b h
      refine jv_callV (ws' := [_, _, ob 2 [.ref (ad 3), _, _], _]) B jyX2_at jiX2_at wm_X2_30 [2, 3] (qX2_at _ G _ hv4) ⟨⟨by decide, by decide⟩, by decide, by decide⟩ rfl rfl rfl rfl rfl (by decide) rfl rfl rfl (Nat.le_of_ble_eq_true rfl) dX2_copyFrom_17 ?_
      obtain ⟨v5, hv5, h⟩ := dc_b h
      refine jv_callV (ws' := [ob 2 [.ref (ad 1), _, _], _, _, _]) B jyX2_push jiX2_push wm_X2_23 [0, 1] (qX2_push _ G _ hv5) ⟨⟨by decide, by decide⟩, by decide, by decide⟩ rfl rfl rfl rfl rfl (by decide) rfl rfl rfl (Nat.le_of_ble_eq_true rfl) dX2_copyFrom_20 ?_
      refine jv_iinc (v := x2 + 1) (lv' := [(0, _), (1, _), (2, _)]) B dX2_copyFrom_23 rfl (by rfl) (by decide) (lvi_cons rfl (lvi_cons rfl (lvi_cons rfl lvi_nil))) ?_
      refine jv_goto (tgt := 6) B dX2_copyFrom_26 (by decide) ?_
      exact jv_lv (lv' := [(0, _), (1, _), (2, _)]) (lvi_cons rfl (lvi_cons rfl (lvi_cons rfl lvi_nil))) (ih _ _ _ _ h)
set_option maxRecDepth 100000 in
set_option maxHeartbeats 4000000 in
theorem tX2_copyFrom_0 {G : jG} {X : jX} {ad : Nat → Nat} {r : (Nat → Int32) × (Int32) × (Int32)} {cap : Nat} {o_cap : Nat} {o_cells : Nat → Int32} {o_size : Int32} {o_tooLong : Int32} (B : jB G X cX2_copyFrom 3 RX2 { frames := 1, cells := 0, slots := 0, locals := 21 }) (E : jR G X (pd ad none [ob 2 [.ref (ad 1), .int r.2.1, .int r.2.2], aB G cap r.1, ob 2 [.ref (ad 3), .int o_size, .int o_tooLong], aB G o_cap o_cells]) { frames := 1, cells := 0, slots := 0, locals := 21 } none) {cells : Nat → Int32} {size : Int32} {tooLong : Int32}  (h : bX2_copyFrom_0  cap cells size tooLong o_cap o_cells o_size = some r) : J G X 3 ad 0 0 [ob 2 [.ref (ad 1), .int size, .int tooLong], aB G cap cells, ob 2 [.ref (ad 3), .int o_size, .int o_tooLong], aB G o_cap o_cells] [(0, .ref (ad 0)), (1, .ref (ad 2))] 0 [] := by
  unfold bX2_copyFrom_0 at h
  refine jv_aload_n B dX2_copyFrom_0 rfl ?_
  obtain ⟨v6, hv6, h⟩ := dc_b h
  refine jv_callV (ws' := [ob 2 [.ref (ad 1), _, _], _, _, _]) B jyX2_clear jiX2_clear wm_X2_27 [0, 1] (qX2_clear _ G _ hv6) ⟨⟨by decide, by decide⟩, by decide, by decide⟩ rfl rfl rfl rfl rfl (by decide) rfl rfl rfl (Nat.le_of_ble_eq_true rfl) dX2_copyFrom_1 ?_
  refine jv_iconst (v := 0) B dX2_copyFrom_4 (by decide) ?_
  refine jv_istore_n (lv' := [(0, _), (1, _), (2, _)]) B dX2_copyFrom_5 (by decide) (lvi_cons rfl (lvi_cons rfl (lvi_cons rfl lvi_nil))) ?_
  exact jv_lv (lv' := [(0, _), (1, _), (2, _)]) (lvi_cons rfl (lvi_cons rfl (lvi_cons rfl lvi_nil))) (tX2_copyFrom_6 B E  FU _ _ _ _ h)
set_option maxRecDepth 100000 in
set_option maxHeartbeats 4000000 in
theorem qX2_copyFrom (l : Launch) (G : jG) (ad : Nat → Nat) {cap : Nat} {cells : Nat → Int32} {size : Int32} {tooLong : Int32} {o_cap : Nat} {o_cells : Nat → Int32} {o_size : Int32} {o_tooLong : Int32}  {r : (Nat → Int32) × (Int32) × (Int32)} (h : fX2_copyFrom cap cells size tooLong o_cap o_cells o_size = some r) : CT l G yX2_copyFrom cX2_copyFrom 3 none { frames := 1, cells := 0, slots := 0, locals := 21 } ad [.ref (ad 0), .ref (ad 2)] [ob 2 [.ref (ad 1), .int size, .int tooLong], aB G cap cells, ob 2 [.ref (ad 3), .int o_size, .int o_tooLong], aB G o_cap o_cells] 0 (pd ad none [ob 2 [.ref (ad 1), .int r.2.1, .int r.2.2], aB G cap r.1, ob 2 [.ref (ad 3), .int o_size, .int o_tooLong], aB G o_cap o_cells]) :=
  CT.of jyX2_copyFrom (Nat.le_of_ble_eq_true rfl) (fun X B E _ _ => tX2_copyFrom_0 B E h)
