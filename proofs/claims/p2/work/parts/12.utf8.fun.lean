def bX4_isBetween_0   (p0 : Int32) (p1 : Int32) (p2 : Int32) : Option (Int32) :=
  (if p0 < p1 then some (0) else (if p2 < p0 then some (0) else some (1)))
def fX4_isBetween  (p0 : Int32) (p1 : Int32) (p2 : Int32) : Option (Int32) := bX4_isBetween_0 p0 p1 p2
set_option maxRecDepth 100000 in
set_option maxHeartbeats 4000000 in
theorem tX4_isBetween_0 {G : jG} {X : jX} {ad : Nat → Nat} {r : Int32}  (B : jB G X cX4_isBetween 3 RX4 { frames := 0, cells := 0, slots := 0, locals := 0 }) (E : jR G X (pd ad (some (.int r)) []) { frames := 0, cells := 0, slots := 0, locals := 0 } (some .boolean))  {p0 : Int32} {p1 : Int32} {p2 : Int32} (h : bX4_isBetween_0  p0 p1 p2 = some r) : J G X 3 ad 0 0 [] [(0, .int p0), (1, .int p1), (2, .int p2)] 0 [] := by
  unfold bX4_isBetween_0 at h
  refine jv_iload_n B dX4_isBetween_0 rfl ?_
  refine jv_iload_n B dX4_isBetween_1 rfl ?_
  refine jv_icmp_lt (tgt := 14) B dX4_isBetween_2 (by decide) (fun c2 => ?_) (fun c2 => ?_)
  · replace h := dc_t c2 h
    refine jv_iconst (v := 0) B dX4_isBetween_14 (by decide) ?_
    obtain rfl := Option.some.inj h
    exact jv_zret B E (Or.inl rfl) ⟨rfl, rfl⟩ ⟨by decide, by decide⟩ dX4_isBetween_15
  · replace h := dc_f c2 h
    refine jv_iload_n B dX4_isBetween_5 rfl ?_
    refine jv_iload_n B dX4_isBetween_6 rfl ?_
    refine jv_icmp_gt (tgt := 14) B dX4_isBetween_7 (by decide) (fun c7 => ?_) (fun c7 => ?_)
    · replace h := dc_t c7 h
      refine jv_iconst (v := 0) B dX4_isBetween_14 (by decide) ?_
      obtain rfl := Option.some.inj h
      exact jv_zret B E (Or.inl rfl) ⟨rfl, rfl⟩ ⟨by decide, by decide⟩ dX4_isBetween_15
    · replace h := dc_f c7 h
      refine jv_iconst (v := 1) B dX4_isBetween_10 (by decide) ?_
      refine jv_goto (tgt := 15) B dX4_isBetween_11 (by decide) ?_
      obtain rfl := Option.some.inj h
      exact jv_zret B E (Or.inr rfl) ⟨rfl, rfl⟩ ⟨by decide, by decide⟩ dX4_isBetween_15
set_option maxRecDepth 100000 in
set_option maxHeartbeats 4000000 in
theorem qX4_isBetween (l : Launch) (G : jG) (ad : Nat → Nat)  {p0 : Int32} {p1 : Int32} {p2 : Int32} {r : Int32} (h : fX4_isBetween p0 p1 p2 = some r) : CT l G yX4_isBetween cX4_isBetween 3 (some .boolean) { frames := 0, cells := 0, slots := 0, locals := 0 } ad [.int p0, .int p1, .int p2] [] 0 (pd ad (some (.int r)) []) :=
  CT.of jyX4_isBetween (Nat.le_of_ble_eq_true rfl) (fun X B E _ _ => tX4_isBetween_0 B E h)
def bX4_isSecond_0   (p0 : Int32) (p1 : Int32) : Option (Int32) :=
  (if p0 = 224 then ((fX4_isBetween p1 160 191).bind fun v6 => (if v6 = 0 ∨ v6 = 1 then some (v6) else none)) else (if p0 = 237 then ((fX4_isBetween p1 128 159).bind fun v7 => (if v7 = 0 ∨ v7 = 1 then some (v7) else none)) else (if p0 = 240 then ((fX4_isBetween p1 144 191).bind fun v8 => (if v8 = 0 ∨ v8 = 1 then some (v8) else none)) else (if p0 = 244 then ((fX4_isBetween p1 128 143).bind fun v9 => (if v9 = 0 ∨ v9 = 1 then some (v9) else none)) else ((fX4_isBetween p1 128 191).bind fun v10 => (if v10 = 0 ∨ v10 = 1 then some (v10) else none))))))
def fX4_isSecond  (p0 : Int32) (p1 : Int32) : Option (Int32) := bX4_isSecond_0 p0 p1
set_option maxRecDepth 100000 in
set_option maxHeartbeats 4000000 in
theorem tX4_isSecond_0 {G : jG} {X : jX} {ad : Nat → Nat} {r : Int32}  (B : jB G X cX4_isSecond 2 RX4 { frames := 1, cells := 0, slots := 0, locals := 22 }) (E : jR G X (pd ad (some (.int r)) []) { frames := 1, cells := 0, slots := 0, locals := 22 } (some .boolean))  {p0 : Int32} {p1 : Int32} (h : bX4_isSecond_0  p0 p1 = some r) : J G X 2 ad 0 0 [] [(0, .int p0), (1, .int p1)] 0 [] := by
  unfold bX4_isSecond_0 at h
  refine jv_iload_n B dX4_isSecond_0 rfl ?_
  by_cases c1_224 : p0 = 224
  · replace h := dc_t c1_224 h
    refine jv_lsw (tgt := 44) (off := 43) B dX4_isSecond_1 (by decide) (by rw [c1_224] <;> decide) (by decide) ?_
    refine jv_iload_n B dX4_isSecond_44 rfl ?_
    refine jv_sipush (v := 160) B dX4_isSecond_45 (by decide) ?_
    refine jv_sipush (v := 191) B dX4_isSecond_48 (by decide) ?_
    obtain ⟨v6, hv6, h⟩ := dc_b h
    refine jv_callS (ws' := []) B jyX4_isBetween jtX4_isBetween wm_X4_23 [] (qX4_isBetween _ G _ hv6) ⟨⟨by decide, by decide⟩, by decide, by decide⟩ rfl rfl (by decide) rfl rfl rfl (Nat.le_of_ble_eq_true rfl) dX4_isSecond_51 ?_
    obtain ⟨g54, h⟩ := dc_if h
    obtain rfl := Option.some.inj h
    exact jv_zret B E g54 ⟨rfl, rfl⟩ ⟨by decide, by decide⟩ dX4_isSecond_54
  replace h := dc_f c1_224 h
  by_cases c1_237 : p0 = 237
  · replace h := dc_t c1_237 h
    refine jv_lsw (tgt := 55) (off := 54) B dX4_isSecond_1 (by decide) (by rw [c1_237] <;> decide) (by decide) ?_
    refine jv_iload_n B dX4_isSecond_55 rfl ?_
    refine jv_sipush (v := 128) B dX4_isSecond_56 (by decide) ?_
    refine jv_sipush (v := 159) B dX4_isSecond_59 (by decide) ?_
    obtain ⟨v7, hv7, h⟩ := dc_b h
    refine jv_callS (ws' := []) B jyX4_isBetween jtX4_isBetween wm_X4_23 [] (qX4_isBetween _ G _ hv7) ⟨⟨by decide, by decide⟩, by decide, by decide⟩ rfl rfl (by decide) rfl rfl rfl (Nat.le_of_ble_eq_true rfl) dX4_isSecond_62 ?_
    obtain ⟨g65, h⟩ := dc_if h
    obtain rfl := Option.some.inj h
    exact jv_zret B E g65 ⟨rfl, rfl⟩ ⟨by decide, by decide⟩ dX4_isSecond_65
  replace h := dc_f c1_237 h
  by_cases c1_240 : p0 = 240
  · replace h := dc_t c1_240 h
    refine jv_lsw (tgt := 66) (off := 65) B dX4_isSecond_1 (by decide) (by rw [c1_240] <;> decide) (by decide) ?_
    refine jv_iload_n B dX4_isSecond_66 rfl ?_
    refine jv_sipush (v := 144) B dX4_isSecond_67 (by decide) ?_
    refine jv_sipush (v := 191) B dX4_isSecond_70 (by decide) ?_
    obtain ⟨v8, hv8, h⟩ := dc_b h
    refine jv_callS (ws' := []) B jyX4_isBetween jtX4_isBetween wm_X4_23 [] (qX4_isBetween _ G _ hv8) ⟨⟨by decide, by decide⟩, by decide, by decide⟩ rfl rfl (by decide) rfl rfl rfl (Nat.le_of_ble_eq_true rfl) dX4_isSecond_73 ?_
    obtain ⟨g76, h⟩ := dc_if h
    obtain rfl := Option.some.inj h
    exact jv_zret B E g76 ⟨rfl, rfl⟩ ⟨by decide, by decide⟩ dX4_isSecond_76
  replace h := dc_f c1_240 h
  by_cases c1_244 : p0 = 244
  · replace h := dc_t c1_244 h
    refine jv_lsw (tgt := 77) (off := 76) B dX4_isSecond_1 (by decide) (by rw [c1_244] <;> decide) (by decide) ?_
    refine jv_iload_n B dX4_isSecond_77 rfl ?_
    refine jv_sipush (v := 128) B dX4_isSecond_78 (by decide) ?_
    refine jv_sipush (v := 143) B dX4_isSecond_81 (by decide) ?_
    obtain ⟨v9, hv9, h⟩ := dc_b h
    refine jv_callS (ws' := []) B jyX4_isBetween jtX4_isBetween wm_X4_23 [] (qX4_isBetween _ G _ hv9) ⟨⟨by decide, by decide⟩, by decide, by decide⟩ rfl rfl (by decide) rfl rfl rfl (Nat.le_of_ble_eq_true rfl) dX4_isSecond_84 ?_
    obtain ⟨g87, h⟩ := dc_if h
    obtain rfl := Option.some.inj h
    exact jv_zret B E g87 ⟨rfl, rfl⟩ ⟨by decide, by decide⟩ dX4_isSecond_87
  replace h := dc_f c1_244 h
  refine jv_lsw (tgt := 88) B dX4_isSecond_1 (by decide) (off := 87) (by show Op.lookupswitch.offset [(224, 43), (237, 54), (240, 65), (244, 76)] 87 _ = _; rw [lv_osw c1_224 (by decide), lv_osw c1_237 (by decide), lv_osw c1_240 (by decide), lv_osw c1_244 (by decide)]; rfl) (by decide) ?_
  refine jv_iload_n B dX4_isSecond_88 rfl ?_
  refine jv_sipush (v := 128) B dX4_isSecond_89 (by decide) ?_
  refine jv_sipush (v := 191) B dX4_isSecond_92 (by decide) ?_
  obtain ⟨v10, hv10, h⟩ := dc_b h
  refine jv_callS (ws' := []) B jyX4_isBetween jtX4_isBetween wm_X4_23 [] (qX4_isBetween _ G _ hv10) ⟨⟨by decide, by decide⟩, by decide, by decide⟩ rfl rfl (by decide) rfl rfl rfl (Nat.le_of_ble_eq_true rfl) dX4_isSecond_95 ?_
  obtain ⟨g98, h⟩ := dc_if h
  obtain rfl := Option.some.inj h
  exact jv_zret B E g98 ⟨rfl, rfl⟩ ⟨by decide, by decide⟩ dX4_isSecond_98
set_option maxRecDepth 100000 in
set_option maxHeartbeats 4000000 in
theorem qX4_isSecond (l : Launch) (G : jG) (ad : Nat → Nat)  {p0 : Int32} {p1 : Int32} {r : Int32} (h : fX4_isSecond p0 p1 = some r) : CT l G yX4_isSecond cX4_isSecond 2 (some .boolean) { frames := 1, cells := 0, slots := 0, locals := 22 } ad [.int p0, .int p1] [] 0 (pd ad (some (.int r)) []) :=
  CT.of jyX4_isSecond (Nat.le_of_ble_eq_true rfl) (fun X B E _ _ => tX4_isSecond_0 B E h)
def bX4_widthAt_78  : Nat → Nat → (Nat → Int32) → Int32 → Int32 → Int32 → Int32 → Option (Int32)
  | 0, _, _, _, _, _, _ => none
  | nn + 1, cap, cells, size, x1, x3, x4 =>
    (if x3 ≤ x4 then some (x3) else ((fX2_at cap cells size (x1 + x4)).bind fun v6 => ((fX4_isBetween v6 128 191).bind fun v7 => (if v7 = 0 then some (0) else bX4_widthAt_78  nn cap cells size x1 x3 (x4 + 1)))))
def bX4_widthAt_74  (cap : Nat) (cells : Nat → Int32) (size : Int32) (x1 : Int32) (s0 : Int32) : Option (Int32) :=
  bX4_widthAt_78  FU cap cells size x1 s0 2
def bX4_widthAt_0  (cap : Nat) (cells : Nat → Int32) (size : Int32) (p0 : Int32) : Option (Int32) :=
  ((fX2_at cap cells size p0).bind fun v8 => (if 0 ≤ v8 then (if 128 ≤ v8 then (if v8 < 194 then some (0) else (if 244 < v8 then some (0) else ((fX2_at cap cells size (p0 + 1)).bind fun v9 => ((fX4_isSecond v8 v9).bind fun v10 => (if v10 = 0 then some (0) else (if 224 ≤ v8 then (if 240 ≤ v8 then bX4_widthAt_74  cap cells size p0 4 else bX4_widthAt_74  cap cells size p0 3) else bX4_widthAt_74  cap cells size p0 2)))))) else some (1)) else some (0)))
def fX4_widthAt (cap : Nat) (cells : Nat → Int32) (size : Int32) (p0 : Int32) : Option (Int32) := bX4_widthAt_0 cap cells size p0
set_option maxRecDepth 100000 in
set_option maxHeartbeats 4000000 in
theorem tX4_widthAt_78 {G : jG} {X : jX} {ad : Nat → Nat} {r : Int32} {cap : Nat} {cells : Nat → Int32} {size : Int32} {tooLong : Int32} (B : jB G X cX4_widthAt 5 RX4 { frames := 2, cells := 0, slots := 0, locals := 43 }) (E : jR G X (pd ad (some (.int r)) [ob 2 [.ref (ad 1), .int size, .int tooLong], aB G cap cells]) { frames := 2, cells := 0, slots := 0, locals := 43 } (some .int)) : ∀ (nn : Nat)  (x1 : Int32) (x3 : Int32) (x4 : Int32), bX4_widthAt_78  nn cap cells size x1 x3 x4 = some r → J G X 5 ad 0 0 [ob 2 [.ref (ad 1), .int size, .int tooLong], aB G cap cells] [(0, .ref (ad 0)), (1, .int x1), (3, .int x3), (4, .int x4)] 78 [] := by
  intro nn
  induction nn with
  | zero => intro x1 x3 x4 h; cases h
  | succ nn ih =>
    intro x1 x3 x4 h
    unfold bX4_widthAt_78 at h
    refine jv_iload B dX4_widthAt_78 rfl ?_
    refine jv_iload_n B dX4_widthAt_80 rfl ?_
    refine jv_icmp_ge (tgt := 112) B dX4_widthAt_81 (by decide) (fun c81 => ?_) (fun c81 => ?_)
    · replace h := dc_t c81 h
      refine jv_iload_n B dX4_widthAt_112 rfl ?_
      obtain rfl := Option.some.inj h
      exact jv_iret B E ⟨rfl, rfl⟩ ⟨by decide, by decide⟩ dX4_widthAt_113
    · replace h := dc_f c81 h
      refine jv_aload_n B dX4_widthAt_84 rfl ?_
      refine jv_iload_n B dX4_widthAt_85 rfl ?_
      refine jv_iload B dX4_widthAt_86 rfl ?_
      refine jv_iadd B dX4_widthAt_88 ?_
      obtain ⟨v6, hv6, h⟩ := dc_b h
      refine jv_callV0 B jyX2_at jiX2_at wm_X4_7 (qX2_at _ G _ hv6) ⟨⟨by decide, by decide⟩, by decide, by decide⟩ rfl rfl rfl rfl rfl (Nat.le_of_ble_eq_true rfl) dX4_widthAt_89 ?_
      refine jv_sipush (v := 128) B dX4_widthAt_92 (by decide) ?_
      refine jv_sipush (v := 191) B dX4_widthAt_95 (by decide) ?_
      obtain ⟨v7, hv7, h⟩ := dc_b h
      refine jv_callS (ws' := [_, _]) B jyX4_isBetween jtX4_isBetween wm_X4_23 [] (qX4_isBetween _ G _ hv7) ⟨⟨by decide, by decide⟩, by decide, by decide⟩ rfl rfl (by decide) rfl rfl rfl (Nat.le_of_ble_eq_true rfl) dX4_widthAt_98 ?_
      refine jv_if_ne (tgt := 106) B dX4_widthAt_101 (by decide) (fun c101 => ?_) (fun c101 => ?_)
      · replace h := dc_f c101 h
        refine jv_iinc (v := x4 + 1) (lv' := [(0, _), (1, _), (3, _), (4, _)]) B dX4_widthAt_106 rfl (by rfl) (by decide) (lvi_cons rfl (lvi_cons rfl (lvi_cons rfl (lvi_cons rfl lvi_nil)))) ?_
        refine jv_goto (tgt := 78) B dX4_widthAt_109 (by decide) ?_
        exact jv_lv (lv' := [(0, _), (1, _), (3, _), (4, _)]) (lvi_cons rfl (lvi_cons rfl (lvi_cons rfl (lvi_cons rfl lvi_nil)))) (ih _ _ _ h)
      · replace h := dc_t c101 h
        refine jv_iconst (v := 0) B dX4_widthAt_104 (by decide) ?_
        obtain rfl := Option.some.inj h
        exact jv_iret B E ⟨rfl, rfl⟩ ⟨by decide, by decide⟩ dX4_widthAt_105
set_option maxRecDepth 100000 in
set_option maxHeartbeats 4000000 in
theorem tX4_widthAt_74 {G : jG} {X : jX} {ad : Nat → Nat} {r : Int32} {cap : Nat} {cells : Nat → Int32} {size : Int32} {tooLong : Int32} (B : jB G X cX4_widthAt 5 RX4 { frames := 2, cells := 0, slots := 0, locals := 43 }) (E : jR G X (pd ad (some (.int r)) [ob 2 [.ref (ad 1), .int size, .int tooLong], aB G cap cells]) { frames := 2, cells := 0, slots := 0, locals := 43 } (some .int))  {x1 : Int32} {s0 : Int32} (h : bX4_widthAt_74  cap cells size x1 s0 = some r) : J G X 5 ad 0 0 [ob 2 [.ref (ad 1), .int size, .int tooLong], aB G cap cells] [(0, .ref (ad 0)), (1, .int x1)] 74 [.int s0] := by
  unfold bX4_widthAt_74 at h
  refine jv_istore_n (lv' := [(0, _), (1, _), (3, _)]) B dX4_widthAt_74 (by decide) (lvi_cons rfl (lvi_cons rfl (lvi_cons rfl lvi_nil))) ?_
  refine jv_iconst (v := 2) B dX4_widthAt_75 (by decide) ?_
  refine jv_istore (lv' := [(0, _), (1, _), (3, _), (4, _)]) B dX4_widthAt_76 (by decide) (lvi_cons rfl (lvi_cons rfl (lvi_cons rfl (lvi_cons rfl lvi_nil)))) ?_
  exact jv_lv (lv' := [(0, _), (1, _), (3, _), (4, _)]) (lvi_cons rfl (lvi_cons rfl (lvi_cons rfl (lvi_cons rfl lvi_nil)))) (tX4_widthAt_78 B E  FU _ _ _ h)
set_option maxRecDepth 100000 in
set_option maxHeartbeats 4000000 in
theorem tX4_widthAt_0 {G : jG} {X : jX} {ad : Nat → Nat} {r : Int32} {cap : Nat} {cells : Nat → Int32} {size : Int32} {tooLong : Int32} (B : jB G X cX4_widthAt 5 RX4 { frames := 2, cells := 0, slots := 0, locals := 43 }) (E : jR G X (pd ad (some (.int r)) [ob 2 [.ref (ad 1), .int size, .int tooLong], aB G cap cells]) { frames := 2, cells := 0, slots := 0, locals := 43 } (some .int))  {p0 : Int32} (h : bX4_widthAt_0  cap cells size p0 = some r) : J G X 5 ad 0 0 [ob 2 [.ref (ad 1), .int size, .int tooLong], aB G cap cells] [(0, .ref (ad 0)), (1, .int p0)] 0 [] := by
  unfold bX4_widthAt_0 at h
  refine jv_aload_n B dX4_widthAt_0 rfl ?_
  refine jv_iload_n B dX4_widthAt_1 rfl ?_
  obtain ⟨v8, hv8, h⟩ := dc_b h
  refine jv_callV0 B jyX2_at jiX2_at wm_X4_7 (qX2_at _ G _ hv8) ⟨⟨by decide, by decide⟩, by decide, by decide⟩ rfl rfl rfl rfl rfl (Nat.le_of_ble_eq_true rfl) dX4_widthAt_2 ?_
  refine jv_istore_n (lv' := [(0, _), (1, _), (2, _)]) B dX4_widthAt_5 (by decide) (lvi_cons rfl (lvi_cons rfl (lvi_cons rfl lvi_nil))) ?_
  refine jv_iload_n B dX4_widthAt_6 rfl ?_
  refine jv_if_ge (tgt := 12) B dX4_widthAt_7 (by decide) (fun c7 => ?_) (fun c7 => ?_)
  · replace h := dc_t c7 h
    refine jv_iload_n B dX4_widthAt_12 rfl ?_
    refine jv_sipush (v := 128) B dX4_widthAt_13 (by decide) ?_
    refine jv_icmp_ge (tgt := 21) B dX4_widthAt_16 (by decide) (fun c16 => ?_) (fun c16 => ?_)
    · replace h := dc_t c16 h
      refine jv_iload_n B dX4_widthAt_21 rfl ?_
      refine jv_sipush (v := 194) B dX4_widthAt_22 (by decide) ?_
      refine jv_icmp_lt (tgt := 49) B dX4_widthAt_25 (by decide) (fun c25 => ?_) (fun c25 => ?_)
      · replace h := dc_t c25 h
        refine jv_iconst (v := 0) B dX4_widthAt_49 (by decide) ?_
        obtain rfl := Option.some.inj h
        exact jv_iret B E ⟨rfl, rfl⟩ ⟨by decide, by decide⟩ dX4_widthAt_50
      · replace h := dc_f c25 h
        refine jv_iload_n B dX4_widthAt_28 rfl ?_
        refine jv_sipush (v := 244) B dX4_widthAt_29 (by decide) ?_
        refine jv_icmp_gt (tgt := 49) B dX4_widthAt_32 (by decide) (fun c32 => ?_) (fun c32 => ?_)
        · replace h := dc_t c32 h
          refine jv_iconst (v := 0) B dX4_widthAt_49 (by decide) ?_
          obtain rfl := Option.some.inj h
          exact jv_iret B E ⟨rfl, rfl⟩ ⟨by decide, by decide⟩ dX4_widthAt_50
        · replace h := dc_f c32 h
          refine jv_iload_n B dX4_widthAt_35 rfl ?_
          refine jv_aload_n B dX4_widthAt_36 rfl ?_
          refine jv_iload_n B dX4_widthAt_37 rfl ?_
          refine jv_iconst (v := 1) B dX4_widthAt_38 (by decide) ?_
          refine jv_iadd B dX4_widthAt_39 ?_
          obtain ⟨v9, hv9, h⟩ := dc_b h
          refine jv_callV0 B jyX2_at jiX2_at wm_X4_7 (qX2_at _ G _ hv9) ⟨⟨by decide, by decide⟩, by decide, by decide⟩ rfl rfl rfl rfl rfl (Nat.le_of_ble_eq_true rfl) dX4_widthAt_40 ?_
          obtain ⟨v10, hv10, h⟩ := dc_b h
          refine jv_callS (ws' := [_, _]) B jyX4_isSecond jtX4_isSecond wm_X4_19 [] (qX4_isSecond _ G _ hv10) ⟨⟨by decide, by decide⟩, by decide, by decide⟩ rfl rfl (by decide) rfl rfl rfl (Nat.le_of_ble_eq_true rfl) dX4_widthAt_43 ?_
          refine jv_if_ne (tgt := 51) B dX4_widthAt_46 (by decide) (fun c46 => ?_) (fun c46 => ?_)
          · replace h := dc_f c46 h
            refine jv_iload_n B dX4_widthAt_51 rfl ?_
            refine jv_sipush (v := 224) B dX4_widthAt_52 (by decide) ?_
            refine jv_icmp_ge (tgt := 62) B dX4_widthAt_55 (by decide) (fun c55 => ?_) (fun c55 => ?_)
            · replace h := dc_t c55 h
              refine jv_iload_n B dX4_widthAt_62 rfl ?_
              refine jv_sipush (v := 240) B dX4_widthAt_63 (by decide) ?_
              refine jv_icmp_ge (tgt := 73) B dX4_widthAt_66 (by decide) (fun c66 => ?_) (fun c66 => ?_)
              · replace h := dc_t c66 h
                refine jv_iconst (v := 4) B dX4_widthAt_73 (by decide) ?_
                exact jv_lv (lv' := [(0, _), (1, _)]) (lvi_cons rfl (lvi_cons rfl lvi_nil)) (tX4_widthAt_74 B E  h)
              · replace h := dc_f c66 h
                refine jv_iconst (v := 3) B dX4_widthAt_69 (by decide) ?_
                refine jv_goto (tgt := 74) B dX4_widthAt_70 (by decide) ?_
                exact jv_lv (lv' := [(0, _), (1, _)]) (lvi_cons rfl (lvi_cons rfl lvi_nil)) (tX4_widthAt_74 B E  h)
            · replace h := dc_f c55 h
              refine jv_iconst (v := 2) B dX4_widthAt_58 (by decide) ?_
              refine jv_goto (tgt := 74) B dX4_widthAt_59 (by decide) ?_
              exact jv_lv (lv' := [(0, _), (1, _)]) (lvi_cons rfl (lvi_cons rfl lvi_nil)) (tX4_widthAt_74 B E  h)
          · replace h := dc_t c46 h
            refine jv_iconst (v := 0) B dX4_widthAt_49 (by decide) ?_
            obtain rfl := Option.some.inj h
            exact jv_iret B E ⟨rfl, rfl⟩ ⟨by decide, by decide⟩ dX4_widthAt_50
    · replace h := dc_f c16 h
      refine jv_iconst (v := 1) B dX4_widthAt_19 (by decide) ?_
      obtain rfl := Option.some.inj h
      exact jv_iret B E ⟨rfl, rfl⟩ ⟨by decide, by decide⟩ dX4_widthAt_20
  · replace h := dc_f c7 h
    refine jv_iconst (v := 0) B dX4_widthAt_10 (by decide) ?_
    obtain rfl := Option.some.inj h
    exact jv_iret B E ⟨rfl, rfl⟩ ⟨by decide, by decide⟩ dX4_widthAt_11
set_option maxRecDepth 100000 in
set_option maxHeartbeats 4000000 in
theorem qX4_widthAt (l : Launch) (G : jG) (ad : Nat → Nat) {cap : Nat} {cells : Nat → Int32} {size : Int32} {tooLong : Int32} {p0 : Int32} {r : Int32} (h : fX4_widthAt cap cells size p0 = some r) : CT l G yX4_widthAt cX4_widthAt 5 (some .int) { frames := 2, cells := 0, slots := 0, locals := 43 } ad [.ref (ad 0), .int p0] [ob 2 [.ref (ad 1), .int size, .int tooLong], aB G cap cells] 0 (pd ad (some (.int r)) [ob 2 [.ref (ad 1), .int size, .int tooLong], aB G cap cells]) :=
  CT.of jyX4_widthAt (Nat.le_of_ble_eq_true rfl) (fun X B E _ _ => tX4_widthAt_0 B E h)
def bX4_isText_7  : Nat → Nat → (Nat → Int32) → Int32 → Int32 → Int32 → Option (Int32)
  | 0, _, _, _, _, _ => none
  | nn + 1, cap, cells, size, x3, x4 =>
    (if x3 ≤ x4 then some (1) else ((fX4_widthAt cap cells size x4).bind fun v2 => (if v2 = 0 then some (0) else (if v2 ≤ (x3 - x4) then bX4_isText_7  nn cap cells size x3 (x4 + v2) else some (0)))))
def bX4_isText_0  (cap : Nat) (cells : Nat → Int32) (size : Int32) (p0 : Int32) (p1 : Int32) : Option (Int32) :=
  bX4_isText_7  FU cap cells size (p0 + p1) p0
def fX4_isText (cap : Nat) (cells : Nat → Int32) (size : Int32) (p0 : Int32) (p1 : Int32) : Option (Int32) := bX4_isText_0 cap cells size p0 p1
set_option maxRecDepth 100000 in
set_option maxHeartbeats 4000000 in
theorem tX4_isText_7 {G : jG} {X : jX} {ad : Nat → Nat} {r : Int32} {cap : Nat} {cells : Nat → Int32} {size : Int32} {tooLong : Int32} (B : jB G X cX4_isText 6 RX4 { frames := 3, cells := 0, slots := 0, locals := 67 }) (E : jR G X (pd ad (some (.int r)) [ob 2 [.ref (ad 1), .int size, .int tooLong], aB G cap cells]) { frames := 3, cells := 0, slots := 0, locals := 67 } (some .boolean)) : ∀ (nn : Nat)  (x3 : Int32) (x4 : Int32), bX4_isText_7  nn cap cells size x3 x4 = some r → J G X 6 ad 0 0 [ob 2 [.ref (ad 1), .int size, .int tooLong], aB G cap cells] [(0, .ref (ad 0)), (3, .int x3), (4, .int x4)] 7 [] := by
  intro nn
  induction nn with
  | zero => intro x3 x4 h; cases h
  | succ nn ih =>
    intro x3 x4 h
    unfold bX4_isText_7 at h
    refine jv_iload B dX4_isText_7 rfl ?_
    refine jv_iload_n B dX4_isText_9 rfl ?_
    refine jv_icmp_ge (tgt := 47) B dX4_isText_10 (by decide) (fun c10 => ?_) (fun c10 => ?_)
    · replace h := dc_t c10 h
      refine jv_iconst (v := 1) B dX4_isText_47 (by decide) ?_
      obtain rfl := Option.some.inj h
      exact jv_zret B E (Or.inr rfl) ⟨rfl, rfl⟩ ⟨by decide, by decide⟩ dX4_isText_48
    · replace h := dc_f c10 h
      refine jv_aload_n B dX4_isText_13 rfl ?_
      refine jv_iload B dX4_isText_14 rfl ?_
      obtain ⟨v2, hv2, h⟩ := dc_b h
      refine jv_callS (ws' := [ob 2 [.ref (ad 1), _, _], _]) B jyX4_widthAt jtX4_widthAt wm_X4_13 [0, 1] (qX4_widthAt _ G _ hv2) ⟨⟨by decide, by decide⟩, by decide, by decide⟩ rfl rfl (by decide) rfl rfl rfl (Nat.le_of_ble_eq_true rfl) dX4_isText_16 ?_
      refine jv_istore (lv' := [(0, _), (3, _), (4, _), (5, _)]) B dX4_isText_19 (by decide) (lvi_cons rfl (lvi_cons rfl (lvi_cons rfl (lvi_cons rfl lvi_nil)))) ?_
      refine jv_iload B dX4_isText_21 rfl ?_
      refine jv_if_eq (tgt := 35) B dX4_isText_23 (by decide) (fun c23 => ?_) (fun c23 => ?_)
      · replace h := dc_t c23 h
        refine jv_iconst (v := 0) B dX4_isText_35 (by decide) ?_
        obtain rfl := Option.some.inj h
        exact jv_zret B E (Or.inl rfl) ⟨rfl, rfl⟩ ⟨by decide, by decide⟩ dX4_isText_36
      · replace h := dc_f c23 h
        refine jv_iload B dX4_isText_26 rfl ?_
        refine jv_iload_n B dX4_isText_28 rfl ?_
        refine jv_iload B dX4_isText_29 rfl ?_
        refine jv_isub B dX4_isText_31 ?_
        refine jv_icmp_le (tgt := 37) B dX4_isText_32 (by decide) (fun c32 => ?_) (fun c32 => ?_)
        · replace h := dc_t c32 h
          refine jv_iload B dX4_isText_37 rfl ?_
          refine jv_iload B dX4_isText_39 rfl ?_
          refine jv_iadd B dX4_isText_41 ?_
          refine jv_istore (lv' := [(0, _), (3, _), (4, _)]) B dX4_isText_42 (by decide) (lvi_cons rfl (lvi_cons rfl (lvi_cons rfl lvi_nil))) ?_
          refine jv_goto (tgt := 7) B dX4_isText_44 (by decide) ?_
          exact jv_lv (lv' := [(0, _), (3, _), (4, _)]) (lvi_cons rfl (lvi_cons rfl (lvi_cons rfl lvi_nil))) (ih _ _ h)
        · replace h := dc_f c32 h
          refine jv_iconst (v := 0) B dX4_isText_35 (by decide) ?_
          obtain rfl := Option.some.inj h
          exact jv_zret B E (Or.inl rfl) ⟨rfl, rfl⟩ ⟨by decide, by decide⟩ dX4_isText_36
set_option maxRecDepth 100000 in
set_option maxHeartbeats 4000000 in
theorem tX4_isText_0 {G : jG} {X : jX} {ad : Nat → Nat} {r : Int32} {cap : Nat} {cells : Nat → Int32} {size : Int32} {tooLong : Int32} (B : jB G X cX4_isText 6 RX4 { frames := 3, cells := 0, slots := 0, locals := 67 }) (E : jR G X (pd ad (some (.int r)) [ob 2 [.ref (ad 1), .int size, .int tooLong], aB G cap cells]) { frames := 3, cells := 0, slots := 0, locals := 67 } (some .boolean))  {p0 : Int32} {p1 : Int32} (h : bX4_isText_0  cap cells size p0 p1 = some r) : J G X 6 ad 0 0 [ob 2 [.ref (ad 1), .int size, .int tooLong], aB G cap cells] [(0, .ref (ad 0)), (1, .int p0), (2, .int p1)] 0 [] := by
  unfold bX4_isText_0 at h
  refine jv_iload_n B dX4_isText_0 rfl ?_
  refine jv_iload_n B dX4_isText_1 rfl ?_
  refine jv_iadd B dX4_isText_2 ?_
  refine jv_istore_n (lv' := [(0, _), (1, _), (3, _)]) B dX4_isText_3 (by decide) (lvi_cons rfl (lvi_cons rfl (lvi_cons rfl lvi_nil))) ?_
  refine jv_iload_n B dX4_isText_4 rfl ?_
  refine jv_istore (lv' := [(0, _), (3, _), (4, _)]) B dX4_isText_5 (by decide) (lvi_cons rfl (lvi_cons rfl (lvi_cons rfl lvi_nil))) ?_
  exact jv_lv (lv' := [(0, _), (3, _), (4, _)]) (lvi_cons rfl (lvi_cons rfl (lvi_cons rfl lvi_nil))) (tX4_isText_7 B E  FU _ _ h)
set_option maxRecDepth 100000 in
set_option maxHeartbeats 4000000 in
theorem qX4_isText (l : Launch) (G : jG) (ad : Nat → Nat) {cap : Nat} {cells : Nat → Int32} {size : Int32} {tooLong : Int32} {p0 : Int32} {p1 : Int32} {r : Int32} (h : fX4_isText cap cells size p0 p1 = some r) : CT l G yX4_isText cX4_isText 6 (some .boolean) { frames := 3, cells := 0, slots := 0, locals := 67 } ad [.ref (ad 0), .int p0, .int p1] [ob 2 [.ref (ad 1), .int size, .int tooLong], aB G cap cells] 0 (pd ad (some (.int r)) [ob 2 [.ref (ad 1), .int size, .int tooLong], aB G cap cells]) :=
  CT.of jyX4_isText (Nat.le_of_ble_eq_true rfl) (fun X B E _ _ => tX4_isText_0 B E h)
def bX4_isAscii_2  : Nat → Nat → (Nat → Int32) → Int32 → Int32 → Int32 → Int32 → Option (Int32)
  | 0, _, _, _, _, _, _ => none
  | nn + 1, cap, cells, size, x1, x2, x3 =>
    (if (x1 + x2) ≤ x3 then some (1) else ((fX2_at cap cells size x3).bind fun v2 => (if v2 < 0 then some (0) else (if v2 < 128 then bX4_isAscii_2  nn cap cells size x1 x2 (x3 + 1) else some (0)))))
def bX4_isAscii_0  (cap : Nat) (cells : Nat → Int32) (size : Int32) (p0 : Int32) (p1 : Int32) : Option (Int32) :=
  bX4_isAscii_2  FU cap cells size p0 p1 p0
def fX4_isAscii (cap : Nat) (cells : Nat → Int32) (size : Int32) (p0 : Int32) (p1 : Int32) : Option (Int32) := bX4_isAscii_0 cap cells size p0 p1
set_option maxRecDepth 100000 in
set_option maxHeartbeats 4000000 in
theorem tX4_isAscii_2 {G : jG} {X : jX} {ad : Nat → Nat} {r : Int32} {cap : Nat} {cells : Nat → Int32} {size : Int32} {tooLong : Int32} (B : jB G X cX4_isAscii 5 RX4 { frames := 1, cells := 0, slots := 0, locals := 21 }) (E : jR G X (pd ad (some (.int r)) [ob 2 [.ref (ad 1), .int size, .int tooLong], aB G cap cells]) { frames := 1, cells := 0, slots := 0, locals := 21 } (some .boolean)) : ∀ (nn : Nat)  (x1 : Int32) (x2 : Int32) (x3 : Int32), bX4_isAscii_2  nn cap cells size x1 x2 x3 = some r → J G X 5 ad 0 0 [ob 2 [.ref (ad 1), .int size, .int tooLong], aB G cap cells] [(0, .ref (ad 0)), (1, .int x1), (2, .int x2), (3, .int x3)] 2 [] := by
  intro nn
  induction nn with
  | zero => intro x1 x2 x3 h; cases h
  | succ nn ih =>
    intro x1 x2 x3 h
    unfold bX4_isAscii_2 at h
    refine jv_iload_n B dX4_isAscii_2 rfl ?_
    refine jv_iload_n B dX4_isAscii_3 rfl ?_
    refine jv_iload_n B dX4_isAscii_4 rfl ?_
    refine jv_iadd B dX4_isAscii_5 ?_
    refine jv_icmp_ge (tgt := 37) B dX4_isAscii_6 (by decide) (fun c6 => ?_) (fun c6 => ?_)
    · replace h := dc_t c6 h
      refine jv_iconst (v := 1) B dX4_isAscii_37 (by decide) ?_
      obtain rfl := Option.some.inj h
      exact jv_zret B E (Or.inr rfl) ⟨rfl, rfl⟩ ⟨by decide, by decide⟩ dX4_isAscii_38
    · replace h := dc_f c6 h
      refine jv_aload_n B dX4_isAscii_9 rfl ?_
      refine jv_iload_n B dX4_isAscii_10 rfl ?_
      obtain ⟨v2, hv2, h⟩ := dc_b h
      refine jv_callV0 B jyX2_at jiX2_at wm_X4_7 (qX2_at _ G _ hv2) ⟨⟨by decide, by decide⟩, by decide, by decide⟩ rfl rfl rfl rfl rfl (Nat.le_of_ble_eq_true rfl) dX4_isAscii_11 ?_
      refine jv_istore (lv' := [(0, _), (1, _), (2, _), (3, _), (4, _)]) B dX4_isAscii_14 (by decide) (lvi_cons rfl (lvi_cons rfl (lvi_cons rfl (lvi_cons rfl (lvi_cons rfl lvi_nil))))) ?_
      refine jv_iload B dX4_isAscii_16 rfl ?_
      refine jv_if_lt (tgt := 29) B dX4_isAscii_18 (by decide) (fun c18 => ?_) (fun c18 => ?_)
      · replace h := dc_t c18 h
        refine jv_iconst (v := 0) B dX4_isAscii_29 (by decide) ?_
        obtain rfl := Option.some.inj h
        exact jv_zret B E (Or.inl rfl) ⟨rfl, rfl⟩ ⟨by decide, by decide⟩ dX4_isAscii_30
      · replace h := dc_f c18 h
        refine jv_iload B dX4_isAscii_21 rfl ?_
        refine jv_sipush (v := 128) B dX4_isAscii_23 (by decide) ?_
        refine jv_icmp_lt (tgt := 31) B dX4_isAscii_26 (by decide) (fun c26 => ?_) (fun c26 => ?_)
        · replace h := dc_t c26 h
          refine jv_iinc (v := x3 + 1) (lv' := [(0, _), (1, _), (2, _), (3, _), (4, _)]) B dX4_isAscii_31 rfl (by rfl) (by decide) (lvi_cons rfl (lvi_cons rfl (lvi_cons rfl (lvi_cons rfl (lvi_cons rfl lvi_nil))))) ?_
          refine jv_goto (tgt := 2) B dX4_isAscii_34 (by decide) ?_
          exact jv_lv (lv' := [(0, _), (1, _), (2, _), (3, _)]) (lvi_cons rfl (lvi_cons rfl (lvi_cons rfl (lvi_cons rfl lvi_nil)))) (ih _ _ _ h)
        · replace h := dc_f c26 h
          refine jv_iconst (v := 0) B dX4_isAscii_29 (by decide) ?_
          obtain rfl := Option.some.inj h
          exact jv_zret B E (Or.inl rfl) ⟨rfl, rfl⟩ ⟨by decide, by decide⟩ dX4_isAscii_30
set_option maxRecDepth 100000 in
set_option maxHeartbeats 4000000 in
theorem tX4_isAscii_0 {G : jG} {X : jX} {ad : Nat → Nat} {r : Int32} {cap : Nat} {cells : Nat → Int32} {size : Int32} {tooLong : Int32} (B : jB G X cX4_isAscii 5 RX4 { frames := 1, cells := 0, slots := 0, locals := 21 }) (E : jR G X (pd ad (some (.int r)) [ob 2 [.ref (ad 1), .int size, .int tooLong], aB G cap cells]) { frames := 1, cells := 0, slots := 0, locals := 21 } (some .boolean))  {p0 : Int32} {p1 : Int32} (h : bX4_isAscii_0  cap cells size p0 p1 = some r) : J G X 5 ad 0 0 [ob 2 [.ref (ad 1), .int size, .int tooLong], aB G cap cells] [(0, .ref (ad 0)), (1, .int p0), (2, .int p1)] 0 [] := by
  unfold bX4_isAscii_0 at h
  refine jv_iload_n B dX4_isAscii_0 rfl ?_
  refine jv_istore_n (lv' := [(0, _), (1, _), (2, _), (3, _)]) B dX4_isAscii_1 (by decide) (lvi_cons rfl (lvi_cons rfl (lvi_cons rfl (lvi_cons rfl lvi_nil)))) ?_
  exact jv_lv (lv' := [(0, _), (1, _), (2, _), (3, _)]) (lvi_cons rfl (lvi_cons rfl (lvi_cons rfl (lvi_cons rfl lvi_nil)))) (tX4_isAscii_2 B E  FU _ _ _ h)
set_option maxRecDepth 100000 in
set_option maxHeartbeats 4000000 in
theorem qX4_isAscii (l : Launch) (G : jG) (ad : Nat → Nat) {cap : Nat} {cells : Nat → Int32} {size : Int32} {tooLong : Int32} {p0 : Int32} {p1 : Int32} {r : Int32} (h : fX4_isAscii cap cells size p0 p1 = some r) : CT l G yX4_isAscii cX4_isAscii 5 (some .boolean) { frames := 1, cells := 0, slots := 0, locals := 21 } ad [.ref (ad 0), .int p0, .int p1] [ob 2 [.ref (ad 1), .int size, .int tooLong], aB G cap cells] 0 (pd ad (some (.int r)) [ob 2 [.ref (ad 1), .int size, .int tooLong], aB G cap cells]) :=
  CT.of jyX4_isAscii (Nat.le_of_ble_eq_true rfl) (fun X B E _ _ => tX4_isAscii_0 B E h)
