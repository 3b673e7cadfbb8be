section JC
variable {G : jG} {X : jX} {nL cn sn : Nat} {ad : Nat → Nat} {ws : List va_E} {lv : List (Nat × Value)} {pc : Nat} {st st0 : List Value} {cc : ByteArray} {own : String} {rm : Room}
theorem jw_good {y : MethodName} {cy : ByteArray} {nLy : Nat} {rety : Option FieldType} (h : Cond.code y cy nLy rety ∈ lw_gt) : GoodIn lw_gt (Cond.code y cy nLy rety :: lw_gt) := goodIn_subJ (fun w hw => by
    rcases List.mem_cons.mp hw with rfl | h2
    · exact h
    · exact h2) (by
    rw [List.all_cons, lw_good, Bool.and_true]
    exact List.all_eq_true.mp lw_good _ h)
theorem jw_sub {is : List Nat} {wc : List va_E} (his : (is.take wc.length).map (fun i => ws[i]?) = wc.map some) {j : Nat} {x : va_E} (h : wc[j]? = some x) : ∃ i, is[j]? = some i ∧ ws[i]? = some x := by
  have hj : j < wc.length := (List.getElem?_eq_some_iff.mp h).1
  have h1 : ((is.take wc.length).map (fun i => ws[i]?))[j]? = (wc.map some)[j]? := by rw [his]
  rw [List.getElem?_map, List.getElem?_map, h, List.getElem?_take, if_pos hj] at h1
  cases hi : is[j]? with
  | none => rw [hi] at h1; simp at h1
  | some i => rw [hi] at h1; simp at h1; exact ⟨i, rfl, h1⟩
theorem jw_P {is : List Nat} {wc : List va_E} {H : Heap} (his : (is.take wc.length).map (fun i => ws[i]?) = wc.map some) (a : va_P G.1 vwCl (wl ad 0 ws) H) : va_P G.1 vwCl (wl (fun j => ad (is.getD j 0)) 0 wc) H := by
  intro k q hk
  obtain ⟨h1, h2⟩ := wl_of hk
  obtain ⟨i, h3, h4⟩ := jw_sub his h1
  have h5 := a i _ (wl_at h4)
  have h6 : q = (ad i, q.2) := by
    refine Prod.ext ?_ rfl
    rw [h2]; simp [List.getD, h3]
  rw [h6]; exact h5
theorem jw_D {is : List Nat} {wc : List va_E} {A : Nat → Prop} (his : (is.take wc.length).map (fun i => ws[i]?) = wc.map some) (hnd : va_nd is = true) (b : va_D A (wl ad 0 ws)) : va_D (fun _ => True) (wl (fun j => ad (is.getD j 0)) 0 wc) := by
  refine ⟨fun i j p q hi hj he => ?_, fun _ _ _ => trivial⟩
  obtain ⟨h1, h2⟩ := wl_of hi
  obtain ⟨g1, g2⟩ := wl_of hj
  obtain ⟨k, h3, h4⟩ := jw_sub his h1
  obtain ⟨k', g3, g4⟩ := jw_sub his g1
  rw [h2, g2] at he
  simp [List.getD, h3, g3] at he
  have := b.1 k k' _ _ (wl_at h4) (wl_at g4) he
  subst this
  exact va_nd_inj is hnd i j k h3 g3
theorem jw_free {is : List Nat} {wc : List va_E} {H : Heap} {locs : List Loc} (his : (is.take wc.length).map (fun i => ws[i]?) = wc.map some) (b : va_D X.2.2.2.2 (wl ad 0 ws)) (d : va_S X.2.2.2.2 X.2.1.1.heap H locs) (hA : ∀ q, X.2.1.1.heap.size ≤ q → X.2.2.2.2 q) : ∀ q, va_A (wl (fun j => ad (is.getD j 0)) 0 wc) H.size q → X.2.2.2.2 q := by
  rintro q (⟨k, e, hk⟩ | h)
  · obtain ⟨h1, h2⟩ := wl_of hk
    obtain ⟨i, h3, h4⟩ := jw_sub his h1
    have := b.2 i _ (wl_at h4)
    simp [List.getD, h3] at h2
    rw [h2]; exact this
  · exact hA q (Nat.le_trans d.1 h)
theorem jw_off {is : List Nat} {wc : List va_E} {H : Heap} {A : Nat → Prop} (his : (is.take wc.length).map (fun i => ws[i]?) = wc.map some) (a : va_P G.1 vwCl (wl ad 0 ws) H) (b : va_D A (wl ad 0 ws)) {k : Nat} {x : va_E} (hk : ∀ j : Nat, is[j]? ≠ some k) (hx : ws[k]? = some x) : ¬ va_A (wl (fun j => ad (is.getD j 0)) 0 wc) H.size (ad k) := by
  rintro (⟨j, e, hj⟩ | h)
  · obtain ⟨h1, h2⟩ := wl_of hj
    obtain ⟨i, h3, h4⟩ := jw_sub his h1
    simp [List.getD, h3] at h2
    have := b.1 k i _ _ (wl_at hx) (wl_at h4) h2
    subst this
    exact hk j h3
  · have := (a k _ (wl_at hx)).lt
    exact absurd this (Nat.not_lt.mpr h)
/-- behind a call: what came back stands at its places, the rest as it was -/
theorem jw_back {is : List Nat} {wc wc' ws' : List va_E} {H H1 : Heap} (his : (is.take wc.length).map (fun i => ws[i]?) = wc.map some) (hlen : wc'.length = is.length) (hnd : va_nd is = true) (hput : putL is wc' ws = ws') (a : va_P G.1 vwCl (wl ad 0 ws) H) (b : va_D X.2.2.2.2 (wl ad 0 ws)) (hF : ∀ q, va_A (wl (fun j => ad (is.getD j 0)) 0 wc) H.size q → X.2.2.2.2 q)
    (hk1 : ∀ q : Nat, q < H.size → ¬ va_A (wl (fun j => ad (is.getD j 0)) 0 wc) H.size q → H1[q]? = H[q]?) (p1 : va_P G.1 vwCl (wl (fun j => ad (is.getD j 0)) 0 wc') H1) (d1 : va_D (va_A (wl (fun j => ad (is.getD j 0)) 0 wc) H.size) (wl (fun j => ad (is.getD j 0)) 0 wc')) : va_P G.1 vwCl (wl ad 0 ws') H1 ∧ va_D X.2.2.2.2 (wl ad 0 ws') := by
  subst hput
  have key : ∀ (k : Nat) (q : Nat × va_E), (wl ad 0 (putL is wc' ws))[k]? = some q → q.1 = ad k ∧ ((∃ j : Nat, is[j]? = some k ∧ (wl (fun j => ad (is.getD j 0)) 0 wc')[j]? = some q) ∨ ((∀ j : Nat, is[j]? ≠ some k) ∧ (wl ad 0 ws)[k]? = some q)) := by
    intro k q hk
    obtain ⟨h1, h2⟩ := wl_of hk
    refine ⟨h2, ?_⟩
    rcases putL_get is wc' ws k q.2 hlen h1 with ⟨j, h3, h4⟩ | ⟨h3, h4⟩
    · refine Or.inl ⟨j, h3, ?_⟩
      rw [wl_at h4]
      simp only [List.getD, h3, Option.getD_some]
      rw [← h2]
    · refine Or.inr ⟨h3, ?_⟩
      rw [wl_at h4, ← h2]
  refine ⟨fun k q hk => ?_, fun i j p q hi hj he => ?_, fun k q hk => ?_⟩
  · obtain ⟨h1, ⟨j, h3, h4⟩ | ⟨h3, h4⟩⟩ := key k q hk
    · exact p1 j q h4
    · refine (a k q h4).kept (hk1 _ (a k q h4).lt ?_)
      have := jw_off his a b h3 (wl_of h4).1
      rw [h1]; exact this
  · obtain ⟨h1, ⟨j1, h3, h4⟩ | ⟨h3, h4⟩⟩ := key i p hi
    · obtain ⟨g1, ⟨j2, g3, g4⟩ | ⟨g3, g4⟩⟩ := key j q hj
      · have := d1.1 j1 j2 p q h4 g4 he
        subst this
        exact Option.some.inj (h3.symm.trans g3)
      · exfalso
        refine jw_off his a b g3 (wl_of g4).1 ?_
        rw [← g1, ← he]
        exact d1.2 j1 p h4
    · obtain ⟨g1, ⟨j2, g3, g4⟩ | ⟨g3, g4⟩⟩ := key j q hj
      · exfalso
        refine jw_off his a b h3 (wl_of h4).1 ?_
        rw [← h1, he]
        exact d1.2 j2 q g4
      · exact b.1 i j p q h4 g4 he
  · obtain ⟨h1, ⟨j, h3, h4⟩ | ⟨h3, h4⟩⟩ := key k q hk
    · exact hF _ (d1.2 j q h4)
    · exact b.2 k q h4
theorem jw_blind {ad' : Nat → Nat} {args : List Value} {wc : List va_E} {sz : Nat} : FrameBlind (va_Pc args (ctP G ad' wc sz)) :=
  fun a U g mk q => by
    obtain ⟨q0, q1, qP, qK, qD, qN⟩ := q
    exact ⟨q0, q1, qP, va_K.moved (u := U) (U := U.calling g mk a) (Vm.Alike.refl U.vm) qK, qD, NWx.same (s := U) rfl qN⟩
theorem jw_pre (hNW : NWx X.2.1.1) {ad' : Nat → Nat} {args : List Value} {wc : List va_E} {H : Heap} (hK : va_K G.1 vwCl (jT G) X.2.1.1) (p : va_P G.1 vwCl (wl ad' 0 wc) H) (d : va_D (fun _ => True) (wl ad' 0 wc)) : ∀ U : State, U.heap = H → X.2.1.1.WarmedH U.vm → va_Pc args (ctP G ad' wc H.size) args.toArray U :=
  fun U hU hW => ⟨rfl, by rw [hU], by rw [hU]; exact p, va_K.moved hW.alike hK, d, hNW.warm hW⟩
/-- from the callee's run to what goes on -/
theorem jw_on {mc ms : Nat} {is : List Nat} {wc wc' ws' : List va_E} {r : Option Value} {H : Heap} {locs : List Loc} {ls : Array Slot} {a' : Array Value} (his : (is.take wc.length).map (fun i => ws[i]?) = wc.map some) (hlen : wc'.length = is.length) (hnd : va_nd is = true) (hput : putL is wc' ws = ws') (hA : ∀ q, X.2.1.1.heap.size ≤ q → X.2.2.2.2 q)
    (a : va_P G.1 vwCl (wl ad 0 ws) H) (b : va_D X.2.2.2.2 (wl ad 0 ws)) (d : va_S X.2.2.2.2 X.2.1.1.heap H locs) (e : lv_has ls nL lv)
    (hr : va_Run X.1.1 X.1.2.1 X.1.2.2.1 X.1.2.2.2 X.2.1.1 X.2.1.2.1 X.2.1.2.2.1 X.2.1.2.2.2 X.2.2.1.1 X.2.2.1.2 H locs cn sn mc ms (F0 X.2.1.2.1 pc ls st0) st (ctQ G (va_A (wl (fun j => ad (is.getD j 0)) 0 wc) H.size) (pd (fun j => ad (is.getD j 0)) r wc') a') (va_A (wl (fun j => ad (is.getD j 0)) 0 wc) H.size))
    (kk : J G X nL ad (cn + mc) (sn + ms) ws' lv (pc + 3) (r.toList ++ st)) : W X.1.1 X.1.2.1 X.1.2.2.1 X.1.2.2.2 X.2.1.1 X.2.1.2.1 X.2.1.2.2.1 X.2.1.2.2.2 X.2.2.1.1 X.2.2.1.2 H locs cn sn X.2.2.2.1 (F0 X.2.1.2.1 pc ls st0) := by
  intro T hT St
  have hF := jw_free (X := X) his b d hA
  obtain ⟨v, s0, t, T', L, h0, X', hL, e1, e2, ⟨⟨v1, W1, hv, ⟨hp1, hp2⟩, hP1, hK1, hD1⟩, hz, hk⟩, go⟩ := hr T hT St
  cases hv
  subst hp1; subst hp2
  rw [h0] at hz hk
  have hS1 : va_S X.2.2.2.2 X.2.1.1.heap T'.heap (locs ++ L) := ⟨Nat.le_trans d.1 (by rw [e1]; exact hz), fun q h1 h2 => by rw [e1, hk q (Nat.lt_of_lt_of_le h1 d.1) (fun z => h2 (hF q z))]; exact d.2.1 q h1 h2, fun q hq => by
      rcases List.mem_append.mp hq with h | h
      · exact d.2.2 q h
      · exact hF _ (hL q h)⟩
  obtain ⟨pp, dd⟩ := jw_back (X := X) his hlen hnd hput a b hF (H1 := T'.heap) (fun q h1 h2 => by rw [e1]; exact hk q h1 h2) (by rw [e1]; exact hP1) hD1
  obtain ⟨t2, a1, b1⟩ := kk T'.heap (locs ++ L) ls pp dd hS1 e T' rfl X'
  exact ⟨t2, go t2 a1, b1⟩
theorem jw_fr {is : List Nat} {n m kc : Nat} (h : is.drop n = List.range' m kc) : ∀ j, j < kc → is.getD (n + j) 0 = m + j := fun j hj => by
  have h1 : (is.drop n)[j]? = (List.range' m kc)[j]? := by rw [h]
  rw [List.getElem?_drop, List.getElem?_range' hj] at h1
  simp only [List.getD, h1]
  simp
/-- a call whose world is all of ours -/
theorem jw_on0 {mc ms : Nat} {wc' : List va_E} {r : Option Value} {H : Heap} {locs : List Loc} {ls : Array Slot} {a' : Array Value} (hA : ∀ q, X.2.1.1.heap.size ≤ q → X.2.2.2.2 q)
    (b : va_D X.2.2.2.2 (wl ad 0 ws)) (d : va_S X.2.2.2.2 X.2.1.1.heap H locs) (e : lv_has ls nL lv)
    (hr : va_Run X.1.1 X.1.2.1 X.1.2.2.1 X.1.2.2.2 X.2.1.1 X.2.1.2.1 X.2.1.2.2.1 X.2.1.2.2.2 X.2.2.1.1 X.2.2.1.2 H locs cn sn mc ms (F0 X.2.1.2.1 pc ls st0) st (ctQ G (va_A (wl ad 0 ws) H.size) (pd ad r wc') a') (va_A (wl ad 0 ws) H.size))
    (kk : J G X nL ad (cn + mc) (sn + ms) wc' lv (pc + 3) (r.toList ++ st)) : W X.1.1 X.1.2.1 X.1.2.2.1 X.1.2.2.2 X.2.1.1 X.2.1.2.1 X.2.1.2.2.1 X.2.1.2.2.2 X.2.2.1.1 X.2.2.1.2 H locs cn sn X.2.2.2.1 (F0 X.2.1.2.1 pc ls st0) := by
  intro T hT St
  have hF : ∀ q, va_A (wl ad 0 ws) H.size q → X.2.2.2.2 q := by
    rintro q (⟨k, x, hk⟩ | h)
    · exact b.2 k _ hk
    · exact hA q (Nat.le_trans d.1 h)
  obtain ⟨v, s0, t, T', L, h0, X', hL, e1, e2, ⟨⟨v1, W1, hv, ⟨hp1, hp2⟩, hP1, hK1, hD1⟩, hz, hk⟩, go⟩ := hr T hT St
  cases hv
  subst hp1; subst hp2
  rw [h0] at hz hk
  have hS1 : va_S X.2.2.2.2 X.2.1.1.heap T'.heap (locs ++ L) := ⟨Nat.le_trans d.1 (by rw [e1]; exact hz), fun q h1 h2 => by rw [e1, hk q (Nat.lt_of_lt_of_le h1 d.1) (fun z => h2 (hF q z))]; exact d.2.1 q h1 h2, fun q hq => by
      rcases List.mem_append.mp hq with h | h
      · exact d.2.2 q h
      · exact hF _ (hL q h)⟩
  obtain ⟨t2, a1, b1⟩ := kk T'.heap (locs ++ L) ls (by rw [e1]; exact hP1) (hD1.weaken (fun _ _ _ h => hF _ h)) hS1 e T' rfl X'
  exact ⟨t2, go t2 a1, b1⟩
theorem jv_callV0 (B : jB G X cc nL own rm) {y : MethodName} {cy : ByteArray} {nLy n : Nat} {rety : Option FieldType} (hY : jY y cy nLy rety n) (hI : Cond.instanceMethod y ∈ lw_gt ∧ Cond.selects y.cls y y ∈ lw_gt) {idx : Nat} (hl : Cond.methodLink own idx y ∈ lw_gt) {rmy : Room} {As : List Value} {i0 ci : Nat} {fs : List Value} {q : vw_C} {wc' : List va_E} {r : Option Value}
    (hC : CT X.1.2.1 G y cy nLy rety rmy ad (.ref (ad i0) :: As) ws 0 (pd ad r wc'))
    (hR : (rmy.frames + 1 ≤ rm.frames ∧ 8 + (nLy + 11) + rmy.locals ≤ rm.locals) ∧ cn + rmy.cells ≤ rm.cells ∧ sn + rmy.slots ≤ rm.slots)
    (hrc : ws[i0]? = some (.inr (ci, fs))) (hq : vwCl[ci]? = some q) (hqc : q.1 = y.cls) (hn : As.length = n) (hst : st0 = As.reverse ++ .ref (ad i0) :: st) (hcat : (st.map fun v => v.category).sum ≤ 8) (hd : decode cc pc = .ok (.invokevirtual idx, 3))
    (kk : J G X nL ad (cn + rmy.cells) (sn + rmy.slots) wc' lv (pc + 3) (r.toList ++ st)) : J G X nL ad cn sn ws lv pc st0 := by
  intro H L ls a b d e
  have hts := B.2.2.2.2.1
  have hrm := B.2.2.2.2.2.2.2.1
  have hNW := B.2.2.2.2.2.2.2.2
  refine jw_on0 B.2.2.2.2.2.2.1 b d e (va_runV (As := As) (b := ad i0) (C := y.cls) ⟨B.1, B.2.1, B.2.2.1, B.2.2.2.1, hts⟩ (hC H.size (fun j h => absurd h (Nat.not_lt_zero _))) (n := n) ⟨callB_of n hts (jw_good hY.1) rfl rfl rfl (hts _ hY.2.1) (hts _ hl) hY.2.2.1 (by rw [hrm]; exact hR.1), hts _ hI.1, hts _ hI.2⟩ ⟨jw_blind, ?_, jw_pre hNW B.2.2.2.2.2.1 a (b.weaken (fun _ _ _ _ => trivial))⟩ rfl hn e.1 hst (lv_room hcat) hd (by rw [hrm]; exact hR.2)) kk
  have := va_recv B.2.2.2.2.2.1 a hq (wl_at hrc)
  rw [hqc] at this
  exact this
theorem jv_callV (B : jB G X cc nL own rm) {y : MethodName} {cy : ByteArray} {nLy n : Nat} {rety : Option FieldType} (hY : jY y cy nLy rety n) (hI : Cond.instanceMethod y ∈ lw_gt ∧ Cond.selects y.cls y y ∈ lw_gt) {idx : Nat} (hl : Cond.methodLink own idx y ∈ lw_gt) {rmy : Room} (is : List Nat) {As : List Value} {i0 ci : Nat} {fs : List Value} {q : vw_C} {wc wc' ws' : List va_E} {r : Option Value}
    (hC : CT X.1.2.1 G y cy nLy rety rmy (fun j => ad (is.getD j 0)) (.ref (ad i0) :: As) wc 0 (pd (fun j => ad (is.getD j 0)) r wc'))
    (hR : (rmy.frames + 1 ≤ rm.frames ∧ 8 + (nLy + 11) + rmy.locals ≤ rm.locals) ∧ cn + rmy.cells ≤ rm.cells ∧ sn + rmy.slots ≤ rm.slots)
    (hrc : ws[i0]? = some (.inr (ci, fs))) (hq : vwCl[ci]? = some q) (hqc : q.1 = y.cls) (his : (is.take wc.length).map (fun i => ws[i]?) = wc.map some) (hlen : wc'.length = is.length) (hnd : va_nd is = true) (hput : putL is wc' ws = ws') (hn : As.length = n) (hst : st0 = As.reverse ++ .ref (ad i0) :: st) (hcat : (st.map fun v => v.category).sum ≤ 8) (hd : decode cc pc = .ok (.invokevirtual idx, 3))
    (kk : J G X nL ad (cn + rmy.cells) (sn + rmy.slots) ws' lv (pc + 3) (r.toList ++ st)) : J G X nL ad cn sn ws lv pc st0 := by
  intro H L ls a b d e
  have hts := B.2.2.2.2.1
  have hrm := B.2.2.2.2.2.2.2.1
  have hNW := B.2.2.2.2.2.2.2.2
  refine jw_on his hlen hnd hput B.2.2.2.2.2.2.1 a b d e (va_runV (As := As) (b := ad i0) (C := y.cls) ⟨B.1, B.2.1, B.2.2.1, B.2.2.2.1, hts⟩ (hC H.size (fun j h => absurd h (Nat.not_lt_zero _))) (n := n) ⟨callB_of n hts (jw_good hY.1) rfl rfl rfl (hts _ hY.2.1) (hts _ hl) hY.2.2.1 (by rw [hrm]; exact hR.1), hts _ hI.1, hts _ hI.2⟩ ⟨jw_blind, ?_, jw_pre hNW B.2.2.2.2.2.1 (jw_P his a) (jw_D his hnd b)⟩ rfl hn e.1 hst (lv_room hcat) hd (by rw [hrm]; exact hR.2)) kk
  have := va_recv B.2.2.2.2.2.1 a hq (wl_at hrc)
  rw [hqc] at this
  exact this
theorem jv_callS (B : jB G X cc nL own rm) {y : MethodName} {cy : ByteArray} {nLy n : Nat} {rety : Option FieldType} (hY : jY y cy nLy rety n) (hI : Cond.static y ∈ lw_gt) {idx : Nat} (hl : Cond.methodLink own idx y ∈ lw_gt) {rmy : Room} (is : List Nat) {As : List Value} {wc wc' ws' : List va_E} {r : Option Value}
    (hC : CT X.1.2.1 G y cy nLy rety rmy (fun j => ad (is.getD j 0)) As wc 0 (pd (fun j => ad (is.getD j 0)) r wc'))
    (hR : (rmy.frames + 1 ≤ rm.frames ∧ 8 + (nLy + 11) + rmy.locals ≤ rm.locals) ∧ cn + rmy.cells ≤ rm.cells ∧ sn + rmy.slots ≤ rm.slots)
    (his : (is.take wc.length).map (fun i => ws[i]?) = wc.map some) (hlen : wc'.length = is.length) (hnd : va_nd is = true) (hput : putL is wc' ws = ws') (hn : As.length = n) (hst : st0 = As.reverse ++ st) (hcat : (st.map fun v => v.category).sum ≤ 8) (hd : decode cc pc = .ok (.invokestatic idx, 3))
    (kk : J G X nL ad (cn + rmy.cells) (sn + rmy.slots) ws' lv (pc + 3) (r.toList ++ st)) : J G X nL ad cn sn ws lv pc st0 := by
  intro H L ls a b d e
  have hts := B.2.2.2.2.1
  have hrm := B.2.2.2.2.2.2.2.1
  have hNW := B.2.2.2.2.2.2.2.2
  exact jw_on his hlen hnd hput B.2.2.2.2.2.2.1 a b d e (va_runS (As := As) ⟨B.1, B.2.1, B.2.2.1, B.2.2.2.1, hts⟩ (hC H.size (fun j h => absurd h (Nat.not_lt_zero _))) (n := n) ⟨callB_of n hts (jw_good hY.1) rfl rfl rfl (hts _ hY.2.1) (hts _ hl) hY.2.2.1 (by rw [hrm]; exact hR.1), hts _ hI⟩ ⟨jw_blind, jw_pre hNW B.2.2.2.2.2.1 (jw_P his a) (jw_D his hnd b)⟩ rfl hn e.1 hst (lv_room hcat) hd (by rw [hrm]; exact hR.2)) kk
theorem jv_callI (B : jB G X cc nL own rm) {n0 kn kc : Nat} (hAd : ∀ j, j < kn → ad (n0 + j) = X.2.1.1.heap.size + j) (hlw : ws.length = n0 + cn) (hkc : cn + kc ≤ kn) {y : MethodName} {cy : ByteArray} {nLy n : Nat} (hY : jY y cy nLy none n) (hI : y.name = "<init>" ∧ Cond.instanceMethod y ∈ lw_gt) {idx : Nat} (hl : Cond.methodLink own idx y ∈ lw_gt) {rmy : Room} (is : List Nat) {As : List Value} {i0 : Nat} {wc wc' ws' : List va_E}
    (hC : CT X.1.2.1 G y cy nLy none rmy (fun j => ad (is.getD j 0)) (.ref (ad i0) :: As) wc kc (pd (fun j => ad (is.getD j 0)) none wc'))
    (hfr : is.drop wc.length = List.range' ws.length kc)
    (hR : (rmy.frames + 1 ≤ rm.frames ∧ 8 + (nLy + 11) + rmy.locals ≤ rm.locals) ∧ cn + rmy.cells ≤ rm.cells ∧ sn + rmy.slots ≤ rm.slots)
    (his : (is.take wc.length).map (fun i => ws[i]?) = wc.map some) (hlen : wc'.length = is.length) (hnd : va_nd is = true) (hput : putL is wc' ws = ws') (hn : As.length = n) (hst : st0 = As.reverse ++ .ref (ad i0) :: st) (hcat : (st.map fun v => v.category).sum ≤ 8) (hd : decode cc pc = .ok (.invokespecial idx, 3))
    (kk : J G X nL ad (cn + rmy.cells) (sn + rmy.slots) ws' lv (pc + 3) st) : J G X nL ad cn sn ws lv pc st0 := by
  intro H L ls a b d e
  refine jw_std (fun T0 hT St => ?_)
  have hts := B.2.2.2.2.1
  have hrm := B.2.2.2.2.2.2.2.1
  have hNW := B.2.2.2.2.2.2.2.2
  have hz := jv_size hAd hlw (by omega) a d hT St
  have hsz : ∀ j, j < kc → (fun j => ad (is.getD j 0)) (wc.length + j) = H.size + j := fun j hj => by
    show ad (is.getD (wc.length + j) 0) = _
    rw [jw_fr hfr j hj, hlw, Nat.add_assoc, hAd (cn + j) (by omega), hz]; omega
  exact jw_on his hlen hnd hput B.2.2.2.2.2.2.1 a b d e (va_runI (As := As) (b := ad i0) ⟨B.1, B.2.1, B.2.2.1, B.2.2.2.1, hts⟩ (hC H.size hsz) (n := n) ⟨callB_of n hts (jw_good hY.1) rfl rfl rfl (hts _ hY.2.1) (hts _ hl) hY.2.2.1 (by rw [hrm]; exact hR.1), hI.1, hts _ hI.2⟩ ⟨jw_blind, jw_pre hNW B.2.2.2.2.2.1 (jw_P his a) (jw_D his hnd b)⟩ rfl hn e.1 hst (lv_room hcat) hd (by rw [hrm]; exact hR.2)) (r := none) kk
theorem jv_callIN (B : jB G X cc nL own rm) {n0 kn kc : Nat} (hAd : ∀ j, j < kn → ad (n0 + j) = X.2.1.1.heap.size + j) (hlw : ws.length = n0 + cn) (hkc : cn + kc ≤ kn) {y : MethodName} {cy : ByteArray} {nLy n : Nat} (hY : jY y cy nLy none n) (hI : y.name = "<init>" ∧ Cond.instanceMethod y ∈ lw_gt) {idx : Nat} {host : String} (hlk0 : Cond.methodLinkNest own idx y host ∈ lw_nest) {rmy : Room} (is : List Nat) {As : List Value} {i0 : Nat} {wc wc' ws' : List va_E}
    (hC : CT X.1.2.1 G y cy nLy none rmy (fun j => ad (is.getD j 0)) (.ref (ad i0) :: As) wc kc (pd (fun j => ad (is.getD j 0)) none wc'))
    (hfr : is.drop wc.length = List.range' ws.length kc)
    (hR : (rmy.frames + 1 ≤ rm.frames ∧ 8 + (nLy + 11) + rmy.locals ≤ rm.locals) ∧ cn + rmy.cells ≤ rm.cells ∧ sn + rmy.slots ≤ rm.slots)
    (his : (is.take wc.length).map (fun i => ws[i]?) = wc.map some) (hlen : wc'.length = is.length) (hnd : va_nd is = true) (hput : putL is wc' ws = ws') (hn : As.length = n) (hst : st0 = As.reverse ++ .ref (ad i0) :: st) (hcat : (st.map fun v => v.category).sum ≤ 8) (hd : decode cc pc = .ok (.invokespecial idx, 3))
    (kk : J G X nL ad (cn + rmy.cells) (sn + rmy.slots) ws' lv (pc + 3) st) : J G X nL ad cn sn ws lv pc st0 := by
  intro H L ls a b d e
  refine jw_std (fun T0 hT St => ?_)
  have hts := B.2.2.2.2.1
  have hrm := B.2.2.2.2.2.2.2.1
  have hNW := B.2.2.2.2.2.2.2.2
  have hz := jv_size hAd hlw (by omega) a d hT St
  have hsz : ∀ j, j < kc → (fun j => ad (is.getD j 0)) (wc.length + j) = H.size + j := fun j hj => by
    show ad (is.getD (wc.length + j) 0) = _
    rw [jw_fr hfr j hj, hlw, Nat.add_assoc, hAd (cn + j) (by omega), hz]; omega

  exact jw_on his hlen hnd hput B.2.2.2.2.2.2.1 a b d e (va_runIN (As := As) (b := ad i0) ⟨B.1, B.2.1, B.2.2.1, B.2.2.2.1, hts⟩ (hC H.size hsz) (n := n) ⟨va_cnB n hts (jw_good hY.1) rfl rfl rfl (hNW _ hlk0) (hts _ hY.2.1) hY.2.2.1 (by rw [hrm]; exact hR.1), hI.1, hts _ hI.2⟩ ⟨jw_blind, jw_pre hNW B.2.2.2.2.2.1 (jw_P his a) (jw_D his hnd b)⟩ rfl hn e.1 hst (lv_room hcat) hd (by rw [hrm]; exact hR.2)) (r := none) kk
theorem jv_iret (B : jB G X cc nL own rm) {post : Option Value → va_W → Prop} (E : jR G X post rm (some .int)) {v : Int32} (hp : post (some (.int v)) (wl ad 0 ws)) (hc : cn ≤ rm.cells ∧ sn ≤ rm.slots) (hd : decode cc pc = .ok (.ireturn, 1)) : J G X nL ad cn sn ws lv pc [.int v] := by
  intro H L ls a b d e
  rw [E.1]
  exact W.widen hc.1 hc.2 (W.iret B.1 B.2.1 E.2.1 (fun t ht hW => ⟨⟨_, _, rfl, hp, by rw [ht]; exact a, va_K.moved hW.alike B.2.2.2.2.2.1, b⟩, d.F ht⟩) d.2.2 hd (hlocks := E.2.2))
theorem jv_zret (B : jB G X cc nL own rm) {post : Option Value → va_W → Prop} (E : jR G X post rm (some .boolean)) {v : Int32} (hv : v = 0 ∨ v = 1) (hp : post (some (.int v)) (wl ad 0 ws)) (hc : cn ≤ rm.cells ∧ sn ≤ rm.slots) (hd : decode cc pc = .ok (.ireturn, 1)) : J G X nL ad cn sn ws lv pc [.int v] := by
  intro H L ls a b d e
  rw [E.1]
  exact W.widen hc.1 hc.2 (W.zret B.1 B.2.1 E.2.1 (by rcases hv with rfl | rfl <;> decide +kernel) (fun t ht hW => ⟨⟨_, _, rfl, hp, by rw [ht]; exact a, va_K.moved hW.alike B.2.2.2.2.2.1, b⟩, d.F ht⟩) d.2.2 hd (hlocks := E.2.2))
theorem jv_lret (B : jB G X cc nL own rm) {post : Option Value → va_W → Prop} (E : jR G X post rm (some .long)) {v : Int64} (hp : post (some (.long v)) (wl ad 0 ws)) (hc : cn ≤ rm.cells ∧ sn ≤ rm.slots) (hd : decode cc pc = .ok (.lreturn, 1)) : J G X nL ad cn sn ws lv pc [.long v] := by
  intro H L ls a b d e
  rw [E.1]
  exact W.widen hc.1 hc.2 (W.lret B.1 B.2.1 E.2.1 (fun t ht hW => ⟨⟨_, _, rfl, hp, by rw [ht]; exact a, va_K.moved hW.alike B.2.2.2.2.2.1, b⟩, d.F ht⟩) d.2.2 hd (hlocks := E.2.2))
theorem jv_vret (B : jB G X cc nL own rm) {post : Option Value → va_W → Prop} (E : jR G X post rm none) (hp : post none (wl ad 0 ws)) (hc : cn ≤ rm.cells ∧ sn ≤ rm.slots) (hd : decode cc pc = .ok (.return_, 1)) : J G X nL ad cn sn ws lv pc [] := by
  intro H L ls a b d e
  rw [E.1]
  exact W.widen hc.1 hc.2 (W.vret B.1 B.2.1 E.2.1 (fun t ht hW => ⟨⟨_, _, rfl, hp, by rw [ht]; exact a, va_K.moved hW.alike B.2.2.2.2.2.1, b⟩, d.F ht⟩) d.2.2 hd (hlocks := E.2.2))
theorem jv_aret (B : jB G X cc nL own rm) {post : Option Value → va_W → Prop} {cn0 : String} (E : jR G X post rm (some (.object cn0))) {x : Nat} (hp : post (some (.ref x)) (wl ad 0 ws)) (hc : cn ≤ rm.cells ∧ sn ≤ rm.slots) (hd : decode cc pc = .ok (.areturn, 1)) : J G X nL ad cn sn ws lv pc [.ref x] := by
  intro H L ls a b d e
  rw [E.1]
  exact W.widen hc.1 hc.2 (W.aret B.1 B.2.1 E.2.1 (Or.inl ⟨_, rfl⟩) (Or.inr ⟨_, rfl⟩) (fun t ht hW => ⟨⟨_, _, rfl, hp, by rw [ht]; exact a, va_K.moved hW.alike B.2.2.2.2.2.1, b⟩, d.F ht⟩) d.2.2 hd (hlocks := E.2.2))
end JC
/-- of the decompiled functions -/
theorem dc_if {α : Type} {p : Prop} [Decidable p] {x : Option α} {r : α} (h : (if p then x else none) = some r) : p ∧ x = some r := by
  by_cases hp : p
  · rw [if_pos hp] at h; exact ⟨hp, h⟩
  · rw [if_neg hp] at h; cases h
theorem dc_b {α β : Type} {x : Option α} {f : α → Option β} {r : β} (h : x.bind f = some r) : ∃ v, x = some v ∧ f v = some r := Option.bind_eq_some_iff.mp h
