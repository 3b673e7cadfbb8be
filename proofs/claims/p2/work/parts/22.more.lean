/-! calls whose worlds are told by a function im: the callee's cell j is our cell im j -/
section JM
variable {G : jG} {X : jX} {nL cn sn : Nat} {ad : Nat → Nat} {ws : List va_E} {lv : List (Nat × Value)} {pc : Nat} {st st0 : List Value} {cc : ByteArray} {own : String} {rm : Room} {im : Nat → Nat}
theorem jm_P {wc : List va_E} {H : Heap} (hs : ∀ (j : Nat) (x : va_E), wc[j]? = some x → ws[im j]? = some x) (a : va_P G.1 vwCl (wl ad 0 ws) H) : va_P G.1 vwCl (wl (fun j => ad (im j)) 0 wc) H := by
  intro k q hk
  obtain ⟨h1, h2⟩ := wl_of hk
  have h5 := a (im k) _ (wl_at (hs k _ h1))
  have h6 : q = (ad (im k), q.2) := Prod.ext h2 rfl
  rw [h6]; exact h5
theorem jm_D {wc : List va_E} {A : Nat → Prop} (hs : ∀ (j : Nat) (x : va_E), wc[j]? = some x → ws[im j]? = some x) (hi : ∀ i j : Nat, i < wc.length → j < wc.length → im i = im j → i = j) (b : va_D A (wl ad 0 ws)) : va_D A (wl (fun j => ad (im j)) 0 wc) := by
  refine ⟨fun i j p q h1 h2 he => ?_, fun k q hk => ?_⟩
  · obtain ⟨h3, h4⟩ := wl_of h1
    obtain ⟨g3, g4⟩ := wl_of h2
    rw [h4, g4] at he
    exact hi i j (List.getElem?_eq_some_iff.mp h3).1 (List.getElem?_eq_some_iff.mp g3).1 (b.1 _ _ _ _ (wl_at (hs i _ h3)) (wl_at (hs j _ g3)) he)
  · obtain ⟨h3, h4⟩ := wl_of hk
    have := b.2 _ _ (wl_at (hs k _ h3))
    rw [h4]; exact this
theorem jm_free {wc : List va_E} {H : Heap} {locs : List Loc} (hs : ∀ (j : Nat) (x : va_E), wc[j]? = some x → ws[im j]? = some x) (b : va_D X.2.2.2.2 (wl ad 0 ws)) (d : va_S X.2.2.2.2 X.2.1.1.heap H locs) (hA : ∀ q, X.2.1.1.heap.size ≤ q → X.2.2.2.2 q) : ∀ q, va_A (wl (fun j => ad (im j)) 0 wc) H.size q → X.2.2.2.2 q := by
  rintro q (⟨k, e, hk⟩ | h)
  · obtain ⟨h1, h2⟩ := wl_of hk
    have := b.2 _ _ (wl_at (hs k _ h1))
    rw [show q = ad (im k) from h2]; exact this
  · exact hA q (Nat.le_trans d.1 h)
theorem jm_off {wc : List va_E} {H : Heap} {A : Nat → Prop} (hs : ∀ (j : Nat) (x : va_E), wc[j]? = some x → ws[im j]? = some x) (a : va_P G.1 vwCl (wl ad 0 ws) H) (b : va_D A (wl ad 0 ws)) {k : Nat} {x : va_E} (hk : ∀ j, j < wc.length → im j ≠ k) (hx : ws[k]? = some x) : ¬ va_A (wl (fun j => ad (im j)) 0 wc) H.size (ad k) := by
  rintro (⟨j, e, hj⟩ | h)
  · obtain ⟨h1, h2⟩ := wl_of hj
    have := b.1 k (im j) _ _ (wl_at hx) (wl_at (hs j _ h1)) h2
    exact hk j (List.getElem?_eq_some_iff.mp h1).1 this.symm
  · have := (a k _ (wl_at hx)).lt
    exact absurd this (Nat.not_lt.mpr h)
theorem jm_back {wc wc' ws' : List va_E} {H H1 : Heap} (hs : ∀ (j : Nat) (x : va_E), wc[j]? = some x → ws[im j]? = some x) (hb : ∀ (k : Nat) (x : va_E), ws'[k]? = some x → (∃ j : Nat, im j = k ∧ wc'[j]? = some x) ∨ ((∀ j, j < wc.length → im j ≠ k) ∧ ws[k]? = some x)) (a : va_P G.1 vwCl (wl ad 0 ws) H) (b : va_D X.2.2.2.2 (wl ad 0 ws)) (hF : ∀ q, va_A (wl (fun j => ad (im j)) 0 wc) H.size q → X.2.2.2.2 q)
    (hk1 : ∀ q : Nat, q < H.size → ¬ va_A (wl (fun j => ad (im j)) 0 wc) H.size q → H1[q]? = H[q]?) (p1 : va_P G.1 vwCl (wl (fun j => ad (im j)) 0 wc') H1) (d1 : va_D (va_A (wl (fun j => ad (im j)) 0 wc) H.size) (wl (fun j => ad (im j)) 0 wc')) : va_P G.1 vwCl (wl ad 0 ws') H1 ∧ va_D X.2.2.2.2 (wl ad 0 ws') := by
  have key : ∀ (k : Nat) (q : Nat × va_E), (wl ad 0 ws')[k]? = some q → q.1 = ad k ∧ ((∃ j : Nat, im j = k ∧ (wl (fun j => ad (im j)) 0 wc')[j]? = some q) ∨ ((∀ j, j < wc.length → im j ≠ k) ∧ (wl ad 0 ws)[k]? = some q)) := by
    intro k q hk
    obtain ⟨h1, h2⟩ := wl_of hk
    refine ⟨h2, ?_⟩
    rcases hb k q.2 h1 with ⟨j, h3, h4⟩ | ⟨h3, h4⟩
    · refine Or.inl ⟨j, h3, ?_⟩
      rw [wl_at h4, h3, ← h2]
    · refine Or.inr ⟨h3, ?_⟩
      rw [wl_at h4, ← h2]
  refine ⟨fun k q hk => ?_, fun i j p q hi hj he => ?_, fun k q hk => ?_⟩
  · obtain ⟨h1, ⟨j, h3, h4⟩ | ⟨h3, h4⟩⟩ := key k q hk
    · exact p1 j q h4
    · refine (a k q h4).kept (hk1 _ (a k q h4).lt ?_)
      have := jm_off hs a b h3 (wl_of h4).1
      rw [h1]; exact this
  · obtain ⟨h1, ⟨j1, h3, h4⟩ | ⟨h3, h4⟩⟩ := key i p hi
    · obtain ⟨g1, ⟨j2, g3, g4⟩ | ⟨g3, g4⟩⟩ := key j q hj
      · have := d1.1 j1 j2 p q h4 g4 he
        subst this
        exact h3.symm.trans g3
      · exfalso
        refine jm_off hs a b g3 (wl_of g4).1 ?_
        rw [← g1, ← he]
        exact d1.2 j1 p h4
    · obtain ⟨g1, ⟨j2, g3, g4⟩ | ⟨g3, g4⟩⟩ := key j q hj
      · exfalso
        refine jm_off hs a b h3 (wl_of h4).1 ?_
        rw [← h1, he]
        exact d1.2 j2 q g4
      · exact b.1 i j p q h4 g4 he
  · obtain ⟨h1, ⟨j, h3, h4⟩ | ⟨h3, h4⟩⟩ := key k q hk
    · exact hF _ (d1.2 j q h4)
    · exact b.2 k q h4
theorem jm_on {mc ms : Nat} {wc wc' ws' : List va_E} {r : Option Value} {H : Heap} {locs : List Loc} {ls : Array Slot} {a' : Array Value} (hs : ∀ (j : Nat) (x : va_E), wc[j]? = some x → ws[im j]? = some x) (hb : ∀ (k : Nat) (x : va_E), ws'[k]? = some x → (∃ j : Nat, im j = k ∧ wc'[j]? = some x) ∨ ((∀ j, j < wc.length → im j ≠ k) ∧ ws[k]? = some x)) (hA : ∀ q, X.2.1.1.heap.size ≤ q → X.2.2.2.2 q)
    (a : va_P G.1 vwCl (wl ad 0 ws) H) (b : va_D X.2.2.2.2 (wl ad 0 ws)) (d : va_S X.2.2.2.2 X.2.1.1.heap H locs) (e : lv_has ls nL lv)
    (hr : va_Run X.1.1 X.1.2.1 X.1.2.2.1 X.1.2.2.2 X.2.1.1 X.2.1.2.1 X.2.1.2.2.1 X.2.1.2.2.2 X.2.2.1.1 X.2.2.1.2 H locs cn sn mc ms (F0 X.2.1.2.1 pc ls st0) st (ctQ G (va_A (wl (fun j => ad (im j)) 0 wc) H.size) (pd (fun j => ad (im j)) r wc') a') (va_A (wl (fun j => ad (im j)) 0 wc) H.size))
    (kk : J G X nL ad (cn + mc) (sn + ms) ws' lv (pc + 3) (r.toList ++ st)) : W X.1.1 X.1.2.1 X.1.2.2.1 X.1.2.2.2 X.2.1.1 X.2.1.2.1 X.2.1.2.2.1 X.2.1.2.2.2 X.2.2.1.1 X.2.2.1.2 H locs cn sn X.2.2.2.1 (F0 X.2.1.2.1 pc ls st0) := by
  intro T hT St
  have hF := jm_free (X := X) hs b d hA
  obtain ⟨v, s0, t, T', L, h0, X', hL, e1, e2, ⟨⟨v1, W1, hv, ⟨hp1, hp2⟩, hP1, hK1, hD1⟩, hz, hk⟩, go⟩ := hr T hT St
  cases hv
  subst hp1; subst hp2
  rw [h0] at hz hk
  have hS1 : va_S X.2.2.2.2 X.2.1.1.heap T'.heap (locs ++ L) := ⟨Nat.le_trans d.1 (by rw [e1]; exact hz), fun q h1 h2 => by rw [e1, hk q (Nat.lt_of_lt_of_le h1 d.1) (fun z => h2 (hF q z))]; exact d.2.1 q h1 h2, fun q hq => by
      rcases List.mem_append.mp hq with h | h
      · exact d.2.2 q h
      · exact hF _ (hL q h)⟩
  obtain ⟨pp, dd⟩ := jm_back (X := X) hs hb a b hF (H1 := T'.heap) (fun q h1 h2 => by rw [e1]; exact hk q h1 h2) (by rw [e1]; exact hP1) hD1
  obtain ⟨t2, a1, b1⟩ := kk T'.heap (locs ++ L) ls pp dd hS1 e T' rfl X'
  exact ⟨t2, go t2 a1, b1⟩
theorem jm_callV (B : jB G X cc nL own rm) {y : MethodName} {cy : ByteArray} {nLy n : Nat} {rety : Option FieldType} (hY : jY y cy nLy rety n) (hI : Cond.instanceMethod y ∈ lw_gt ∧ Cond.selects y.cls y y ∈ lw_gt) {idx : Nat} (hl : Cond.methodLink own idx y ∈ lw_gt) {rmy : Room} {As : List Value} {i0 ci : Nat} {fs : List Value} {q : vw_C} {wc wc' ws' : List va_E} {r : Option Value}
    (hC : CT X.1.2.1 G y cy nLy rety rmy (fun j => ad (im j)) (.ref (ad i0) :: As) wc 0 (pd (fun j => ad (im j)) r wc'))
    (hs : ∀ (j : Nat) (x : va_E), wc[j]? = some x → ws[im j]? = some x) (hi : ∀ i j : Nat, i < wc.length → j < wc.length → im i = im j → i = j) (hb : ∀ (k : Nat) (x : va_E), ws'[k]? = some x → (∃ j : Nat, im j = k ∧ wc'[j]? = some x) ∨ ((∀ j, j < wc.length → im j ≠ k) ∧ ws[k]? = some x))
    (hR : (rmy.frames + 1 ≤ rm.frames ∧ 8 + (nLy + 11) + rmy.locals ≤ rm.locals) ∧ cn + rmy.cells ≤ rm.cells ∧ sn + rmy.slots ≤ rm.slots)
    (hrc : ws[i0]? = some (.inr (ci, fs))) (hq : vwCl[ci]? = some q) (hqc : q.1 = y.cls) (hn : As.length = n) (hst : st0 = As.reverse ++ .ref (ad i0) :: st) (hcat : (st.map fun v => v.category).sum ≤ 8) (hd : decode cc pc = .ok (.invokevirtual idx, 3))
    (kk : J G X nL ad (cn + rmy.cells) (sn + rmy.slots) ws' lv (pc + 3) (r.toList ++ st)) : J G X nL ad cn sn ws lv pc st0 := by
  intro H L ls a b d e
  have hts := B.2.2.2.2.1
  have hrm := B.2.2.2.2.2.2.2.1
  have hNW := B.2.2.2.2.2.2.2.2
  refine jm_on hs hb B.2.2.2.2.2.2.1 a b d e (va_runV (As := As) (b := ad i0) (C := y.cls) ⟨B.1, B.2.1, B.2.2.1, B.2.2.2.1, hts⟩ (hC H.size (fun j h => absurd h (Nat.not_lt_zero _))) (n := n) ⟨callB_of n hts (jw_good hY.1) rfl rfl rfl (hts _ hY.2.1) (hts _ hl) hY.2.2.1 (by rw [hrm]; exact hR.1), hts _ hI.1, hts _ hI.2⟩ ⟨jw_blind, ?_, jw_pre hNW B.2.2.2.2.2.1 (jm_P hs a) ((jm_D hs hi b).weaken (fun _ _ _ _ => trivial))⟩ rfl hn e.1 hst (lv_room hcat) hd (by rw [hrm]; exact hR.2)) kk
  have := va_recv B.2.2.2.2.2.1 a hq (wl_at hrc)
  rw [hqc] at this
  exact this
theorem jm_callI (B : jB G X cc nL own rm) {n0 kn kc : Nat} (hAd : ∀ j, j < kn → ad (n0 + j) = X.2.1.1.heap.size + j) (hlw : ws.length = n0 + cn) (hkc : cn + kc ≤ kn) {y : MethodName} {cy : ByteArray} {nLy n : Nat} (hY : jY y cy nLy none n) (hI : y.name = "<init>" ∧ Cond.instanceMethod y ∈ lw_gt) {idx : Nat} (hl : Cond.methodLink own idx y ∈ lw_gt) {rmy : Room} {As : List Value} {i0 : Nat} {wc wc' ws' : List va_E}
    (hC : CT X.1.2.1 G y cy nLy none rmy (fun j => ad (im j)) (.ref (ad i0) :: As) wc kc (pd (fun j => ad (im j)) none wc'))
    (hs : ∀ (j : Nat) (x : va_E), wc[j]? = some x → ws[im j]? = some x) (hi : ∀ i j : Nat, i < wc.length → j < wc.length → im i = im j → i = j) (hb : ∀ (k : Nat) (x : va_E), ws'[k]? = some x → (∃ j : Nat, im j = k ∧ wc'[j]? = some x) ∨ ((∀ j, j < wc.length → im j ≠ k) ∧ ws[k]? = some x))
    (hfr : ∀ j, j < kc → im (wc.length + j) = ws.length + j)
    (hR : (rmy.frames + 1 ≤ rm.frames ∧ 8 + (nLy + 11) + rmy.locals ≤ rm.locals) ∧ cn + rmy.cells ≤ rm.cells ∧ sn + rmy.slots ≤ rm.slots)
    (hn : As.length = n) (hst : st0 = As.reverse ++ .ref (ad i0) :: st) (hcat : (st.map fun v => v.category).sum ≤ 8) (hd : decode cc pc = .ok (.invokespecial idx, 3))
    (kk : J G X nL ad (cn + rmy.cells) (sn + rmy.slots) ws' lv (pc + 3) st) : J G X nL ad cn sn ws lv pc st0 := by
  intro H L ls a b d e
  refine jw_std (fun T0 hT St => ?_)
  have hts := B.2.2.2.2.1
  have hrm := B.2.2.2.2.2.2.2.1
  have hNW := B.2.2.2.2.2.2.2.2
  have hz := jv_size hAd hlw (by omega) a d hT St
  have hsz : ∀ j, j < kc → (fun j => ad (im j)) (wc.length + j) = H.size + j := fun j hj => by
    show ad (im (wc.length + j)) = _
    rw [hfr j hj, hlw, Nat.add_assoc, hAd (cn + j) (by omega), hz]; omega
  exact jm_on hs hb B.2.2.2.2.2.2.1 a b d e (va_runI (As := As) (b := ad i0) ⟨B.1, B.2.1, B.2.2.1, B.2.2.2.1, hts⟩ (hC H.size hsz) (n := n) ⟨callB_of n hts (jw_good hY.1) rfl rfl rfl (hts _ hY.2.1) (hts _ hl) hY.2.2.1 (by rw [hrm]; exact hR.1), hI.1, hts _ hI.2⟩ ⟨jw_blind, jw_pre hNW B.2.2.2.2.2.1 (jm_P hs a) ((jm_D hs hi b).weaken (fun _ _ _ _ => trivial))⟩ rfl hn e.1 hst (lv_room hcat) hd (by rw [hrm]; exact hR.2)) (r := none) kk
/-- the world's cells in another order (or fewer) -/
theorem jm_perm {ws' : List va_E} (hs : ∀ (j : Nat) (x : va_E), ws'[j]? = some x → ws[im j]? = some x) (hi : ∀ i j : Nat, i < ws'.length → j < ws'.length → im i = im j → i = j) (kk : J G X nL (fun j => ad (im j)) cn sn ws' lv pc st) : J G X nL ad cn sn ws lv pc st :=
  fun H L ls a b d e => kk H L ls (jm_P hs a) (jm_D hs hi b) d e
theorem jv_pop2 (B : jB G X cc nL own rm) {x : Int64} (hd : decode cc pc = .ok (.pop2, 1)) (k : J G X nL ad cn sn ws lv (pc + 1) st) : J G X nL ad cn sn ws lv pc (.long x :: st) :=
  fun H L ls a b d e => lv_pop2_2 B.1 B.2.1 hd rfl (k H L ls a b d e)
end JM
/-! the two halves of a world -/
theorem jh_L {A B : List va_E} : ∀ (j : Nat) (x : va_E), A[j]? = some x → (A ++ B)[(fun j => j) j]? = some x := fun j x h => by
  show (A ++ B)[j]? = some x
  rw [List.getElem?_append_left (List.getElem?_eq_some_iff.mp h).1]; exact h
theorem jh_Lb {A A' B : List va_E} (hl : A'.length = A.length) : ∀ (k : Nat) (x : va_E), (A' ++ B)[k]? = some x → (∃ j : Nat, (fun j => j) j = k ∧ A'[j]? = some x) ∨ ((∀ j, j < A.length → (fun j => j) j ≠ k) ∧ (A ++ B)[k]? = some x) := fun k x h => by
  by_cases hk : k < A'.length
  · rw [List.getElem?_append_left hk] at h; exact Or.inl ⟨k, rfl, h⟩
  · refine Or.inr ⟨fun j hj => by show j ≠ k; omega, ?_⟩
    rw [List.getElem?_append_right (by omega)] at h ⊢
    rw [← hl]; exact h
theorem jh_R {A B : List va_E} (n : Nat) (hn : A.length = n) : ∀ (j : Nat) (x : va_E), B[j]? = some x → (A ++ B)[(fun j => n + j) j]? = some x := fun j x h => by
  show (A ++ B)[n + j]? = some x
  rw [List.getElem?_append_right (by omega), hn, Nat.add_sub_cancel_left]; exact h
theorem jh_Rb {A B B' : List va_E} (n : Nat) (hn : A.length = n) : ∀ (k : Nat) (x : va_E), (A ++ B')[k]? = some x → (∃ j : Nat, (fun j => n + j) j = k ∧ B'[j]? = some x) ∨ ((∀ j, j < B.length → (fun j => n + j) j ≠ k) ∧ (A ++ B)[k]? = some x) := fun k x h => by
  by_cases hk : k < A.length
  · refine Or.inr ⟨fun j hj => by show n + j ≠ k; omega, ?_⟩
    rw [List.getElem?_append_left hk] at h ⊢; exact h
  · rw [List.getElem?_append_right (by omega)] at h
    exact Or.inl ⟨k - A.length, by show n + (k - A.length) = k; omega, h⟩
theorem jh_iL : ∀ (n i j : Nat), i < n → j < n → (fun j : Nat => j) i = (fun j => j) j → i = j := fun _ _ _ _ _ h => h
theorem jh_iR (m : Nat) : ∀ (n i j : Nat), i < n → j < n → (fun j : Nat => m + j) i = (fun j => m + j) j → i = j := fun _ i j _ _ h => by
  have h1 : m + i = m + j := h
  omega
/-! by lists of places -/
def mergeL : List (Option Nat) → List va_E → List va_E → List va_E
  | o :: mz, es, x :: ws => (match o with | none => x | some j => es.getD j x) :: mergeL mz es ws
  | _, _, _ => []
theorem mergeL_get : ∀ (mz : List (Option Nat)) (es ws : List va_E) (k : Nat) (x : va_E), (mergeL mz es ws)[k]? = some x → ∃ (o : Option Nat) (y : va_E), mz[k]? = some o ∧ ws[k]? = some y ∧ x = (match o with | none => y | some j => es.getD j y)
  | [], es, ws, k, x, h => by simp [mergeL] at h
  | o :: mz, es, [], k, x, h => by simp [mergeL] at h
  | o :: mz, es, y :: ws, 0, x, h => by
    simp only [mergeL, List.getElem?_cons_zero, Option.some.injEq] at h
    exact ⟨o, y, rfl, rfl, h.symm⟩
  | o :: mz, es, y :: ws, k + 1, x, h => by
    simp only [mergeL, List.getElem?_cons_succ] at h
    obtain ⟨o', y', h1, h2, h3⟩ := mergeL_get mz es ws k x h
    exact ⟨o', y', by simpa using h1, by simpa using h2, h3⟩
def mkOK (mz : List (Option Nat)) (is : List Nat) : Bool := (List.range mz.length).all (fun k => match mz[k]? with | some (some j) => is[j]? == some k | _ => is.all (fun i => !(i == k)))
theorem jh_S {is : List Nat} {wc ws : List va_E} (his : is.map (fun i => ws[i]?) = wc.map some) : ∀ (j : Nat) (x : va_E), wc[j]? = some x → ws[(fun j => is.getD j 0) j]? = some x := fun j x h => by
  have hl : is.length = wc.length := by have := congrArg List.length his; simpa using this
  obtain ⟨i, h1, h2⟩ := jw_sub (is := is) (wc := wc) (ws := ws) (by rw [← hl, List.take_length]; exact his) h
  show ws[is.getD j 0]? = some x
  simp only [List.getD, h1, Option.getD_some]; exact h2
theorem jh_iS {is : List Nat} (hnd : va_nd is = true) : ∀ (n i j : Nat), n ≤ is.length → i < n → j < n → (fun j : Nat => is.getD j 0) i = (fun j => is.getD j 0) j → i = j := fun n i j hn hi hj h => by
  have h1 : is.getD i 0 = is.getD j 0 := h
  have hi' : i < is.length := by omega
  have hj' : j < is.length := by omega
  simp only [List.getD, List.getElem?_eq_getElem hi', List.getElem?_eq_getElem hj', Option.getD_some] at h1
  exact va_nd_inj is hnd i j is[i] (List.getElem?_eq_getElem hi') (by rw [List.getElem?_eq_getElem hj', h1])
theorem jh_Sb {mz : List (Option Nat)} {is : List Nat} {wc wc' ws ws' : List va_E} (hok : mkOK mz is = true) (hl : wc'.length = is.length) (hl2 : wc.length ≤ is.length) (hput : mergeL mz wc' ws = ws') : ∀ (k : Nat) (x : va_E), ws'[k]? = some x → (∃ j : Nat, (fun j => is.getD j 0) j = k ∧ wc'[j]? = some x) ∨ ((∀ j, j < wc.length → (fun j => is.getD j 0) j ≠ k) ∧ ws[k]? = some x) := fun k x h => by
  subst hput
  obtain ⟨o, y, h1, h2, h3⟩ := mergeL_get mz wc' ws k x h
  have hk : k < mz.length := (List.getElem?_eq_some_iff.mp h1).1
  have h4 := List.all_eq_true.mp hok k (List.mem_range.mpr hk)
  rw [h1] at h4
  cases o with
  | none =>
    refine Or.inr ⟨fun j hj he => ?_, by rw [h3]; exact h2⟩
    have he : is.getD j 0 = k := he
    have hj' : j < is.length := by omega
    simp only [List.getD, List.getElem?_eq_getElem hj', Option.getD_some] at he
    have h5 := List.all_eq_true.mp h4 is[j] (List.getElem_mem hj')
    simp [he] at h5
  | some j =>
    have h5 : is[j]? = some k := by simpa using h4
    have hj : j < wc'.length := by rw [hl]; exact (List.getElem?_eq_some_iff.mp h5).1
    refine Or.inl ⟨j, by show is.getD j 0 = k; simp [List.getD, h5], ?_⟩
    rw [h3]
    simp [List.getD, List.getElem?_eq_getElem hj]
