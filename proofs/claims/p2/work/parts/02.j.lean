theorem goodIn_subJ {big ws : List Cond} (hm : ∀ w ∈ ws, w ∈ big) (h : ws.all goodWord = true) : GoodIn big ws := fun w hw => ⟨hm w hw, good_of_word (List.all_eq_true.mp h w hw)⟩
/-! MY OWN LAYER over the kit: J, a judgement whose world is a list of cells at the addresses ad 0, ad 1, ..; CT, a contract over such worlds. -/
/-- where the tables put classes, and the classes of int[], byte[], long[], boolean[] -/
abbrev jG : Type := va_G × ClassId × ClassId × ClassId × ClassId
def jT (G : jG) : List (ClassId × FieldType) := [(G.2.1, .int), (G.2.2.1, .byte), (G.2.2.2.1, .long), (G.2.2.2.2, .boolean)]
abbrev aI (G : jG) (n : Nat) (f : Nat → Int32) : va_E := .inl (G.2.1, n, .inl f)
abbrev aB (G : jG) (n : Nat) (f : Nat → Int32) : va_E := .inl (G.2.2.1, n, .inl f)
abbrev aL (G : jG) (n : Nat) (f : Nat → Int64) : va_E := .inl (G.2.2.2.1, n, .inr (.inl f))
abbrev aZ (G : jG) (n : Nat) (f : Nat → Int32) : va_E := .inl (G.2.2.2.2, n, .inl f)
abbrev ob (ci : Nat) (fs : List Value) : va_E := .inr (ci, fs)
abbrev jX : Type := (Program × Launch × Env × Room) × (State × MethodId × Array Value × List Frame) × (Method × Code) × ((State → Prop) × (Nat → Prop))
def wl (ad : Nat → Nat) : Nat → List va_E → va_W
  | _, [] => []
  | k, e :: r => (ad k, e) :: wl ad (k + 1) r
theorem wl_get (ad : Nat → Nat) : ∀ (ws : List va_E) (k i : Nat), (wl ad k ws)[i]? = (ws[i]?).map (fun e => (ad (k + i), e))
  | [], k, i => by simp [wl]
  | e :: r, k, 0 => by simp [wl]
  | e :: r, k, i + 1 => by
    have h := wl_get ad r (k + 1) i
    simp only [wl, List.getElem?_cons_succ]
    rw [h, show k + 1 + i = k + (i + 1) by omega]
theorem wl_len (ad : Nat → Nat) : ∀ (ws : List va_E) (k : Nat), (wl ad k ws).length = ws.length
  | [], _ => rfl
  | _ :: r, k => by simp [wl, wl_len ad r (k + 1)]
theorem wl_at {ad : Nat → Nat} {ws : List va_E} {i : Nat} {e : va_E} (h : ws[i]? = some e) : (wl ad 0 ws)[i]? = some (ad i, e) := by
  rw [wl_get, h]; simp
theorem wl_of {ad : Nat → Nat} {ws : List va_E} {i : Nat} {q : Nat × va_E} (h : (wl ad 0 ws)[i]? = some q) : ws[i]? = some q.2 ∧ q.1 = ad i := by
  rw [wl_get] at h
  cases he : ws[i]? with
  | none => rw [he] at h; cases h
  | some e => rw [he] at h; simp at h; subst h; exact ⟨rfl, rfl⟩
theorem wl_set (ad : Nat → Nat) : ∀ (ws : List va_E) (k i : Nat) (e : va_E), wl ad k (ws.set i e) = (wl ad k ws).set i (ad (k + i), e)
  | [], _, _, _ => by simp [wl]
  | _ :: r, k, 0, e => by simp [wl]
  | _ :: r, k, i + 1, e => by
    have h := wl_set ad r (k + 1) i e
    simp only [wl, List.set_cons_succ]
    rw [h, show k + 1 + i = k + (i + 1) by omega]
theorem wl_set0 {ad : Nat → Nat} {ws ws' : List va_E} {i : Nat} {e : va_E} (h : ws.set i e = ws') : (wl ad 0 ws).set i (ad i, e) = wl ad 0 ws' := by
  subst h; rw [wl_set]; simp
theorem wl_app (ad : Nat → Nat) : ∀ (ws : List va_E) (k : Nat) (e : va_E), wl ad k (ws ++ [e]) = wl ad k ws ++ [(ad (k + ws.length), e)]
  | [], k, e => by simp [wl]
  | x :: r, k, e => by
    have h := wl_app ad r (k + 1) e
    simp only [wl, List.cons_append]
    rw [h]; simp only [List.length_cons]; rw [show k + 1 + r.length = k + (r.length + 1) by omega]
/-- the locals, by their numbers -/
def lvg : List (Nat × Value) → Nat → Option Value
  | [], _ => none
  | q :: r, i => if q.1 = i then some q.2 else lvg r i
theorem lvg_mem {i : Nat} {v : Value} : ∀ {l : List (Nat × Value)}, lvg l i = some v → (i, v) ∈ l
  | [], h => by cases h
  | q :: r, h => by
    unfold lvg at h
    by_cases hq : q.1 = i
    · rw [if_pos hq] at h; cases h; subst hq; exact List.mem_cons_self
    · rw [if_neg hq] at h; exact List.mem_cons_of_mem _ (lvg_mem h)
theorem lvg_at {ls : Array Slot} {nL : Nat} {l : List (Nat × Value)} (h : lv_has ls nL l) {i : Nat} {v : Value} (hg : lvg l i = some v) : ls[i]? = some (.val v) := h.2.2 (i, v) (lvg_mem hg)
def lvs1 (l : List (Nat × Value)) (i : Nat) (v : Value) : List (Nat × Value) := (i, v) :: l.filter (fun q => !(q.1 == i) && !(q.1 + 1 == i && q.2.category == 2))
def lvs2 (l : List (Nat × Value)) (i : Nat) (v : Value) : List (Nat × Value) := (i, v) :: l.filter (fun q => !(q.1 == i) && (!(q.1 == i + 1) && !(q.1 + 1 == i && q.2.category == 2)))
/-- where l' has nothing that l has not -/
def lvi (l l' : List (Nat × Value)) : Prop := ∀ q ∈ l', lvg l q.1 = some q.2
theorem lvi_nil {l : List (Nat × Value)} : lvi l [] := fun _ h => absurd h List.not_mem_nil
theorem lvi_cons {l r : List (Nat × Value)} {i : Nat} {v : Value} (h : lvg l i = some v) (hr : lvi l r) : lvi l ((i, v) :: r) := fun q hq => by
  rcases List.mem_cons.mp hq with rfl | h2
  · exact h
  · exact hr q h2
theorem lvi_has {ls : Array Slot} {nL : Nat} {l l' : List (Nat × Value)} (h : lv_has ls nL l) (hi : lvi l l') : lv_has ls nL l' := ⟨h.1, h.2.1, fun q hq => lvg_at h (hi q hq)⟩
def J (G : jG) (X : jX) (nL : Nat) (ad : Nat → Nat) (cn sn : Nat) (ws : List va_E) (lv : List (Nat × Value)) (pc : Nat) (st : List Value) : Prop :=
  ∀ (H : Heap) (locs : List Loc) (ls : Array Slot), va_P G.1 vwCl (wl ad 0 ws) H → va_D X.2.2.2.2 (wl ad 0 ws) → va_S X.2.2.2.2 X.2.1.1.heap H locs → lv_has ls nL lv →
    W X.1.1 X.1.2.1 X.1.2.2.1 X.1.2.2.2 X.2.1.1 X.2.1.2.1 X.2.1.2.2.1 X.2.1.2.2.2 X.2.2.1.1 X.2.2.1.2 H locs cn sn X.2.2.2.1 (F0 X.2.1.2.1 pc ls st)
/-- the nest mates' links, which are carried along -/
def NWx (U : State) : Prop := ∀ w ∈ lw_nest, va_Nw w U
theorem NWx.warm {s U : State} (hW : s.WarmedH U.vm) (h : NWx s) : NWx U := fun w hw => by
  have h1 := h w hw
  obtain ⟨a, i, x, z, rfl⟩ := lw_nest_is w hw
  exact va_Nw.warmM hW h1
theorem NWx.same {s U : State} (hv : s.vm = U.vm) (h : NWx s) : NWx U := fun w hw => by
  have h1 := h w hw
  obtain ⟨a, i, x, z, rfl⟩ := lw_nest_is w hw
  exact va_Nw.same rfl hv h1
/-- what is fixed in a method's body -/
def jB (G : jG) (X : jX) (cc : ByteArray) (nL : Nat) (own : String) (rm : Room) : Prop :=
  X.1.1.tables.exec = Jvm.exec ∧ X.2.2.1.2.code = cc ∧ X.2.2.1.2.maxLocals = nL ∧ X.2.1.1.vm.findClass own = some X.2.1.2.1.cls ∧ (∀ w ∈ lw_gt, w.before X.2.1.2.2.1 X.2.1.1 = true) ∧ va_K G.1 vwCl (jT G) X.2.1.1 ∧ (∀ q, X.2.1.1.heap.size ≤ q → X.2.2.2.2 q) ∧ X.1.2.2.2 = rm ∧ NWx X.2.1.1
section JR
variable {G : jG} {X : jX} {nL cn sn : Nat} {ad : Nat → Nat} {ws : List va_E} {lv lv' : List (Nat × Value)} {pc : Nat} {st : List Value} {cc : ByteArray} {own : String} {rm : Room}
theorem jv_iconst (B : jB G X cc nL own rm) {n : Int} {v : Int32} (hd : decode cc pc = .ok (.iconst n, 1)) (hv : Int32.ofInt n = v) (k : J G X nL ad cn sn ws lv (pc + 1) (.int v :: st)) : J G X nL ad cn sn ws lv pc st :=
  fun H L ls a b d e => lv_iconst B.1 B.2.1 hd hv (k H L ls a b d e)
theorem jv_bipush (B : jB G X cc nL own rm) {n : Int} {v : Int32} (hd : decode cc pc = .ok (.bipush n, 2)) (hv : (Int8.ofInt n).toInt32 = v) (k : J G X nL ad cn sn ws lv (pc + 2) (.int v :: st)) : J G X nL ad cn sn ws lv pc st :=
  fun H L ls a b d e => lv_bipush B.1 B.2.1 hd hv (k H L ls a b d e)
theorem jv_sipush (B : jB G X cc nL own rm) {n : Int} {v : Int32} (hd : decode cc pc = .ok (.sipush n, 3)) (hv : (Int16.ofInt n).toInt32 = v) (k : J G X nL ad cn sn ws lv (pc + 3) (.int v :: st)) : J G X nL ad cn sn ws lv pc st :=
  fun H L ls a b d e => lv_sipush B.1 B.2.1 hd hv (k H L ls a b d e)
theorem jv_lconst (B : jB G X cc nL own rm) {n : Fin 2} {v : Int64} (hd : decode cc pc = .ok (.lconst n, 1)) (hv : Int64.ofNat (n : Nat) = v) (k : J G X nL ad cn sn ws lv (pc + 1) (.long v :: st)) : J G X nL ad cn sn ws lv pc st :=
  fun H L ls a b d e => lv_lconst B.1 B.2.1 hd hv (k H L ls a b d e)
theorem jv_null (B : jB G X cc nL own rm) (hd : decode cc pc = .ok (.aconst_null, 1)) (k : J G X nL ad cn sn ws lv (pc + 1) (.null :: st)) : J G X nL ad cn sn ws lv pc st :=
  fun H L ls a b d e => lv_null B.1 B.2.1 hd (k H L ls a b d e)
theorem jv_ldc (B : jB G X cc nL own rm) {index : Nat} {v : Int32} (hm : Jvm.Cond.constant own index v ∈ lw_gt) (hd : decode cc pc = .ok (.ldc index, 2)) (k : J G X nL ad cn sn ws lv (pc + 2) (.int v :: st)) : J G X nL ad cn sn ws lv pc st :=
  fun H L ls a b d e => lv_ldc B.1 B.2.1 B.2.2.2.1 (B.2.2.2.2.1 _ hm) hd (k H L ls a b d e)
theorem jv_ldcw (B : jB G X cc nL own rm) {index : Nat} {v : Int32} (hm : Jvm.Cond.constant own index v ∈ lw_gt) (hd : decode cc pc = .ok (.ldc_w index, 3)) (k : J G X nL ad cn sn ws lv (pc + 3) (.int v :: st)) : J G X nL ad cn sn ws lv pc st :=
  fun H L ls a b d e => lv_ldcw B.1 B.2.1 B.2.2.2.1 (B.2.2.2.2.1 _ hm) hd (k H L ls a b d e)
theorem jv_ldc2 (B : jB G X cc nL own rm) {index : Nat} {v : Int64} (hm : Jvm.Cond.constantLong own index v ∈ lw_gt) (hd : decode cc pc = .ok (.ldc2_w index, 3)) (k : J G X nL ad cn sn ws lv (pc + 3) (.long v :: st)) : J G X nL ad cn sn ws lv pc st :=
  fun H L ls a b d e => lv_ldc2 B.1 B.2.1 B.2.2.2.1 (B.2.2.2.2.1 _ hm) hd (k H L ls a b d e)
theorem jv_iload_n (B : jB G X cc nL own rm) {k : Fin 4} {x : Int32} (hd : decode cc pc = .ok (.iload_n k, 1)) (hl : lvg lv (k : Nat) = some (.int x)) (kk : J G X nL ad cn sn ws lv (pc + 1) (.int x :: st)) : J G X nL ad cn sn ws lv pc st :=
  fun H L ls a b d e => lv_iload_n B.1 B.2.1 hd rfl (lvg_at e hl) (kk H L ls a b d e)
theorem jv_iload (B : jB G X cc nL own rm) {i : Nat} {x : Int32} (hd : decode cc pc = .ok (.iload i, 2)) (hl : lvg lv i = some (.int x)) (kk : J G X nL ad cn sn ws lv (pc + 2) (.int x :: st)) : J G X nL ad cn sn ws lv pc st :=
  fun H L ls a b d e => lv_iload B.1 B.2.1 hd (lvg_at e hl) (kk H L ls a b d e)
theorem jv_lload_n (B : jB G X cc nL own rm) {k : Fin 4} {x : Int64} (hd : decode cc pc = .ok (.lload_n k, 1)) (hl : lvg lv (k : Nat) = some (.long x)) (kk : J G X nL ad cn sn ws lv (pc + 1) (.long x :: st)) : J G X nL ad cn sn ws lv pc st :=
  fun H L ls a b d e => lv_lload_n B.1 B.2.1 hd rfl (lvg_at e hl) (kk H L ls a b d e)
theorem jv_lload (B : jB G X cc nL own rm) {i : Nat} {x : Int64} (hd : decode cc pc = .ok (.lload i, 2)) (hl : lvg lv i = some (.long x)) (kk : J G X nL ad cn sn ws lv (pc + 2) (.long x :: st)) : J G X nL ad cn sn ws lv pc st :=
  fun H L ls a b d e => lv_lload B.1 B.2.1 hd (lvg_at e hl) (kk H L ls a b d e)
theorem jv_aload_n (B : jB G X cc nL own rm) {k : Fin 4} {x : Nat} (hd : decode cc pc = .ok (.aload_n k, 1)) (hl : lvg lv (k : Nat) = some (.ref x)) (kk : J G X nL ad cn sn ws lv (pc + 1) (.ref x :: st)) : J G X nL ad cn sn ws lv pc st :=
  fun H L ls a b d e => lv_aload_n B.1 B.2.1 hd rfl (lvg_at e hl) (kk H L ls a b d e)
theorem jv_aload (B : jB G X cc nL own rm) {i : Nat} {x : Nat} (hd : decode cc pc = .ok (.aload i, 2)) (hl : lvg lv i = some (.ref x)) (kk : J G X nL ad cn sn ws lv (pc + 2) (.ref x :: st)) : J G X nL ad cn sn ws lv pc st :=
  fun H L ls a b d e => lv_aload B.1 B.2.1 hd (lvg_at e hl) (kk H L ls a b d e)
theorem jv_istore_n (B : jB G X cc nL own rm) {k : Fin 4} {x : Int32} (hd : decode cc pc = .ok (.istore_n k, 1)) (hn : (k : Nat) < nL) (hl : lvi (lvs1 lv (k : Nat) (.int x)) lv') (kk : J G X nL ad cn sn ws lv' (pc + 1) st) : J G X nL ad cn sn ws lv pc (.int x :: st) :=
  fun H L ls a b d e => lv_istore_n B.1 B.2.1 hd rfl e hn rfl (fun ls' h' => kk H L ls' a b d (lvi_has h' hl))
theorem jv_istore (B : jB G X cc nL own rm) {i : Nat} {x : Int32} (hd : decode cc pc = .ok (.istore i, 2)) (hn : i < nL) (hl : lvi (lvs1 lv i (.int x)) lv') (kk : J G X nL ad cn sn ws lv' (pc + 2) st) : J G X nL ad cn sn ws lv pc (.int x :: st) :=
  fun H L ls a b d e => lv_istore B.1 B.2.1 hd e hn rfl (fun ls' h' => kk H L ls' a b d (lvi_has h' hl))
theorem jv_lstore_n (B : jB G X cc nL own rm) {k : Fin 4} {x : Int64} (hd : decode cc pc = .ok (.lstore_n k, 1)) (hn : (k : Nat) + 1 < nL) (hl : lvi (lvs2 lv (k : Nat) (.long x)) lv') (kk : J G X nL ad cn sn ws lv' (pc + 1) st) : J G X nL ad cn sn ws lv pc (.long x :: st) :=
  fun H L ls a b d e => lv_lstore_n B.1 B.2.1 hd rfl e hn rfl (fun ls' h' => kk H L ls' a b d (lvi_has h' hl))
theorem jv_lstore (B : jB G X cc nL own rm) {i : Nat} {x : Int64} (hd : decode cc pc = .ok (.lstore i, 2)) (hn : i + 1 < nL) (hl : lvi (lvs2 lv i (.long x)) lv') (kk : J G X nL ad cn sn ws lv' (pc + 2) st) : J G X nL ad cn sn ws lv pc (.long x :: st) :=
  fun H L ls a b d e => lv_lstore B.1 B.2.1 hd e hn rfl (fun ls' h' => kk H L ls' a b d (lvi_has h' hl))
theorem jv_astore_n (B : jB G X cc nL own rm) {k : Fin 4} {x : Nat} (hd : decode cc pc = .ok (.astore_n k, 1)) (hn : (k : Nat) < nL) (hl : lvi (lvs1 lv (k : Nat) (.ref x)) lv') (kk : J G X nL ad cn sn ws lv' (pc + 1) st) : J G X nL ad cn sn ws lv pc (.ref x :: st) :=
  fun H L ls a b d e => lv_astore_n B.1 B.2.1 hd rfl e hn rfl (fun ls' h' => kk H L ls' a b d (lvi_has h' hl))
theorem jv_astore (B : jB G X cc nL own rm) {i : Nat} {x : Nat} (hd : decode cc pc = .ok (.astore i, 2)) (hn : i < nL) (hl : lvi (lvs1 lv i (.ref x)) lv') (kk : J G X nL ad cn sn ws lv' (pc + 2) st) : J G X nL ad cn sn ws lv pc (.ref x :: st) :=
  fun H L ls a b d e => lv_astore B.1 B.2.1 hd e hn rfl (fun ls' h' => kk H L ls' a b d (lvi_has h' hl))
theorem jv_iinc (B : jB G X cc nL own rm) {i : Nat} {n : Int} {x v : Int32} (hd : decode cc pc = .ok (.iinc i n, 3)) (hg : lvg lv i = some (.int x)) (hv : x + Int32.ofInt n = v) (hn : i < nL) (hl : lvi (lvs1 lv i (.int v)) lv') (kk : J G X nL ad cn sn ws lv' (pc + 3) st) : J G X nL ad cn sn ws lv pc st :=
  fun H L ls a b d e => by
    obtain ⟨k, hk⟩ := List.getElem?_of_mem (lvg_mem hg)
    exact lv_iinc B.1 B.2.1 hd e hk hv hn rfl (fun ls' h' => kk H L ls' a b d (lvi_has h' hl))
theorem jv_iadd (B : jB G X cc nL own rm) {x y : Int32} (hd : decode cc pc = .ok (.iadd, 1)) (k : J G X nL ad cn sn ws lv (pc + 1) (.int (x + y) :: st)) : J G X nL ad cn sn ws lv pc (.int y :: .int x :: st) :=
  fun H L ls a b d e => lv_iadd B.1 B.2.1 hd (k H L ls a b d e)
theorem jv_isub (B : jB G X cc nL own rm) {x y : Int32} (hd : decode cc pc = .ok (.isub, 1)) (k : J G X nL ad cn sn ws lv (pc + 1) (.int (x - y) :: st)) : J G X nL ad cn sn ws lv pc (.int y :: .int x :: st) :=
  fun H L ls a b d e => lv_isub B.1 B.2.1 hd (k H L ls a b d e)
theorem jv_imul (B : jB G X cc nL own rm) {x y : Int32} (hd : decode cc pc = .ok (.imul, 1)) (k : J G X nL ad cn sn ws lv (pc + 1) (.int (x * y) :: st)) : J G X nL ad cn sn ws lv pc (.int y :: .int x :: st) :=
  fun H L ls a b d e => lv_imul B.1 B.2.1 hd (k H L ls a b d e)
theorem jv_iand (B : jB G X cc nL own rm) {x y : Int32} (hd : decode cc pc = .ok (.iand, 1)) (k : J G X nL ad cn sn ws lv (pc + 1) (.int (x &&& y) :: st)) : J G X nL ad cn sn ws lv pc (.int y :: .int x :: st) :=
  fun H L ls a b d e => lv_iand B.1 B.2.1 hd (k H L ls a b d e)
theorem jv_ior (B : jB G X cc nL own rm) {x y : Int32} (hd : decode cc pc = .ok (.ior, 1)) (k : J G X nL ad cn sn ws lv (pc + 1) (.int (x ||| y) :: st)) : J G X nL ad cn sn ws lv pc (.int y :: .int x :: st) :=
  fun H L ls a b d e => lv_ior B.1 B.2.1 hd (k H L ls a b d e)
theorem jv_ixor (B : jB G X cc nL own rm) {x y : Int32} (hd : decode cc pc = .ok (.ixor, 1)) (k : J G X nL ad cn sn ws lv (pc + 1) (.int (x ^^^ y) :: st)) : J G X nL ad cn sn ws lv pc (.int y :: .int x :: st) :=
  fun H L ls a b d e => lv_ixor B.1 B.2.1 hd (k H L ls a b d e)
theorem jv_idiv (B : jB G X cc nL own rm) {x y : Int32} (hd : decode cc pc = .ok (.idiv, 1)) (hne : ¬ y = 0) (k : J G X nL ad cn sn ws lv (pc + 1) (.int (x / y) :: st)) : J G X nL ad cn sn ws lv pc (.int y :: .int x :: st) :=
  fun H L ls a b d e => lv_idiv B.1 B.2.1 hd hne (k H L ls a b d e)
theorem jv_irem (B : jB G X cc nL own rm) {x y : Int32} (hd : decode cc pc = .ok (.irem, 1)) (hne : ¬ y = 0) (k : J G X nL ad cn sn ws lv (pc + 1) (.int (x - x / y * y) :: st)) : J G X nL ad cn sn ws lv pc (.int y :: .int x :: st) :=
  fun H L ls a b d e => lv_irem B.1 B.2.1 hd hne (k H L ls a b d e)
theorem jv_ineg (B : jB G X cc nL own rm) {x : Int32} (hd : decode cc pc = .ok (.ineg, 1)) (k : J G X nL ad cn sn ws lv (pc + 1) (.int (-x) :: st)) : J G X nL ad cn sn ws lv pc (.int x :: st) :=
  fun H L ls a b d e => lv_ineg B.1 B.2.1 hd (k H L ls a b d e)
theorem jv_ishl (B : jB G X cc nL own rm) {x y : Int32} (hd : decode cc pc = .ok (.ishl, 1)) (k : J G X nL ad cn sn ws lv (pc + 1) (.int (x <<< (y &&& 31)) :: st)) : J G X nL ad cn sn ws lv pc (.int y :: .int x :: st) :=
  fun H L ls a b d e => lv_ishl B.1 B.2.1 hd (k H L ls a b d e)
theorem jv_ishr (B : jB G X cc nL own rm) {x y : Int32} (hd : decode cc pc = .ok (.ishr, 1)) (k : J G X nL ad cn sn ws lv (pc + 1) (.int (x >>> (y &&& 31)) :: st)) : J G X nL ad cn sn ws lv pc (.int y :: .int x :: st) :=
  fun H L ls a b d e => lv_ishr B.1 B.2.1 hd (k H L ls a b d e)
theorem jv_iushr (B : jB G X cc nL own rm) {x y : Int32} (hd : decode cc pc = .ok (.iushr, 1)) (k : J G X nL ad cn sn ws lv (pc + 1) (.int ((x.toUInt32 >>> (y.toUInt32 &&& Int32.toUInt32 31)).toInt32) :: st)) : J G X nL ad cn sn ws lv pc (.int y :: .int x :: st) :=
  fun H L ls a b d e => lv_iushr B.1 B.2.1 hd rfl (k H L ls a b d e)
theorem jv_ladd (B : jB G X cc nL own rm) {x y : Int64} (hd : decode cc pc = .ok (.ladd, 1)) (k : J G X nL ad cn sn ws lv (pc + 1) (.long (x + y) :: st)) : J G X nL ad cn sn ws lv pc (.long y :: .long x :: st) :=
  fun H L ls a b d e => lv_ladd B.1 B.2.1 hd (k H L ls a b d e)
theorem jv_lsub (B : jB G X cc nL own rm) {x y : Int64} (hd : decode cc pc = .ok (.lsub, 1)) (k : J G X nL ad cn sn ws lv (pc + 1) (.long (x - y) :: st)) : J G X nL ad cn sn ws lv pc (.long y :: .long x :: st) :=
  fun H L ls a b d e => lv_lsub B.1 B.2.1 hd (k H L ls a b d e)
theorem jv_lmul (B : jB G X cc nL own rm) {x y : Int64} (hd : decode cc pc = .ok (.lmul, 1)) (k : J G X nL ad cn sn ws lv (pc + 1) (.long (x * y) :: st)) : J G X nL ad cn sn ws lv pc (.long y :: .long x :: st) :=
  fun H L ls a b d e => lv_lmul B.1 B.2.1 hd (k H L ls a b d e)
theorem jv_ldiv (B : jB G X cc nL own rm) {x y : Int64} (hd : decode cc pc = .ok (.ldiv, 1)) (hne : ¬ y = 0) (k : J G X nL ad cn sn ws lv (pc + 1) (.long (x / y) :: st)) : J G X nL ad cn sn ws lv pc (.long y :: .long x :: st) :=
  fun H L ls a b d e => lv_ldiv B.1 B.2.1 hd hne (k H L ls a b d e)
theorem jv_lrem (B : jB G X cc nL own rm) {x y : Int64} (hd : decode cc pc = .ok (.lrem, 1)) (hne : ¬ y = 0) (k : J G X nL ad cn sn ws lv (pc + 1) (.long (x - x / y * y) :: st)) : J G X nL ad cn sn ws lv pc (.long y :: .long x :: st) :=
  fun H L ls a b d e => lv_lrem B.1 B.2.1 hd hne (k H L ls a b d e)
theorem jv_land (B : jB G X cc nL own rm) {x y : Int64} (hd : decode cc pc = .ok (.land, 1)) (k : J G X nL ad cn sn ws lv (pc + 1) (.long (x &&& y) :: st)) : J G X nL ad cn sn ws lv pc (.long y :: .long x :: st) :=
  fun H L ls a b d e => lv_land B.1 B.2.1 hd (k H L ls a b d e)
theorem jv_lor (B : jB G X cc nL own rm) {x y : Int64} (hd : decode cc pc = .ok (.lor, 1)) (k : J G X nL ad cn sn ws lv (pc + 1) (.long (x ||| y) :: st)) : J G X nL ad cn sn ws lv pc (.long y :: .long x :: st) :=
  fun H L ls a b d e => lv_lor B.1 B.2.1 hd (k H L ls a b d e)
theorem jv_lxor (B : jB G X cc nL own rm) {x y : Int64} (hd : decode cc pc = .ok (.lxor, 1)) (k : J G X nL ad cn sn ws lv (pc + 1) (.long (x ^^^ y) :: st)) : J G X nL ad cn sn ws lv pc (.long y :: .long x :: st) :=
  fun H L ls a b d e => lv_lxor B.1 B.2.1 hd (k H L ls a b d e)
theorem jv_lneg (B : jB G X cc nL own rm) {x : Int64} (hd : decode cc pc = .ok (.lneg, 1)) (k : J G X nL ad cn sn ws lv (pc + 1) (.long (-x) :: st)) : J G X nL ad cn sn ws lv pc (.long x :: st) :=
  fun H L ls a b d e => lv_lneg B.1 B.2.1 hd (k H L ls a b d e)
theorem jv_lshl (B : jB G X cc nL own rm) {x : Int64} {y : Int32} (hd : decode cc pc = .ok (.lshl, 1)) (k : J G X nL ad cn sn ws lv (pc + 1) (.long (x <<< (y.toInt64 &&& 63)) :: st)) : J G X nL ad cn sn ws lv pc (.int y :: .long x :: st) :=
  fun H L ls a b d e => lv_lshl B.1 B.2.1 hd rfl (k H L ls a b d e)
theorem jv_lshr (B : jB G X cc nL own rm) {x : Int64} {y : Int32} (hd : decode cc pc = .ok (.lshr, 1)) (k : J G X nL ad cn sn ws lv (pc + 1) (.long (x >>> (y.toInt64 &&& 63)) :: st)) : J G X nL ad cn sn ws lv pc (.int y :: .long x :: st) :=
  fun H L ls a b d e => lv_lshr B.1 B.2.1 hd rfl (k H L ls a b d e)
theorem jv_lushr (B : jB G X cc nL own rm) {x : Int64} {y : Int32} (hd : decode cc pc = .ok (.lushr, 1)) (k : J G X nL ad cn sn ws lv (pc + 1) (.long ((x.toUInt64 >>> (y.toInt64.toUInt64 &&& Int64.toUInt64 63)).toInt64) :: st)) : J G X nL ad cn sn ws lv pc (.int y :: .long x :: st) :=
  fun H L ls a b d e => lv_lushr B.1 B.2.1 hd rfl (k H L ls a b d e)
theorem jv_i2l (B : jB G X cc nL own rm) {x : Int32} (hd : decode cc pc = .ok (.i2l, 1)) (k : J G X nL ad cn sn ws lv (pc + 1) (.long x.toInt64 :: st)) : J G X nL ad cn sn ws lv pc (.int x :: st) :=
  fun H L ls a b d e => lv_i2l B.1 B.2.1 hd rfl (k H L ls a b d e)
theorem jv_l2i (B : jB G X cc nL own rm) {x : Int64} (hd : decode cc pc = .ok (.l2i, 1)) (k : J G X nL ad cn sn ws lv (pc + 1) (.int x.toInt32 :: st)) : J G X nL ad cn sn ws lv pc (.long x :: st) :=
  fun H L ls a b d e => lv_l2i B.1 B.2.1 hd rfl (k H L ls a b d e)
theorem jv_i2b (B : jB G X cc nL own rm) {x : Int32} (hd : decode cc pc = .ok (.i2b, 1)) (k : J G X nL ad cn sn ws lv (pc + 1) (.int x.toInt8.toInt32 :: st)) : J G X nL ad cn sn ws lv pc (.int x :: st) :=
  fun H L ls a b d e => lv_i2b B.1 B.2.1 hd rfl (k H L ls a b d e)
theorem jv_dup (B : jB G X cc nL own rm) {v : Value} (hd : decode cc pc = .ok (.dup, 1)) (hv : v.category = 1) (k : J G X nL ad cn sn ws lv (pc + 1) (v :: v :: st)) : J G X nL ad cn sn ws lv pc (v :: st) :=
  fun H L ls a b d e => lv_dup B.1 B.2.1 hd hv (k H L ls a b d e)
theorem jv_pop (B : jB G X cc nL own rm) {v : Value} (hd : decode cc pc = .ok (.pop, 1)) (hv : v.category = 1) (k : J G X nL ad cn sn ws lv (pc + 1) st) : J G X nL ad cn sn ws lv pc (v :: st) :=
  fun H L ls a b d e => lv_pop B.1 B.2.1 hd hv (k H L ls a b d e)
theorem jv_dup_x1 (B : jB G X cc nL own rm) {v w : Value} (hd : decode cc pc = .ok (.dup_x1, 1)) (hv : v.category = 1) (hw : w.category = 1) (k : J G X nL ad cn sn ws lv (pc + 1) (v :: w :: v :: st)) : J G X nL ad cn sn ws lv pc (v :: w :: st) :=
  fun H L ls a b d e => lv_dup_x1 B.1 B.2.1 hd hv hw (k H L ls a b d e)
theorem jv_dup_x2 (B : jB G X cc nL own rm) {v w u : Value} (hd : decode cc pc = .ok (.dup_x2, 1)) (hv : v.category = 1) (hw : w.category = 1) (hu : u.category = 1) (k : J G X nL ad cn sn ws lv (pc + 1) (v :: w :: u :: v :: st)) : J G X nL ad cn sn ws lv pc (v :: w :: u :: st) :=
  fun H L ls a b d e => lv_dup_x2 B.1 B.2.1 hd hv hw hu (k H L ls a b d e)
theorem jv_dup2_11 (B : jB G X cc nL own rm) {v w : Value} (hd : decode cc pc = .ok (.dup2, 1)) (hv : v.category = 1) (hw : w.category = 1) (k : J G X nL ad cn sn ws lv (pc + 1) (v :: w :: v :: w :: st)) : J G X nL ad cn sn ws lv pc (v :: w :: st) :=
  fun H L ls a b d e => lv_dup2_11 B.1 B.2.1 hd hv hw (k H L ls a b d e)
theorem jv_lcmp (B : jB G X cc nL own rm) {x y : Int64} (hd : decode cc pc = .ok (.lcmp, 1)) (k : J G X nL ad cn sn ws lv (pc + 1) (.int (lg_cmp x y) :: st)) : J G X nL ad cn sn ws lv pc (.long y :: .long x :: st) :=
  fun H L ls a b d e => W.lcmp B.1 B.2.1 hd (k H L ls a b d e)
theorem jv_goto (B : jB G X cc nL own rm) {off : Int} {tgt : Nat} (hd : decode cc pc = .ok (.goto off, 3)) (ht : (pc : Int) + off = (tgt : Int)) (k : J G X nL ad cn sn ws lv tgt st) : J G X nL ad cn sn ws lv pc st :=
  fun H L ls a b d e => lv_goto B.1 B.2.1 hd ht (k H L ls a b d e)
theorem jv_if_eq (B : jB G X cc nL own rm) {x : Int32} {off : Int} {tgt : Nat} (hd : decode cc pc = .ok (.ifCond .eq off, 3)) (ht : (pc : Int) + off = (tgt : Int)) (kt : x = 0 → J G X nL ad cn sn ws lv tgt st) (kf : ¬ x = 0 → J G X nL ad cn sn ws lv (pc + 3) st) : J G X nL ad cn sn ws lv pc (.int x :: st) :=
  fun H L ls a b d e => lv_if_eq B.1 B.2.1 hd ht (fun h => kt h H L ls a b d e) (fun h => kf h H L ls a b d e)
theorem jv_if_ne (B : jB G X cc nL own rm) {x : Int32} {off : Int} {tgt : Nat} (hd : decode cc pc = .ok (.ifCond .ne off, 3)) (ht : (pc : Int) + off = (tgt : Int)) (kt : ¬ x = 0 → J G X nL ad cn sn ws lv tgt st) (kf : x = 0 → J G X nL ad cn sn ws lv (pc + 3) st) : J G X nL ad cn sn ws lv pc (.int x :: st) :=
  fun H L ls a b d e => lv_if_ne B.1 B.2.1 hd ht (fun h => kt h H L ls a b d e) (fun h => kf h H L ls a b d e)
theorem jv_if_lt (B : jB G X cc nL own rm) {x : Int32} {off : Int} {tgt : Nat} (hd : decode cc pc = .ok (.ifCond .lt off, 3)) (ht : (pc : Int) + off = (tgt : Int)) (kt : x < 0 → J G X nL ad cn sn ws lv tgt st) (kf : ¬ x < 0 → J G X nL ad cn sn ws lv (pc + 3) st) : J G X nL ad cn sn ws lv pc (.int x :: st) :=
  fun H L ls a b d e => lv_if_lt B.1 B.2.1 hd ht (fun h => kt h H L ls a b d e) (fun h => kf h H L ls a b d e)
theorem jv_if_ge (B : jB G X cc nL own rm) {x : Int32} {off : Int} {tgt : Nat} (hd : decode cc pc = .ok (.ifCond .ge off, 3)) (ht : (pc : Int) + off = (tgt : Int)) (kt : 0 ≤ x → J G X nL ad cn sn ws lv tgt st) (kf : ¬ 0 ≤ x → J G X nL ad cn sn ws lv (pc + 3) st) : J G X nL ad cn sn ws lv pc (.int x :: st) :=
  fun H L ls a b d e => lv_if_ge B.1 B.2.1 hd ht (fun h => kt h H L ls a b d e) (fun h => kf h H L ls a b d e)
theorem jv_if_gt (B : jB G X cc nL own rm) {x : Int32} {off : Int} {tgt : Nat} (hd : decode cc pc = .ok (.ifCond .gt off, 3)) (ht : (pc : Int) + off = (tgt : Int)) (kt : 0 < x → J G X nL ad cn sn ws lv tgt st) (kf : ¬ 0 < x → J G X nL ad cn sn ws lv (pc + 3) st) : J G X nL ad cn sn ws lv pc (.int x :: st) :=
  fun H L ls a b d e => lv_if_gt B.1 B.2.1 hd ht (fun h => kt h H L ls a b d e) (fun h => kf h H L ls a b d e)
theorem jv_if_le (B : jB G X cc nL own rm) {x : Int32} {off : Int} {tgt : Nat} (hd : decode cc pc = .ok (.ifCond .le off, 3)) (ht : (pc : Int) + off = (tgt : Int)) (kt : x ≤ 0 → J G X nL ad cn sn ws lv tgt st) (kf : ¬ x ≤ 0 → J G X nL ad cn sn ws lv (pc + 3) st) : J G X nL ad cn sn ws lv pc (.int x :: st) :=
  fun H L ls a b d e => lv_if_le B.1 B.2.1 hd ht (fun h => kt h H L ls a b d e) (fun h => kf h H L ls a b d e)
theorem jv_icmp_eq (B : jB G X cc nL own rm) {x y : Int32} {off : Int} {tgt : Nat} (hd : decode cc pc = .ok (.if_icmp .eq off, 3)) (ht : (pc : Int) + off = (tgt : Int)) (kt : x = y → J G X nL ad cn sn ws lv tgt st) (kf : ¬ x = y → J G X nL ad cn sn ws lv (pc + 3) st) : J G X nL ad cn sn ws lv pc (.int y :: .int x :: st) :=
  fun H L ls a b d e => lv_icmp_eq B.1 B.2.1 hd ht (fun h => kt h H L ls a b d e) (fun h => kf h H L ls a b d e)
theorem jv_icmp_ne (B : jB G X cc nL own rm) {x y : Int32} {off : Int} {tgt : Nat} (hd : decode cc pc = .ok (.if_icmp .ne off, 3)) (ht : (pc : Int) + off = (tgt : Int)) (kt : ¬ x = y → J G X nL ad cn sn ws lv tgt st) (kf : x = y → J G X nL ad cn sn ws lv (pc + 3) st) : J G X nL ad cn sn ws lv pc (.int y :: .int x :: st) :=
  fun H L ls a b d e => lv_icmp_ne B.1 B.2.1 hd ht (fun h => kt h H L ls a b d e) (fun h => kf h H L ls a b d e)
theorem jv_icmp_lt (B : jB G X cc nL own rm) {x y : Int32} {off : Int} {tgt : Nat} (hd : decode cc pc = .ok (.if_icmp .lt off, 3)) (ht : (pc : Int) + off = (tgt : Int)) (kt : x < y → J G X nL ad cn sn ws lv tgt st) (kf : ¬ x < y → J G X nL ad cn sn ws lv (pc + 3) st) : J G X nL ad cn sn ws lv pc (.int y :: .int x :: st) :=
  fun H L ls a b d e => lv_icmp_lt B.1 B.2.1 hd ht (fun h => kt h H L ls a b d e) (fun h => kf h H L ls a b d e)
theorem jv_icmp_ge (B : jB G X cc nL own rm) {x y : Int32} {off : Int} {tgt : Nat} (hd : decode cc pc = .ok (.if_icmp .ge off, 3)) (ht : (pc : Int) + off = (tgt : Int)) (kt : y ≤ x → J G X nL ad cn sn ws lv tgt st) (kf : ¬ y ≤ x → J G X nL ad cn sn ws lv (pc + 3) st) : J G X nL ad cn sn ws lv pc (.int y :: .int x :: st) :=
  fun H L ls a b d e => lv_icmp_ge B.1 B.2.1 hd ht (fun h => kt h H L ls a b d e) (fun h => kf h H L ls a b d e)
theorem jv_icmp_gt (B : jB G X cc nL own rm) {x y : Int32} {off : Int} {tgt : Nat} (hd : decode cc pc = .ok (.if_icmp .gt off, 3)) (ht : (pc : Int) + off = (tgt : Int)) (kt : y < x → J G X nL ad cn sn ws lv tgt st) (kf : ¬ y < x → J G X nL ad cn sn ws lv (pc + 3) st) : J G X nL ad cn sn ws lv pc (.int y :: .int x :: st) :=
  fun H L ls a b d e => lv_icmp_gt B.1 B.2.1 hd ht (fun h => kt h H L ls a b d e) (fun h => kf h H L ls a b d e)
theorem jv_icmp_le (B : jB G X cc nL own rm) {x y : Int32} {off : Int} {tgt : Nat} (hd : decode cc pc = .ok (.if_icmp .le off, 3)) (ht : (pc : Int) + off = (tgt : Int)) (kt : x ≤ y → J G X nL ad cn sn ws lv tgt st) (kf : ¬ x ≤ y → J G X nL ad cn sn ws lv (pc + 3) st) : J G X nL ad cn sn ws lv pc (.int y :: .int x :: st) :=
  fun H L ls a b d e => lv_icmp_le B.1 B.2.1 hd ht (fun h => kt h H L ls a b d e) (fun h => kf h H L ls a b d e)
theorem jv_top {v w : Value} (h : v = w) (k : J G X nL ad cn sn ws lv pc (w :: st)) : J G X nL ad cn sn ws lv pc (v :: st) := h ▸ k
theorem jv_topi {x y : Int32} (h : x = y) (k : J G X nL ad cn sn ws lv pc (.int y :: st)) : J G X nL ad cn sn ws lv pc (.int x :: st) := h ▸ k
theorem jv_topl {x y : Int64} (h : x = y) (k : J G X nL ad cn sn ws lv pc (.long y :: st)) : J G X nL ad cn sn ws lv pc (.long x :: st) := h ▸ k
theorem jv_ws {ws' : List va_E} (h : ws = ws') (k : J G X nL ad cn sn ws' lv pc st) : J G X nL ad cn sn ws lv pc st := h ▸ k
theorem jv_lv (h : lvi lv lv') (k : J G X nL ad cn sn ws lv' pc st) : J G X nL ad cn sn ws lv pc st :=
  fun H L ls a b d e => k H L ls a b d (lvi_has e h)
/-- a class whose objects the worlds hold -/
def jC (ci : Nat) (C : String) (T : u_T) (N : Nat) (ty : Nat → FieldType) : Prop :=
  (∀ w ∈ u_ws C T N, w ∈ lw_gt) ∧ vwCl[ci]? = some (C, T, N) ∧ (∀ k, k < N → parseFieldDescriptor (T k).2.2.1 = some (ty k)) ∧ (∀ a, a < N → ∀ b, b < N → a ≠ b → (T a).2.1 ≠ (T b).2.1)
theorem jv_get (B : jB G X cc nL own rm) {ci : Nat} {C : String} {T : u_T} {N : Nat} {ty : Nat → FieldType} (hC : jC ci C T N ty) (k : Nat) (hk : k < N) {index : Nat} (hl : Cond.fieldLink own index (T k).1 (T k).2.1 (T k).2.2.1 ∈ lw_gt) {i : Nat} {fs : List Value} (he : ws[i]? = some (.inr (ci, fs))) {v : Value} (hv : fs[k]? = some v) (hd : decode cc pc = .ok (.getfield index, 3))
    (kk : J G X nL ad cn sn ws lv (pc + 3) (v :: st)) : J G X nL ad cn sn ws lv pc (.ref (ad i) :: st) :=
  fun H L ls a b d e => va_get B.1 B.2.1 B.2.2.2.2.1 hC.1 B.2.2.2.1 B.2.2.2.2.2.1 a i (wl_at he) hC.2.1 k hk (B.2.2.2.2.1 _ hl) (fun _ h => h) hv hd (kk H L ls a b d e)
theorem jv_put (B : jB G X cc nL own rm) {ci : Nat} {C : String} {T : u_T} {N : Nat} {ty : Nat → FieldType} (hC : jC ci C T N ty) (k : Nat) (hk : k < N) {index : Nat} (hl : Cond.fieldLink own index (T k).1 (T k).2.1 (T k).2.2.1 ∈ lw_gt) (hfin : (T k).2.2.2 = false) {i : Nat} {fs fs' : List Value} {ws' : List va_E} {v : Value} (hn : narrow (ty k) v = v) (hfit : fits (ty k) v = true) (he : ws[i]? = some (.inr (ci, fs))) (hlen : k < fs.length) (hs : fs.set k v = fs') (hw : ws.set i (.inr (ci, fs')) = ws') (hd : decode cc pc = .ok (.putfield index, 3))
    (kk : J G X nL ad cn sn ws' lv (pc + 3) st) : J G X nL ad cn sn ws lv pc (v :: .ref (ad i) :: st) :=
  fun H L ls a b d e => va_put B.1 B.2.1 B.2.2.2.2.1 hC.1 ty hC.2.2.1 hC.2.2.2 B.2.2.2.1 B.2.2.2.2.2.1 a b d i (wl_at he) hC.2.1 k hk (B.2.2.2.2.1 _ hl) (fun _ h => h) hfin (hC.2.2.1 k hk) hn hfit hlen hd (fun H1 L1 p1 d1 s1 => by
    subst hs
    rw [wl_set0 hw] at p1 d1
    exact kk H1 L1 ls p1 d1 s1 e)
theorem jv_putF (B : jB G X cc nL own rm) (hin : X.2.2.1.1.name = "<init>") {ci : Nat} {C : String} {T : u_T} {N : Nat} {ty : Nat → FieldType} (hC : jC ci C T N ty) (k : Nat) (hk : k < N) {index : Nat} (hl : Cond.fieldLink own index (T k).1 (T k).2.1 (T k).2.2.1 ∈ lw_gt) (hfin : (T k).2.2.2 = true) (hdecl : (T k).1 = own) {i : Nat} {fs fs' : List Value} {ws' : List va_E} {v : Value} (hn : narrow (ty k) v = v) (hfit : fits (ty k) v = true) (he : ws[i]? = some (.inr (ci, fs))) (hlen : k < fs.length) (hs : fs.set k v = fs') (hw : ws.set i (.inr (ci, fs')) = ws') (hd : decode cc pc = .ok (.putfield index, 3))
    (kk : J G X nL ad cn sn ws' lv (pc + 3) st) : J G X nL ad cn sn ws lv pc (v :: .ref (ad i) :: st) :=
  fun H L ls a b d e => va_putF B.1 B.2.1 B.2.2.2.2.1 hC.1 ty hC.2.2.1 hC.2.2.2 B.2.2.2.1 B.2.2.2.2.2.1 a b d i (wl_at he) hC.2.1 k hk (B.2.2.2.2.1 _ hl) (fun _ h => h) hfin hin hdecl (hC.2.2.1 k hk) hn hfit hlen hd (fun H1 L1 p1 d1 s1 => by
    subst hs
    rw [wl_set0 hw] at p1 d1
    exact kk H1 L1 ls p1 d1 s1 e)
theorem vpN {n : Nat} {x : Int32} {j : Nat} (hx : x = nI j) (hj : j < n) (hn : n < 2 ^ 31) : vp_in x n ∧ x.toNatClampNeg = j := by
  subst hx; exact ⟨vp_in_nI hj hn, nI_clamp (by omega)⟩
theorem jv_iald (B : jB G X cc nL own rm) {i n : Nat} {f : Nat → Int32} {x : Int32} (j : Nat) (ha : ws[i]? = some (aI G n f)) (hx : x = nI j) (hj : j < n) (hn : n < 2 ^ 31) (hd : decode cc pc = .ok (.iaload, 1)) (kk : J G X nL ad cn sn ws lv (pc + 1) (.int (f j) :: st)) : J G X nL ad cn sn ws lv pc (.int x :: .ref (ad i) :: st) :=
  fun H L ls a b d e => va_iald B.1 B.2.1 B.2.2.2.2.2.1 a i 0 (wl_at ha) rfl (vpN hx hj hn).1 hd (by rw [(vpN hx hj hn).2]; exact kk H L ls a b d e)
theorem jv_bald (B : jB G X cc nL own rm) {i n : Nat} {f : Nat → Int32} {x : Int32} (j : Nat) (ha : ws[i]? = some (aB G n f)) (hx : x = nI j) (hj : j < n) (hn : n < 2 ^ 31) (hd : decode cc pc = .ok (.baload, 1)) (kk : J G X nL ad cn sn ws lv (pc + 1) (.int (f j) :: st)) : J G X nL ad cn sn ws lv pc (.int x :: .ref (ad i) :: st) :=
  fun H L ls a b d e => va_bald B.1 B.2.1 B.2.2.2.2.2.1 a i 1 (wl_at ha) rfl (vpN hx hj hn).1 hd (by rw [(vpN hx hj hn).2]; exact kk H L ls a b d e)
theorem jv_lald (B : jB G X cc nL own rm) {i n : Nat} {f : Nat → Int64} {x : Int32} (j : Nat) (ha : ws[i]? = some (aL G n f)) (hx : x = nI j) (hj : j < n) (hn : n < 2 ^ 31) (hd : decode cc pc = .ok (.laload, 1)) (kk : J G X nL ad cn sn ws lv (pc + 1) (.long (f j) :: st)) : J G X nL ad cn sn ws lv pc (.int x :: .ref (ad i) :: st) :=
  fun H L ls a b d e => va_lald B.1 B.2.1 B.2.2.2.2.2.1 a i 2 (wl_at ha) rfl (vpN hx hj hn).1 hd (by rw [(vpN hx hj hn).2]; exact kk H L ls a b d e)
theorem jv_iast (B : jB G X cc nL own rm) {i n : Nat} {f : Nat → Int32} {x y : Int32} {ws' : List va_E} (j : Nat) (ha : ws[i]? = some (aI G n f)) (hx : x = nI j) (hj : j < n) (hn : n < 2 ^ 31) (hw : ws.set i (aI G n (upd f j y)) = ws') (hd : decode cc pc = .ok (.iastore, 1)) (kk : J G X nL ad cn sn ws' lv (pc + 1) st) : J G X nL ad cn sn ws lv pc (.int y :: .int x :: .ref (ad i) :: st) :=
  fun H L ls a b d e => va_iast B.1 B.2.1 B.2.2.2.2.2.1 a b d i 0 (wl_at ha) rfl (vpN hx hj hn).1 hd (fun H1 L1 p1 d1 s1 => by
    rw [(vpN hx hj hn).2] at p1 d1
    rw [wl_set0 hw] at p1 d1
    exact kk H1 L1 ls p1 d1 s1 e)
theorem jv_bast (B : jB G X cc nL own rm) {i n : Nat} {f : Nat → Int32} {x y : Int32} {ws' : List va_E} (j : Nat) (ha : ws[i]? = some (aB G n f)) (hx : x = nI j) (hj : j < n) (hn : n < 2 ^ 31) (hw : ws.set i (aB G n (upd f j y.toInt8.toInt32)) = ws') (hd : decode cc pc = .ok (.bastore, 1)) (kk : J G X nL ad cn sn ws' lv (pc + 1) st) : J G X nL ad cn sn ws lv pc (.int y :: .int x :: .ref (ad i) :: st) :=
  fun H L ls a b d e => va_bast B.1 B.2.1 B.2.2.2.2.2.1 a b d i 1 (wl_at ha) rfl (vpN hx hj hn).1 hd (fun H1 L1 p1 d1 s1 => by
    rw [(vpN hx hj hn).2, vp_nar_byte] at p1 d1
    rw [wl_set0 hw] at p1 d1
    exact kk H1 L1 ls p1 d1 s1 e)
theorem jv_last (B : jB G X cc nL own rm) {i n : Nat} {f : Nat → Int64} {x : Int32} {y : Int64} {ws' : List va_E} (j : Nat) (ha : ws[i]? = some (aL G n f)) (hx : x = nI j) (hj : j < n) (hn : n < 2 ^ 31) (hw : ws.set i (aL G n (vp_updL f j y)) = ws') (hd : decode cc pc = .ok (.lastore, 1)) (kk : J G X nL ad cn sn ws' lv (pc + 1) st) : J G X nL ad cn sn ws lv pc (.long y :: .int x :: .ref (ad i) :: st) :=
  fun H L ls a b d e => va_last B.1 B.2.1 B.2.2.2.2.2.1 a b d i 2 (wl_at ha) rfl (vpN hx hj hn).1 hd (fun H1 L1 p1 d1 s1 => by
    rw [(vpN hx hj hn).2] at p1 d1
    rw [wl_set0 hw] at p1 d1
    exact kk H1 L1 ls p1 d1 s1 e)
theorem jv_alenI (B : jB G X cc nL own rm) {i n : Nat} {f : Nat → Int32} (ha : ws[i]? = some (aI G n f)) (hd : decode cc pc = .ok (.arraylength, 1)) (kk : J G X nL ad cn sn ws lv (pc + 1) (.int (nI n) :: st)) : J G X nL ad cn sn ws lv pc (.ref (ad i) :: st) :=
  fun H L ls a b d e => va_alen B.1 B.2.1 B.2.2.2.2.2.1 a i 0 (wl_at ha) rfl rfl hd (kk H L ls a b d e)
theorem jv_alenB (B : jB G X cc nL own rm) {i n : Nat} {f : Nat → Int32} (ha : ws[i]? = some (aB G n f)) (hd : decode cc pc = .ok (.arraylength, 1)) (kk : J G X nL ad cn sn ws lv (pc + 1) (.int (nI n) :: st)) : J G X nL ad cn sn ws lv pc (.ref (ad i) :: st) :=
  fun H L ls a b d e => va_alen B.1 B.2.1 B.2.2.2.2.2.1 a i 1 (wl_at ha) rfl rfl hd (kk H L ls a b d e)
theorem jv_alenL (B : jB G X cc nL own rm) {i n : Nat} {f : Nat → Int64} (ha : ws[i]? = some (aL G n f)) (hd : decode cc pc = .ok (.arraylength, 1)) (kk : J G X nL ad cn sn ws lv (pc + 1) (.int (nI n) :: st)) : J G X nL ad cn sn ws lv pc (.ref (ad i) :: st) :=
  fun H L ls a b d e => va_alen B.1 B.2.1 B.2.2.2.2.2.1 a i 2 (wl_at ha) rfl rfl hd (kk H L ls a b d e)
theorem jv_zald (B : jB G X cc nL own rm) {i n : Nat} {f : Nat → Int32} {x : Int32} (j : Nat) (ha : ws[i]? = some (aZ G n f)) (hx : x = nI j) (hj : j < n) (hn : n < 2 ^ 31) (hd : decode cc pc = .ok (.baload, 1)) (kk : J G X nL ad cn sn ws lv (pc + 1) (.int (f j) :: st)) : J G X nL ad cn sn ws lv pc (.int x :: .ref (ad i) :: st) :=
  fun H L ls a b d e => va_zald B.1 B.2.1 B.2.2.2.2.2.1 a i 3 (wl_at ha) rfl (vpN hx hj hn).1 hd (by rw [(vpN hx hj hn).2]; exact kk H L ls a b d e)
theorem jv_zast (B : jB G X cc nL own rm) {i n : Nat} {f : Nat → Int32} {x y : Int32} {ws' : List va_E} (j : Nat) (ha : ws[i]? = some (aZ G n f)) (hx : x = nI j) (hj : j < n) (hn : n < 2 ^ 31) (hw : ws.set i (aZ G n (upd f j (vp_nar .boolean y))) = ws') (hd : decode cc pc = .ok (.bastore, 1)) (kk : J G X nL ad cn sn ws' lv (pc + 1) st) : J G X nL ad cn sn ws lv pc (.int y :: .int x :: .ref (ad i) :: st) :=
  fun H L ls a b d e => va_zast B.1 B.2.1 B.2.2.2.2.2.1 a b d i 3 (wl_at ha) rfl (vpN hx hj hn).1 hd (fun H1 L1 p1 d1 s1 => by
    rw [(vpN hx hj hn).2] at p1 d1
    rw [wl_set0 hw] at p1 d1
    exact kk H1 L1 ls p1 d1 s1 e)
theorem jv_tswIn (B : jB G X cc nL own rm) {dflt lo hi : Int} {offs : Array Int} {len : Nat} {x : Int32} {off : Int} {tgt : Nat} (k : Int) (hd : decode cc pc = .ok (.tableswitch dflt lo hi offs, len)) (hx : x.toInt = k) (h1 : ¬ k < lo) (h2 : ¬ hi < k) (ho : offs[(k - lo).toNat]? = some off) (ht : (pc : Int) + off = (tgt : Int)) (kk : J G X nL ad cn sn ws lv tgt st) : J G X nL ad cn sn ws lv pc (.int x :: st) :=
  fun H L ls a b d e => lv_tableIn B.1 B.2.1 hd (by rw [hx]; exact h1) (by rw [hx]; exact h2) (by rw [hx]; exact ho) ht (kk H L ls a b d e)
theorem jv_tswOut (B : jB G X cc nL own rm) {dflt lo hi : Int} {offs : Array Int} {len : Nat} {x : Int32} {tgt : Nat} (hd : decode cc pc = .ok (.tableswitch dflt lo hi offs, len)) (h : x.toInt < lo ∨ hi < x.toInt) (ht : (pc : Int) + dflt = (tgt : Int)) (kk : J G X nL ad cn sn ws lv tgt st) : J G X nL ad cn sn ws lv pc (.int x :: st) :=
  fun H L ls a b d e => lv_tableOut B.1 B.2.1 hd h ht (kk H L ls a b d e)
theorem jv_lsw (B : jB G X cc nL own rm) {dflt : Int} {ps : Array (Int × Int)} {len : Nat} {x : Int32} {off : Int} {tgt : Nat} (hd : decode cc pc = .ok (.lookupswitch dflt ps, len)) (hp : (ps.toList.zip (ps.toList.drop 1)).all (fun (a, next) => a.1 < next.1) = true) (ho : Op.lookupswitch.offset ps.toList dflt x.toInt = off) (ht : (pc : Int) + off = (tgt : Int)) (kk : J G X nL ad cn sn ws lv tgt st) : J G X nL ad cn sn ws lv pc (.int x :: st) :=
  fun H L ls a b d e => lv_lookup B.1 B.2.1 hd hp ho ht (kk H L ls a b d e)
theorem jv_objInit (B : jB G X cc nL own rm) {idx : Nat} (hl : Cond.methodLink own idx objectInit ∈ lw_gt) (hi : Cond.instanceMethod objectInit ∈ lw_gt) (hc : Cond.code objectInit ⟨#[0xb1]⟩ 1 none ∈ lw_gt) {x : Nat} (hr : 1 ≤ rm.frames ∧ 2 * 0 + (st.map fun v => v.category).sum + 12 ≤ rm.locals) (hd : decode cc pc = .ok (.invokespecial idx, 3)) (kk : J G X nL ad cn sn ws lv (pc + 3) st) : J G X nL ad cn sn ws lv pc (.ref x :: st) :=
  fun H L ls a b d e => W.objInit B.1 B.2.1 B.2.2.2.1 (B.2.2.2.2.1 _ hl) (B.2.2.2.2.1 _ hi) (B.2.2.2.2.1 _ hc) rfl (by rw [B.2.2.1]; exact e.1) rfl hd (by rw [B.2.2.2.2.2.2.2.1]; exact hr.1) (by rw [B.2.2.2.2.2.2.2.1]; exact hr.2) (kk H L ls a b d e)
theorem jv_mminl (B : jB G X cc nL own rm) {idx : Nat} (hl : Cond.methodLink own idx Lib.MathLoose.min_long.x ∈ lw_gt) (hs : Cond.static Lib.MathLoose.min_long.x ∈ lw_gt) (hi : Cond.initialized "java/lang/Math" ∈ lw_gt) (hc : Cond.code Lib.MathLoose.min_long.x Lib.MathLoose.min_long.code 4 (some .long) ∈ lw_gt) {x y : Int64} (hr : 1 ≤ rm.frames ∧ (st.map fun v => v.category).sum + 15 ≤ rm.locals) (hcs : cn ≤ rm.cells ∧ sn ≤ rm.slots) (hd : decode cc pc = .ok (.invokestatic idx, 3)) (kk : J G X nL ad cn sn ws lv (pc + 3) (.long (if y < x then y else x) :: st)) : J G X nL ad cn sn ws lv pc (.long y :: .long x :: st) :=
  fun H L ls a b d e => va_mmin_long B.1 B.2.1 (by rw [B.2.2.1]; exact e.1.symm) B.2.2.2.1 (B.2.2.2.2.1 _ hl) (B.2.2.2.2.1 _ hs) (B.2.2.2.2.1 _ hi) (B.2.2.2.2.1 _ hc) (by rw [B.2.2.2.2.2.2.2.1]; exact hr.1) (by rw [B.2.2.2.2.2.2.2.1]; exact hr.2) (by rw [B.2.2.2.2.2.2.2.1]; exact hcs.1) (by rw [B.2.2.2.2.2.2.2.1]; exact hcs.2) hd (kk H L ls a b d e)
theorem jw_std {p : Program} {l : Launch} {e : Env} {R : Room} {s : State} {m : MethodId} {args : Array Value} {below : List Frame} {meth : Method} {c : Code} {H : Heap} {locs : List Loc} {cells slots : Nat} {Q : State → Prop} {g : JFrame} (h : ∀ T : State, T.heap = H → Stand p l e R s m args below meth c T locs cells slots → W p l e R s m args below meth c H locs cells slots Q g) : W p l e R s m args below meth c H locs cells slots Q g := fun T hT St => h T hT St T hT St
/-- the heap is as large as what was made says -/
theorem jv_size {n0 kn : Nat} {H : Heap} {locs : List Loc} {T : State} (hAd : ∀ j, j < kn → ad (n0 + j) = X.2.1.1.heap.size + j) (hlen : ws.length = n0 + cn) (hlt : cn ≤ kn) (a : va_P G.1 vwCl (wl ad 0 ws) H) (d : va_S X.2.2.2.2 X.2.1.1.heap H locs) (hT : T.heap = H) (St : Stand X.1.1 X.1.2.1 X.1.2.2.1 X.1.2.2.2 X.2.1.1 X.2.1.2.1 X.2.1.2.2.1 X.2.1.2.2.2 X.2.2.1.1 X.2.2.1.2 T locs cn sn) : H.size = X.2.1.1.heap.size + cn := by
  have h1 : H.size ≤ X.2.1.1.heap.size + cn := by rw [← hT]; exact St.heapSize
  have h2 : X.2.1.1.heap.size ≤ H.size := d.1
  cases cn with
  | zero => omega
  | succ c =>
    have hk : n0 + c < ws.length := by omega
    have h3 := (a (n0 + c) (ad (n0 + c), ws[n0 + c]) (wl_at (List.getElem?_eq_getElem hk))).lt
    have h4 := hAd c (by omega)
    have h5 : ad (n0 + c) < H.size := h3
    omega
theorem jv_new (B : jB G X cc nL own rm) {n0 kn : Nat} (hAd : ∀ j, j < kn → ad (n0 + j) = X.2.1.1.heap.size + j) (hlen : ws.length = n0 + cn) (hlt : cn < kn) {ci : Nat} {C : String} {T : u_T} {N : Nat} {ty : Nat → FieldType} (hC : jC ci C T N ty) {index : Nat} (hcl : Cond.classLink own index C ∈ lw_gt) (hins : Cond.instantiable C N ∈ lw_gt) (hini : Cond.initialized C ∈ lw_gt) {fs : List Value} {ws' : List va_E} (hfs : ∀ j, j < N → defaultValue (ty j) = vp_V fs j) (hr : cn + 1 ≤ rm.cells ∧ sn + N ≤ rm.slots) (hw : ws ++ [.inr (ci, fs)] = ws') (hd : decode cc pc = .ok (.new index, 3))
    (kk : J G X nL ad (cn + 1) (sn + N) ws' lv (pc + 3) (.ref (ad ws.length) :: st)) : J G X nL ad cn sn ws lv pc st := by
  intro H L ls a b d e
  refine jw_std (fun T0 hT St => ?_)
  have hz := jv_size hAd hlen (Nat.le_of_lt hlt) a d hT St
  have had : ad ws.length = H.size := by rw [hlen, hAd cn hlt, hz]
  refine W.newcK B.1 B.2.1 B.2.2.2.1 (B.2.2.2.2.1 _ hcl) (B.2.2.2.2.1 _ hins) (B.2.2.2.2.1 _ hini) rfl hd (by rw [B.2.2.2.2.2.2.2.1]; exact hr.1) (by rw [B.2.2.2.2.2.2.2.1]; exact hr.2) (B.2.2.2.2.2.1.1 ci _ hC.2.1).2.1 rfl (fun H1 kC hkC e1 z1 o1 => ?_)
  have hk : ∀ (k : Nat) (x : Nat × va_E), (wl ad 0 ws)[k]? = some x → H1[x.1]? = H[x.1]? := fun k x hx => o1 x.1 ((a k x hx).lt)
  have hP : va_P G.1 vwCl (wl ad 0 ws ++ [(ad ws.length, .inr (ci, fs))]) H1 := (va_P.kept a hk).app (fun k x hx => by
    have hz : k < 1 := (List.getElem?_eq_some_iff.mp hx).1
    rw [show k = 0 by omega] at hx
    cases hx
    exact ⟨_, hC.2.1, by rw [had]; exact (u_born ty B.2.2.2.2.1 hC.1 (B.2.2.2.2.2.1.1 ci _ hC.2.1) hkC e1 hC.2.2.1).to hfs⟩)
  have hDD : va_D X.2.2.2.2 (wl ad 0 ws ++ [(ad ws.length, .inr (ci, fs))]) := b.push a had (by rw [had]; exact B.2.2.2.2.2.2.1 _ d.1)
  have hq : wl ad 0 ws ++ [(ad ws.length, .inr (ci, fs))] = wl ad 0 ws' := by rw [← hw, wl_app]; simp
  rw [hq] at hP hDD
  have := kk H1 L ls hP hDD ⟨Nat.le_trans d.1 (by omega), fun x h1 h2 => (o1 x (Nat.lt_of_lt_of_le h1 d.1)).trans (d.2.1 x h1 h2), d.2.2⟩ e
  rw [had] at this
  exact this
theorem jv_newa (B : jB G X cc nL own rm) {n0 kn : Nat} (hAd : ∀ j, j < kn → ad (n0 + j) = X.2.1.1.heap.size + j) (hlen : ws.length = n0 + cn) (hlt : cn < kn) {atype : ArrayType} {ty : FieldType} (hty : newarray.typeOf atype = ty) (harr : Cond.arrayClass ty ∈ lw_gt) {n : Int32} {N : Nat} {a0 : vp_A} (t0 : Nat) {cA : ClassId} (ht : (jT G)[t0]? = some (cA, ty)) (hnm : ∀ cB, va_RA X.2.1.1 cB ty → X.2.1.1.vm.findClass ("[" ++ ty.toString) = some cB) (ha : ∀ cA : ClassId, vp_cell cA a0 = arrV cA N (fun _ => defaultValue ty)) (hn : n = nI N) (hb : N < 2 ^ 31 ∧ N * componentBytes ty ≤ 536870912) {ws' : List va_E} (hr : cn + 1 ≤ rm.cells ∧ sn + N ≤ rm.slots) (hw : ws ++ [.inl (cA, a0)] = ws') (hd : decode cc pc = .ok (.newarray atype, 2))
    (kk : J G X nL ad (cn + 1) (sn + N) ws' lv (pc + 2) (.ref (ad ws.length) :: st)) : J G X nL ad cn sn ws lv pc (.int n :: st) := by
  subst hty
  intro H L ls a b d e
  refine jw_std (fun T0 hT St => ?_)
  have hz := jv_size hAd hlen (Nat.le_of_lt hlt) a d hT St
  have had : ad ws.length = H.size := by rw [hlen, hAd cn hlt, hz]
  refine va_newaK B.1 B.2.1 (B.2.2.2.2.1 _ harr) rfl hd rfl (by rw [hn]; exact nI_pos hb.1) (by rw [hn]; exact nI_clamp hb.1) hb.2 (by rw [B.2.2.2.2.2.2.2.1]; exact hr.1) (by rw [B.2.2.2.2.2.2.2.1]; exact hr.2) rfl (fun H1 cA1 e1 z1 o1 hAr hNm => ?_)
  have hcA : cA1 = cA := by
    have h1 := hnm cA (B.2.2.2.2.2.1.2 t0 _ ht).2
    rw [hNm] at h1
    exact Option.some.inj h1
  subst hcA
  have hk : ∀ (k : Nat) (x : Nat × va_E), (wl ad 0 ws)[k]? = some x → H1[x.1]? = H[x.1]? := fun k x hx => o1 x.1 ((a k x hx).lt)
  have hP : va_P G.1 vwCl (wl ad 0 ws ++ [(ad ws.length, .inl (cA1, a0))]) H1 := (va_P.kept a hk).app (fun k x hx => by
    have hz : k < 1 := (List.getElem?_eq_some_iff.mp hx).1
    rw [show k = 0 by omega] at hx
    cases hx
    show H1[ad ws.length]? = some (vp_cell _ _)
    rw [ha, had]
    exact e1)
  have hDD : va_D X.2.2.2.2 (wl ad 0 ws ++ [(ad ws.length, .inl (cA1, a0))]) := b.push a had (by rw [had]; exact B.2.2.2.2.2.2.1 _ d.1)
  have hq : wl ad 0 ws ++ [(ad ws.length, .inl (cA1, a0))] = wl ad 0 ws' := by rw [← hw, wl_app]; simp
  rw [hq] at hP hDD
  have := kk H1 L ls hP hDD ⟨Nat.le_trans d.1 (by omega), fun x h1 h2 => (o1 x (Nat.lt_of_lt_of_le h1 d.1)).trans (d.2.1 x h1 h2), d.2.2⟩ e
  rw [had] at this
  exact this
end JR
/-! contracts -/
def ctP (G : jG) (ad : Nat → Nat) (ws : List va_E) (sz : Nat) : State → Prop := fun U => U.heap.size = sz ∧ va_P G.1 vwCl (wl ad 0 ws) U.heap ∧ va_K G.1 vwCl (jT G) U ∧ va_D (fun _ => True) (wl ad 0 ws) ∧ NWx U
def ctQ (G : jG) (A : Nat → Prop) (post : Option Value → va_W → Prop) : Array Value → State → Outcome → State → Prop := fun _ st oc t => (∃ (v : Option Value) (W1 : va_W), oc = .returned v ∧ post v W1 ∧ va_P G.1 vwCl W1 t.heap ∧ va_K G.1 vwCl (jT G) t ∧ va_D A W1) ∧ va_F A st t
def CT (l : Launch) (G : jG) (y : MethodName) (cc : ByteArray) (nL : Nat) (ret : Option FieldType) (rm : Room) (ad : Nat → Nat) (args : List Value) (ws : List va_E) (kn : Nat) (post : Option Value → va_W → Prop) : Prop :=
  ∀ sz, (∀ j, j < kn → ad (ws.length + j) = sz + j) → Met l y (.code y cc nL ret :: lw_gt) rm (va_Pc args (ctP G ad ws sz)) (ctQ G (va_A (wl ad 0 ws) sz) post) rm.cells rm.slots (va_A (wl ad 0 ws) sz)
/-- the one end -/
def pd (ad : Nat → Nat) (r : Option Value) (ws' : List va_E) : Option Value → va_W → Prop := fun v W => v = r ∧ W = wl ad 0 ws'
def jR (G : jG) (X : jX) (post : Option Value → va_W → Prop) (rm : Room) (ret : Option FieldType) : Prop :=
  X.2.2.2.1 = MQ X.2.1.2.2.2 (ctQ G X.2.2.2.2 post) X.2.1.2.2.1 X.2.1.1 rm.cells rm.slots X.2.2.2.2 ∧ X.2.2.1.1.sig.returnType = ret ∧ X.2.2.1.1.locks = false
def jY (y : MethodName) (cc : ByteArray) (nL : Nat) (ret : Option FieldType) (n : Nat) : Prop :=
  Cond.code y cc nL ret ∈ lw_gt ∧ Cond.initialized y.cls ∈ lw_gt ∧ (y.cls ≠ "java/lang/invoke/MethodHandle" ∧ y.cls ≠ "java/lang/invoke/VarHandle" ∧ (parseMethodDescriptor y.desc).map (fun d => d.parameters.length) = some n) ∧ plainName y.cls = true
theorem CT.of {l : Launch} {G : jG} {y : MethodName} {cc : ByteArray} {nL n : Nat} {ret : Option FieldType} {rm : Room} {ad : Nat → Nat} {args : List Value} {ws : List va_E} {kn : Nat} {post : Option Value → va_W → Prop} (hY : jY y cc nL ret n) (hlen : (lg_sl args).length ≤ nL)
    (body : ∀ X : jX, jB G X cc nL y.cls rm → jR G X post rm ret → X.2.2.1.1.name = y.name → (∀ j, j < kn → ad (ws.length + j) = X.2.1.1.heap.size + j) → J G X nL ad 0 0 ws (lv_args 0 args) 0 []) : CT l G y cc nL ret rm ad args ws kn post := by
  intro sz hsz
  refine Met.ofW (cc := cc) (maxL := nL) (ret := ret) hY.2.2.2 rfl ?_
  intro p e s m args' below meth c s₁ B hml hv
  obtain ⟨rfl, hz, hP, hK, hD, hNW⟩ := hv
  subst hz
  have h := body ((p, l, e, rm), (s, m, args.toArray, below), (meth, c), (MQ below (ctQ G (va_A (wl ad 0 ws) s.heap.size) post) args.toArray s rm.cells rm.slots (va_A (wl ad 0 ws) s.heap.size), va_A (wl ad 0 ws) s.heap.size))
    ⟨B.exec, B.bytes, hml, findClass_of_methodNamed B.named, fun w h => atoms_spec (ws := Cond.code y cc nL ret :: lw_gt) B.pre w (List.mem_cons_of_mem _ h), hK, fun q h => Or.inr h, rfl, hNW⟩ ⟨rfl, B.returns, B.notSynchronized⟩ (name_of_methodNamed B.named B.method).1 hsz
  rw [lg_entry_eq]
  exact h s.heap [] _ hP hD.self va_S.rf (lv_entry args hlen)
def setA : List va_E → Nat → va_E → List va_E
  | [], 0, e => [e]
  | [], _ + 1, _ => []
  | _ :: r, 0, e => e :: r
  | x :: r, i + 1, e => x :: setA r i e
theorem setA_get : ∀ (ws : List va_E) (i k : Nat) (e x : va_E), (setA ws i e)[k]? = some x → (k = i ∧ x = e) ∨ (k ≠ i ∧ ws[k]? = some x)
  | [], 0, k, e, x, h => by
    cases k with
    | zero => simp [setA] at h; exact Or.inl ⟨rfl, h.symm⟩
    | succ k => simp [setA] at h
  | [], i + 1, k, e, x, h => by simp [setA] at h
  | y :: r, 0, k, e, x, h => by
    cases k with
    | zero => simp [setA] at h; exact Or.inl ⟨rfl, h.symm⟩
    | succ k => exact Or.inr ⟨by omega, by simpa [setA] using h⟩
  | y :: r, i + 1, k, e, x, h => by
    cases k with
    | zero => exact Or.inr ⟨by omega, by simpa [setA] using h⟩
    | succ k =>
      simp only [setA, List.getElem?_cons_succ] at h
      rcases setA_get r i k e x h with ⟨h1, h2⟩ | ⟨h1, h2⟩
      · exact Or.inl ⟨by omega, h2⟩
      · exact Or.inr ⟨by omega, by simpa using h2⟩
/-- the cells of es are put at the places is -/
def putL : List Nat → List va_E → List va_E → List va_E
  | i :: is, e :: es, ws => putL is es (setA ws i e)
  | _, _, ws => ws
theorem putL_get : ∀ (is : List Nat) (es ws : List va_E) (k : Nat) (x : va_E), es.length = is.length → (putL is es ws)[k]? = some x → (∃ j : Nat, is[j]? = some k ∧ es[j]? = some x) ∨ ((∀ j : Nat, is[j]? ≠ some k) ∧ ws[k]? = some x)
  | [], [], ws, k, x, _, h => Or.inr ⟨fun j => by simp, h⟩
  | i :: is, e :: es, ws, k, x, hl, h => by
    rcases putL_get is es (setA ws i e) k x (by simpa using hl) h with ⟨j, h1, h2⟩ | ⟨h1, h2⟩
    · exact Or.inl ⟨j + 1, by simpa using h1, by simpa using h2⟩
    · rcases setA_get ws i k e x h2 with ⟨h3, h4⟩ | ⟨h3, h4⟩
      · exact Or.inl ⟨0, by simp [h3], by simp [h4]⟩
      · refine Or.inr ⟨fun j => ?_, h4⟩
        cases j with
        | zero => simp; exact fun q => h3 q.symm
        | succ j => simpa using h1 j
  | [], _ :: _, _, _, _, hl, _ => by simp at hl
  | _ :: _, [], _, _, _, hl, _ => by simp at hl
