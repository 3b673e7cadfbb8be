/-! THE CLAIM OUT OF ONE WALK OF THE LAW'S BODY. Your part is whole_start (and what it stands on); all else here is the same for every law, but numbers. -/
def R_law : String := "GrinCoderLaw"
def lw_P (b : Addr) (xs : List Int32) (args : Array Value) (s : State) : Prop := args = #[.ref b] ∧ s.IntsAt b xs ∧ xs.length ≤ 2048 ∧ (Jvm.Cond.and given_1 narrow_1).before args s = true
def lw_Q (_ : Array Value) (s : State) (o : Outcome) (t : State) : Prop := o = .returned (some (.int 1)) ∧ Framed s o t [] 600000 7302250
def lw_Z (below : List Frame) (a : Array Value) (s : State) : State → Prop := fun t => ∃ o, t.status = .running ∧ Ended t below o ∧ lw_Q a s o t
/-- the law's own end, with 1 on the stack, nothing written that was there before, its room as the claim has it -/
theorem lw_ret {p : Program} {l : Launch} {e : Env} {s : State} {m : MethodId} {below : List Frame} {meth : Method} {c : Code} {b : Nat} (hx : p.tables.exec = Jvm.exec) (hb : c.code = code) (hr : meth.sig.returnType = ret) (hlocks : meth.locks = false) {pc : Nat} {H : Heap} {ls : Array Slot} (hdg : decode code pc = .ok (.ireturn, 1)) : W p l e room_1 s m #[Value.ref b] below meth c H [] 600000 7302250 (lw_Z below #[Value.ref b] s) (F0 m pc ls [.int 1]) := by
  intro T hT X
  obtain ⟨fs, hret, hrun, hended, hW, hframe⟩ := X.leave (v := some (.int 1)) (hlocks := hlocks) (fun h => by rw [hr] at h; cases h)
  have hmeth' : T.vm.method? m = some meth := X.method'
  refine ⟨T.setFrames fs, ?_, .returned (some (.int 1)), hrun, hended, rfl, ⟨_, rfl⟩, hW, hframe⟩
  jvm_step X.here [X.here.top, hx, hb, hdg, hmeth', hr, ret, narrow_b1]
  (try refine ⟨rfl, ?_⟩); (try refine ⟨rfl, ?_⟩)
  first | (intro acts; rw [hret _ acts rfl rfl rfl]) | rw [hret _ _ rfl rfl rfl]
  exact Steps.refl _
/-- what holds at the law's entry: the machine, the code, the tables' words (any of lw_tbl by 'hts w (by decide +kernel)'), the script of L ints xs at the cell b, what the Statement gives of the start (any of its parts by flat_of_before) -/
def lw_At (p : Program) (s : State) (m : MethodId) (meth : Method) (c : Code) (b L : Nat) (xs : Nat → Int32) : Prop :=
  p.tables.exec = Jvm.exec ∧ c.code = code ∧ meth.sig.returnType = ret ∧ c.maxLocals = 4 ∧ s.vm.findClass R_law = some m.cls ∧ (∀ w ∈ lw_tbl, w.before #[Value.ref b] s = true) ∧ va_X b L xs s s.heap ∧ b < s.heap.size ∧ meth.locks = false ∧ (Jvm.Cond.and given_1 narrow_1).before #[Value.ref b] s = true

/-! the law's own rows -/
def jS (X : jX) (b L : Nat) (xs : Nat → Int32) : Prop := va_X b L xs X.2.1.1 X.2.1.1.heap ∧ b < X.2.1.1.heap.size ∧ ¬ X.2.2.2.2 b
def jE (X : jX) (b : Nat) : Prop := X.2.1.2.2.1 = #[Value.ref b] ∧ X.2.2.2.1 = lw_Z X.2.1.2.2.2 #[Value.ref b] X.2.1.1 ∧ X.2.2.1.1.sig.returnType = ret ∧ X.2.2.1.1.locks = false ∧ ∀ q, X.2.2.2.2 q → X.2.1.1.heap.size ≤ q
section JL
variable {G : jG} {X : jX} {nL cn sn : Nat} {ad : Nat → Nat} {ws : List va_E} {lv : List (Nat × Value)} {pc : Nat} {st : List Value} {cc : ByteArray} {own : String} {rm : Room} {b L : Nat} {xs : Nat → Int32}
theorem jl_sld (B : jB G X cc nL own rm) (S : jS X b L xs) {x : Int32} (g : ix x L) (hd : decode cc pc = .ok (.iaload, 1)) (kk : J G X nL ad cn sn ws lv (pc + 1) (.int (xs x.toNatClampNeg) :: st)) : J G X nL ad cn sn ws lv pc (.int x :: .ref b :: st) :=
  fun H L ls a0 b0 d e => va_sld B.1 B.2.1 S.1 S.2.1 S.2.2 d (vp_in_iff.mpr g) hd (kk H L ls a0 b0 d e)
theorem jl_slen (B : jB G X cc nL own rm) (S : jS X b L xs) (hd : decode cc pc = .ok (.arraylength, 1)) (kk : J G X nL ad cn sn ws lv (pc + 1) (.int (nI L) :: st)) : J G X nL ad cn sn ws lv pc (.ref b :: st) :=
  fun H L ls a0 b0 d e => va_slen B.1 B.2.1 S.1 S.2.1 S.2.2 d hd (kk H L ls a0 b0 d e)
theorem jl_ret (B : jB G X code nL own room_1) (E : jE X b) (hc : cn ≤ 600000 ∧ sn ≤ 7302250) (hd : decode code pc = .ok (.ireturn, 1)) : J G X nL ad cn sn ws lv pc [.int 1] := by
  intro H L ls a0 b0 d e
  have hR := B.2.2.2.2.2.2.2.1
  rw [hR, E.1, E.2.1]
  refine va_forget (fun q hq => E.2.2.2.2 _ (d.2.2 q hq)) ?_
  refine W.widen (k := 600000) (n := 7302250) hc.1 hc.2 ?_
  exact lw_ret B.1 B.2.1 E.2.2.1 E.2.2.2.1 hd
end JL
theorem jl_arr {args : Array Value} {s : State} {ty : FieldType} (h : (Cond.arrayClass ty).before args s = true) (hp : ∀ C, ty ≠ .object C) : ∃ cA : ClassId, ArrOfT s cA ty ∧ va_RA s cA ty := by
  obtain ⟨cA, kA, comp, h1, h2, h3⟩ := Cond.arrayClass_spec h
  refine ⟨cA, fun n z => ⟨fun k h => (by cases h), kA, h2, comp, h3⟩, ?_⟩
  cases ty with
  | object C => exact absurd rfl (hp C)
  | _ => exact h1
