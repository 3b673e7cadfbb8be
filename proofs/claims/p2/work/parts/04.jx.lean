/-! what the decompiled functions and their proofs use -/
def FU : Nat := 1000000
abbrev ix (x : Int32) (n : Nat) : Prop := 0 ≤ x.toInt ∧ x.toInt < n
theorem dc_t {α : Type} {p : Prop} [Decidable p] {x y : Option α} {r : α} (c : p) (h : (if p then x else y) = some r) : x = some r := by rwa [if_pos c] at h
theorem dc_f {α : Type} {p : Prop} [Decidable p] {x y : Option α} {r : α} (c : ¬ p) (h : (if p then x else y) = some r) : y = some r := by rwa [if_neg c] at h
theorem nz {x : Int32} (g : x = 0 ∨ x = 1) : narrow .boolean (.int x) = .int x ∧ fits .boolean (.int x) = true := by
  rcases g with rfl | rfl <;> exact ⟨by decide +kernel, by decide +kernel⟩
section JX
variable {G : jG} {X : jX} {nL cn sn : Nat} {ad : Nat → Nat} {ws ws' : List va_E} {lv : List (Nat × Value)} {pc : Nat} {st : List Value} {cc : ByteArray} {own : String} {rm : Room}
theorem jx_iald (B : jB G X cc nL own rm) {i n : Nat} {f : Nat → Int32} {x : Int32} (ha : ws[i]? = some (aI G n f)) (g : ix x n) (hd : decode cc pc = .ok (.iaload, 1)) (kk : J G X nL ad cn sn ws lv (pc + 1) (.int (f x.toNatClampNeg) :: st)) : J G X nL ad cn sn ws lv pc (.int x :: .ref (ad i) :: st) :=
  fun H L ls a b d e => va_iald B.1 B.2.1 B.2.2.2.2.2.1 a i 0 (wl_at ha) rfl (vp_in_iff.mpr g) hd (kk H L ls a b d e)
theorem jx_bald (B : jB G X cc nL own rm) {i n : Nat} {f : Nat → Int32} {x : Int32} (ha : ws[i]? = some (aB G n f)) (g : ix x n) (hd : decode cc pc = .ok (.baload, 1)) (kk : J G X nL ad cn sn ws lv (pc + 1) (.int (f x.toNatClampNeg) :: st)) : J G X nL ad cn sn ws lv pc (.int x :: .ref (ad i) :: st) :=
  fun H L ls a b d e => va_bald B.1 B.2.1 B.2.2.2.2.2.1 a i 1 (wl_at ha) rfl (vp_in_iff.mpr g) hd (kk H L ls a b d e)
theorem jx_zald (B : jB G X cc nL own rm) {i n : Nat} {f : Nat → Int32} {x : Int32} (ha : ws[i]? = some (aZ G n f)) (g : ix x n) (hd : decode cc pc = .ok (.baload, 1)) (kk : J G X nL ad cn sn ws lv (pc + 1) (.int (f x.toNatClampNeg) :: st)) : J G X nL ad cn sn ws lv pc (.int x :: .ref (ad i) :: st) :=
  fun H L ls a b d e => va_zald B.1 B.2.1 B.2.2.2.2.2.1 a i 3 (wl_at ha) rfl (vp_in_iff.mpr g) hd (kk H L ls a b d e)
theorem jx_lald (B : jB G X cc nL own rm) {i n : Nat} {f : Nat → Int64} {x : Int32} (ha : ws[i]? = some (aL G n f)) (g : ix x n) (hd : decode cc pc = .ok (.laload, 1)) (kk : J G X nL ad cn sn ws lv (pc + 1) (.long (f x.toNatClampNeg) :: st)) : J G X nL ad cn sn ws lv pc (.int x :: .ref (ad i) :: st) :=
  fun H L ls a b d e => va_lald B.1 B.2.1 B.2.2.2.2.2.1 a i 2 (wl_at ha) rfl (vp_in_iff.mpr g) hd (kk H L ls a b d e)
theorem jx_iast (B : jB G X cc nL own rm) {i n : Nat} {f : Nat → Int32} {x y : Int32} (ha : ws[i]? = some (aI G n f)) (g : ix x n) (hw : ws.set i (aI G n (upd f x.toNatClampNeg y)) = ws') (hd : decode cc pc = .ok (.iastore, 1)) (kk : J G X nL ad cn sn ws' lv (pc + 1) st) : J G X nL ad cn sn ws lv pc (.int y :: .int x :: .ref (ad i) :: st) :=
  fun H L ls a b d e => va_iast B.1 B.2.1 B.2.2.2.2.2.1 a b d i 0 (wl_at ha) rfl (vp_in_iff.mpr g) hd (fun H1 L1 p1 d1 s1 => by
    rw [wl_set0 hw] at p1 d1
    exact kk H1 L1 ls p1 d1 s1 e)
theorem jx_bast (B : jB G X cc nL own rm) {i n : Nat} {f : Nat → Int32} {x y : Int32} (ha : ws[i]? = some (aB G n f)) (g : ix x n) (hw : ws.set i (aB G n (upd f x.toNatClampNeg y.toInt8.toInt32)) = ws') (hd : decode cc pc = .ok (.bastore, 1)) (kk : J G X nL ad cn sn ws' lv (pc + 1) st) : J G X nL ad cn sn ws lv pc (.int y :: .int x :: .ref (ad i) :: st) :=
  fun H L ls a b d e => va_bast B.1 B.2.1 B.2.2.2.2.2.1 a b d i 1 (wl_at ha) rfl (vp_in_iff.mpr g) hd (fun H1 L1 p1 d1 s1 => by
    rw [vp_nar_byte] at p1 d1
    rw [wl_set0 hw] at p1 d1
    exact kk H1 L1 ls p1 d1 s1 e)
theorem jx_zast (B : jB G X cc nL own rm) {i n : Nat} {f : Nat → Int32} {x y : Int32} (ha : ws[i]? = some (aZ G n f)) (g : ix x n) (hw : ws.set i (aZ G n (upd f x.toNatClampNeg (vp_nar .boolean y))) = ws') (hd : decode cc pc = .ok (.bastore, 1)) (kk : J G X nL ad cn sn ws' lv (pc + 1) st) : J G X nL ad cn sn ws lv pc (.int y :: .int x :: .ref (ad i) :: st) :=
  fun H L ls a b d e => va_zast B.1 B.2.1 B.2.2.2.2.2.1 a b d i 3 (wl_at ha) rfl (vp_in_iff.mpr g) hd (fun H1 L1 p1 d1 s1 => by
    rw [wl_set0 hw] at p1 d1
    exact kk H1 L1 ls p1 d1 s1 e)
theorem jx_last (B : jB G X cc nL own rm) {i n : Nat} {f : Nat → Int64} {x : Int32} {y : Int64} (ha : ws[i]? = some (aL G n f)) (g : ix x n) (hw : ws.set i (aL G n (vp_updL f x.toNatClampNeg y)) = ws') (hd : decode cc pc = .ok (.lastore, 1)) (kk : J G X nL ad cn sn ws' lv (pc + 1) st) : J G X nL ad cn sn ws lv pc (.long y :: .int x :: .ref (ad i) :: st) :=
  fun H L ls a b d e => va_last B.1 B.2.1 B.2.2.2.2.2.1 a b d i 2 (wl_at ha) rfl (vp_in_iff.mpr g) hd (fun H1 L1 p1 d1 s1 => by
    rw [wl_set0 hw] at p1 d1
    exact kk H1 L1 ls p1 d1 s1 e)
end JX
