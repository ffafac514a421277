/-! ===== THE JUDGEMENT Z ===== -/
def zNest : Cond → Bool
  | .fieldLinkNest .. => true
  | .methodLinkNest .. => true
  | .arrayOver (.object _) => true
  | _ => false
def zgw : List Cond := lw_tbl.filter goodWord
def znw : List Cond := lw_tbl.filter zNest
theorem zg {w : Cond} (i : Nat) (h : lw_tbl[i]? = some w) (hg : goodWord w = true) : w ∈ zgw := List.mem_filter.mpr ⟨List.mem_of_getElem? h, hg⟩
theorem zn {w : Cond} (i : Nat) (h : lw_tbl[i]? = some w) (hg : zNest w = true) : w ∈ znw := List.mem_filter.mpr ⟨List.mem_of_getElem? h, hg⟩
theorem zGood {Y : Cond} {y : MethodName} {b : ByteArray} {n : Nat} {r : Option FieldType} (h : Cond.code y b n r ∈ zgw) : GoodIn zgw (Cond.code y b n r :: zgw) := by
  intro w hw
  have hm : w ∈ zgw := by
    rcases List.mem_cons.mp hw with rfl | h1
    · exact h
    · exact h1
  exact ⟨hm, good_of_word (List.mem_filter.mp hm).2⟩
/-- the classes of arrays: int, boolean, Worker, Row -/
abbrev zKs : Type := ClassId × ClassId × ClassId × ClassId
abbrev ztys (K : zKs) : List (ClassId × FieldType) := [(K.1, .int), (K.2.1, .boolean), (K.2.2.1, .object RX2), (K.2.2.2, .object RX0)]
def zK (D : va_G) (K : zKs) (U : State) : Prop := va_K D vwCl (ztys K) U ∧ ∀ w ∈ znw, va_Nw w U
theorem zK.moved {D : va_G} {K : zKs} {s U : State} (hW : s.WarmedH U.vm) (h : zK D K s) : zK D K U := by
  refine ⟨va_K.moved hW.alike h.1, fun w hw => ?_⟩
  have hz := (List.mem_filter.mp hw).2
  have h1 := h.2 w hw
  cases w with
  | fieldLinkNest a b c d e f => exact va_Nw.warmF hW h1
  | methodLinkNest a b c d => exact va_Nw.warmM hW h1
  | arrayOver t =>
    cases t with
    | object C => exact (va_AO.moved hW.alike (va_AO.of h1))
    | _ => simp [zNest] at hz
  | _ => simp [zNest] at hz
theorem zK.blind {D : va_G} {K : zKs} {U : State} {g : JFrame} {mk : MethodId} {a : Array Value} (h : zK D K U) : zK D K (U.calling g mk a) := by
  refine ⟨va_K.moved (u := U) (U := U.calling g mk a) (Vm.Alike.refl U.vm) h.1, fun w hw => ?_⟩
  have hz := (List.mem_filter.mp hw).2
  have h1 := h.2 w hw
  cases w with
  | fieldLinkNest a b c d e f => exact va_Nw.same (u := U) rfl rfl h1
  | methodLinkNest a b c d => exact va_Nw.same (u := U) rfl rfl h1
  | arrayOver t =>
    cases t with
    | object C => exact (va_AO.moved (u := U) (U := U.calling g mk a) (Vm.Alike.refl U.vm) (va_AO.of h1))
    | _ => simp [zNest] at hz
  | _ => simp [zNest] at hz
section ZZ
variable {p : Program} {l : Launch} {e : Env} {R : Room} {s : State} {m : MethodId} {args : Array Value} {below : List Frame} {meth : Method} {c : Code} {Q : State → Prop} {cells slots : Nat}
variable {own : String} {cc : ByteArray} {nL : Nat} {ret : Option FieldType} {D : va_G} {K : zKs} {A : Nat → Prop} {IL : List zI} {sh : zSh} {ad : zAd} {S : zSt} {pc : Nat} {lv : List (Option Value)} {st : List Value}
def zX (p : Program) (s : State) (m : MethodId) (args : Array Value) (meth : Method) (c : Code) (own : String) (cc : ByteArray) (nL : Nat) (ret : Option FieldType) (D : va_G) (K : zKs) (A : Nat → Prop) : Prop :=
  CallFix p m c cc nL s args zgw own ∧ zK D K s ∧ (∀ q : Nat, s.heap.size ≤ q → A q) ∧ meth.sig.returnType = ret ∧ meth.locks = false
def Z (p : Program) (l : Launch) (e : Env) (R : Room) (s : State) (m : MethodId) (args : Array Value) (below : List Frame) (meth : Method) (c : Code) (D : va_G) (A : Nat → Prop) (nL : Nat) (Q : State → Prop) (IL : List zI) (cells slots : Nat) (sh : zSh) (ad : zAd) (S : zSt) (pc : Nat) (lv : List (Option Value)) (st : List Value) : Prop :=
  ∀ (H : Heap) (locs : List Loc) (ls : Array Slot), va_P D vwCl (zws IL sh ad S) H → va_D A (zws IL sh ad S) → va_S A s.heap H locs → zl ls nL lv → W p l e R s m args below meth c H locs cells slots Q (F0 m pc ls st)
theorem Zr_iconst (C : zX p s m args meth c own cc nL ret D K A) {n : Int} (v : Int32) (hd : decode cc pc = .ok (.iconst n, 1)) (hv : Int32.ofInt n = v) (k : Z p l e R s m args below meth c D A nL Q IL cells slots sh ad S (pc + 1) (lv) (.int v :: st)) : Z p l e R s m args below meth c D A nL Q IL cells slots sh ad S (pc) (lv) (st) := fun H locs ls hP hD hS hl => lv_iconst C.1.1 C.1.2.1 hd hv (k H locs ls hP hD hS hl)
theorem Zr_bipush (C : zX p s m args meth c own cc nL ret D K A) {n : Int} (v : Int32) (hd : decode cc pc = .ok (.bipush n, 2)) (hv : (Int8.ofInt n).toInt32 = v) (k : Z p l e R s m args below meth c D A nL Q IL cells slots sh ad S (pc + 2) (lv) (.int v :: st)) : Z p l e R s m args below meth c D A nL Q IL cells slots sh ad S (pc) (lv) (st) := fun H locs ls hP hD hS hl => lv_bipush C.1.1 C.1.2.1 hd hv (k H locs ls hP hD hS hl)
theorem Zr_sipush (C : zX p s m args meth c own cc nL ret D K A) {n : Int} (v : Int32) (hd : decode cc pc = .ok (.sipush n, 3)) (hv : (Int16.ofInt n).toInt32 = v) (k : Z p l e R s m args below meth c D A nL Q IL cells slots sh ad S (pc + 3) (lv) (.int v :: st)) : Z p l e R s m args below meth c D A nL Q IL cells slots sh ad S (pc) (lv) (st) := fun H locs ls hP hD hS hl => lv_sipush C.1.1 C.1.2.1 hd hv (k H locs ls hP hD hS hl)
theorem Zr_null (C : zX p s m args meth c own cc nL ret D K A) (hd : decode cc pc = .ok (.aconst_null, 1)) (k : Z p l e R s m args below meth c D A nL Q IL cells slots sh ad S (pc + 1) (lv) (.null :: st)) : Z p l e R s m args below meth c D A nL Q IL cells slots sh ad S (pc) (lv) (st) := fun H locs ls hP hD hS hl => lv_null C.1.1 C.1.2.1 hd (k H locs ls hP hD hS hl)
theorem Zr_iload_n (C : zX p s m args meth c own cc nL ret D K A) {j : Fin 4} {x : Int32} (hd : decode cc pc = .ok (.iload_n j, 1)) (hx : lv[(j : Nat)]? = some (some (.int x))) (k : Z p l e R s m args below meth c D A nL Q IL cells slots sh ad S (pc + 1) (lv) (.int x :: st)) : Z p l e R s m args below meth c D A nL Q IL cells slots sh ad S (pc) (lv) (st) := fun H locs ls hP hD hS hl => lv_iload_n C.1.1 C.1.2.1 hd rfl (zl_at hl hx) (k H locs ls hP hD hS hl)
theorem Zr_iload (C : zX p s m args meth c own cc nL ret D K A) {j : Nat} {x : Int32} (hd : decode cc pc = .ok (.iload j, 2)) (hx : lv[j]? = some (some (.int x))) (k : Z p l e R s m args below meth c D A nL Q IL cells slots sh ad S (pc + 2) (lv) (.int x :: st)) : Z p l e R s m args below meth c D A nL Q IL cells slots sh ad S (pc) (lv) (st) := fun H locs ls hP hD hS hl => lv_iload C.1.1 C.1.2.1 hd (zl_at hl hx) (k H locs ls hP hD hS hl)
theorem Zr_aload_n (C : zX p s m args meth c own cc nL ret D K A) {j : Fin 4} {x : Nat} (hd : decode cc pc = .ok (.aload_n j, 1)) (hx : lv[(j : Nat)]? = some (some (.ref x))) (k : Z p l e R s m args below meth c D A nL Q IL cells slots sh ad S (pc + 1) (lv) (.ref x :: st)) : Z p l e R s m args below meth c D A nL Q IL cells slots sh ad S (pc) (lv) (st) := fun H locs ls hP hD hS hl => lv_aload_n C.1.1 C.1.2.1 hd rfl (zl_at hl hx) (k H locs ls hP hD hS hl)
theorem Zr_aload (C : zX p s m args meth c own cc nL ret D K A) {j : Nat} {x : Nat} (hd : decode cc pc = .ok (.aload j, 2)) (hx : lv[j]? = some (some (.ref x))) (k : Z p l e R s m args below meth c D A nL Q IL cells slots sh ad S (pc + 2) (lv) (.ref x :: st)) : Z p l e R s m args below meth c D A nL Q IL cells slots sh ad S (pc) (lv) (st) := fun H locs ls hP hD hS hl => lv_aload C.1.1 C.1.2.1 hd (zl_at hl hx) (k H locs ls hP hD hS hl)
theorem Zr_aload_nN (C : zX p s m args meth c own cc nL ret D K A) {j : Fin 4} (hd : decode cc pc = .ok (.aload_n j, 1)) (hx : lv[(j : Nat)]? = some (some .null)) (k : Z p l e R s m args below meth c D A nL Q IL cells slots sh ad S (pc + 1) (lv) (.null :: st)) : Z p l e R s m args below meth c D A nL Q IL cells slots sh ad S (pc) (lv) (st) := fun H locs ls hP hD hS hl => lv_aload_nN C.1.1 C.1.2.1 hd rfl (zl_at hl hx) (k H locs ls hP hD hS hl)
theorem Zr_aloadN (C : zX p s m args meth c own cc nL ret D K A) {j : Nat} (hd : decode cc pc = .ok (.aload j, 2)) (hx : lv[j]? = some (some .null)) (k : Z p l e R s m args below meth c D A nL Q IL cells slots sh ad S (pc + 2) (lv) (.null :: st)) : Z p l e R s m args below meth c D A nL Q IL cells slots sh ad S (pc) (lv) (st) := fun H locs ls hP hD hS hl => lv_aloadN C.1.1 C.1.2.1 hd (zl_at hl hx) (k H locs ls hP hD hS hl)
theorem Zr_istore_n (C : zX p s m args meth c own cc nL ret D K A) {j : Fin 4} {x : Int32} (hd : decode cc pc = .ok (.istore_n j, 1)) (hj : (j : Nat) < nL) (k : Z p l e R s m args below meth c D A nL Q IL cells slots sh ad S (pc + 1) (lv.set (j : Nat) (some (.int x))) (st)) : Z p l e R s m args below meth c D A nL Q IL cells slots sh ad S (pc) (lv) (.int x :: st) := fun H locs ls hP hD hS hl => lv_istore_n C.1.1 C.1.2.1 hd rfl hl.1 hj rfl (fun ls' h' => k H locs ls' hP hD hS (zl_set hl rfl h'))
theorem Zr_istore (C : zX p s m args meth c own cc nL ret D K A) {j : Nat} {x : Int32} (hd : decode cc pc = .ok (.istore j, 2)) (hj : j < nL) (k : Z p l e R s m args below meth c D A nL Q IL cells slots sh ad S (pc + 2) (lv.set j (some (.int x))) (st)) : Z p l e R s m args below meth c D A nL Q IL cells slots sh ad S (pc) (lv) (.int x :: st) := fun H locs ls hP hD hS hl => lv_istore C.1.1 C.1.2.1 hd hl.1 hj rfl (fun ls' h' => k H locs ls' hP hD hS (zl_set hl rfl h'))
theorem Zr_astore_n (C : zX p s m args meth c own cc nL ret D K A) {j : Fin 4} {x : Nat} (hd : decode cc pc = .ok (.astore_n j, 1)) (hj : (j : Nat) < nL) (k : Z p l e R s m args below meth c D A nL Q IL cells slots sh ad S (pc + 1) (lv.set (j : Nat) (some (.ref x))) (st)) : Z p l e R s m args below meth c D A nL Q IL cells slots sh ad S (pc) (lv) (.ref x :: st) := fun H locs ls hP hD hS hl => lv_astore_n C.1.1 C.1.2.1 hd rfl hl.1 hj rfl (fun ls' h' => k H locs ls' hP hD hS (zl_set hl rfl h'))
theorem Zr_astore (C : zX p s m args meth c own cc nL ret D K A) {j : Nat} {x : Nat} (hd : decode cc pc = .ok (.astore j, 2)) (hj : j < nL) (k : Z p l e R s m args below meth c D A nL Q IL cells slots sh ad S (pc + 2) (lv.set j (some (.ref x))) (st)) : Z p l e R s m args below meth c D A nL Q IL cells slots sh ad S (pc) (lv) (.ref x :: st) := fun H locs ls hP hD hS hl => lv_astore C.1.1 C.1.2.1 hd hl.1 hj rfl (fun ls' h' => k H locs ls' hP hD hS (zl_set hl rfl h'))
theorem Zr_astore_nN (C : zX p s m args meth c own cc nL ret D K A) {j : Fin 4} (hd : decode cc pc = .ok (.astore_n j, 1)) (hj : (j : Nat) < nL) (k : Z p l e R s m args below meth c D A nL Q IL cells slots sh ad S (pc + 1) (lv.set (j : Nat) (some .null)) (st)) : Z p l e R s m args below meth c D A nL Q IL cells slots sh ad S (pc) (lv) (.null :: st) := fun H locs ls hP hD hS hl => lv_astore_nN C.1.1 C.1.2.1 hd rfl hl.1 hj rfl (fun ls' h' => k H locs ls' hP hD hS (zl_set hl rfl h'))
theorem Zr_astoreN (C : zX p s m args meth c own cc nL ret D K A) {j : Nat} (hd : decode cc pc = .ok (.astore j, 2)) (hj : j < nL) (k : Z p l e R s m args below meth c D A nL Q IL cells slots sh ad S (pc + 2) (lv.set j (some .null)) (st)) : Z p l e R s m args below meth c D A nL Q IL cells slots sh ad S (pc) (lv) (.null :: st) := fun H locs ls hP hD hS hl => lv_astoreN C.1.1 C.1.2.1 hd hl.1 hj rfl (fun ls' h' => k H locs ls' hP hD hS (zl_set hl rfl h'))
theorem Zr_iinc (C : zX p s m args meth c own cc nL ret D K A) {j : Nat} {n : Int} {x : Int32} (v : Int32) (hd : decode cc pc = .ok (.iinc j n, 3)) (hj : j < nL) (hx : lv[j]? = some (some (.int x))) (hv : Int32.ofInt n = v) (k : Z p l e R s m args below meth c D A nL Q IL cells slots sh ad S (pc + 3) (lv.set j (some (.int (x + v)))) (st)) : Z p l e R s m args below meth c D A nL Q IL cells slots sh ad S (pc) (lv) (st) := by
  intro H locs ls hP hD hS hl
  obtain ⟨q, hq⟩ := List.getElem?_of_mem (zlv_mem.mpr hx : (j, Value.int x) ∈ zlv lv)
  exact lv_iinc C.1.1 C.1.2.1 hd hl.1 hq (by rw [hv]) hj rfl (fun ls' h' => k H locs ls' hP hD hS (zl_set hl rfl h'))
theorem Zr_iincE (C : zX p s m args meth c own cc nL ret D K A) {j : Nat} {n : Int} {x : Int32} (v y : Int32) (hd : decode cc pc = .ok (.iinc j n, 3)) (hj : j < nL) (hx : lv[j]? = some (some (.int x))) (hv : Int32.ofInt n = v) (hy : x + v = y) (k : Z p l e R s m args below meth c D A nL Q IL cells slots sh ad S (pc + 3) (lv.set j (some (.int y))) (st)) : Z p l e R s m args below meth c D A nL Q IL cells slots sh ad S (pc) (lv) (st) := by
  subst hy
  exact Zr_iinc C v hd hj hx hv k
theorem Zr_iadd (C : zX p s m args meth c own cc nL ret D K A) {x y : Int32} (hd : decode cc pc = .ok (.iadd, 1)) (k : Z p l e R s m args below meth c D A nL Q IL cells slots sh ad S (pc + 1) (lv) (.int (x + y) :: st)) : Z p l e R s m args below meth c D A nL Q IL cells slots sh ad S (pc) (lv) (.int y :: .int x :: st) := fun H locs ls hP hD hS hl => lv_iadd C.1.1 C.1.2.1 hd (k H locs ls hP hD hS hl)
theorem Zr_isub (C : zX p s m args meth c own cc nL ret D K A) {x y : Int32} (hd : decode cc pc = .ok (.isub, 1)) (k : Z p l e R s m args below meth c D A nL Q IL cells slots sh ad S (pc + 1) (lv) (.int (x - y) :: st)) : Z p l e R s m args below meth c D A nL Q IL cells slots sh ad S (pc) (lv) (.int y :: .int x :: st) := fun H locs ls hP hD hS hl => lv_isub C.1.1 C.1.2.1 hd (k H locs ls hP hD hS hl)
theorem Zr_imul (C : zX p s m args meth c own cc nL ret D K A) {x y : Int32} (hd : decode cc pc = .ok (.imul, 1)) (k : Z p l e R s m args below meth c D A nL Q IL cells slots sh ad S (pc + 1) (lv) (.int (x * y) :: st)) : Z p l e R s m args below meth c D A nL Q IL cells slots sh ad S (pc) (lv) (.int y :: .int x :: st) := fun H locs ls hP hD hS hl => lv_imul C.1.1 C.1.2.1 hd (k H locs ls hP hD hS hl)
theorem Zr_iand (C : zX p s m args meth c own cc nL ret D K A) {x y : Int32} (hd : decode cc pc = .ok (.iand, 1)) (k : Z p l e R s m args below meth c D A nL Q IL cells slots sh ad S (pc + 1) (lv) (.int (x &&& y) :: st)) : Z p l e R s m args below meth c D A nL Q IL cells slots sh ad S (pc) (lv) (.int y :: .int x :: st) := fun H locs ls hP hD hS hl => lv_iand C.1.1 C.1.2.1 hd (k H locs ls hP hD hS hl)
theorem Zr_ior (C : zX p s m args meth c own cc nL ret D K A) {x y : Int32} (hd : decode cc pc = .ok (.ior, 1)) (k : Z p l e R s m args below meth c D A nL Q IL cells slots sh ad S (pc + 1) (lv) (.int (x ||| y) :: st)) : Z p l e R s m args below meth c D A nL Q IL cells slots sh ad S (pc) (lv) (.int y :: .int x :: st) := fun H locs ls hP hD hS hl => lv_ior C.1.1 C.1.2.1 hd (k H locs ls hP hD hS hl)
theorem Zr_ixor (C : zX p s m args meth c own cc nL ret D K A) {x y : Int32} (hd : decode cc pc = .ok (.ixor, 1)) (k : Z p l e R s m args below meth c D A nL Q IL cells slots sh ad S (pc + 1) (lv) (.int (x ^^^ y) :: st)) : Z p l e R s m args below meth c D A nL Q IL cells slots sh ad S (pc) (lv) (.int y :: .int x :: st) := fun H locs ls hP hD hS hl => lv_ixor C.1.1 C.1.2.1 hd (k H locs ls hP hD hS hl)
theorem Zr_ishl (C : zX p s m args meth c own cc nL ret D K A) {x y : Int32} (hd : decode cc pc = .ok (.ishl, 1)) (k : Z p l e R s m args below meth c D A nL Q IL cells slots sh ad S (pc + 1) (lv) (.int (x <<< (y &&& 31)) :: st)) : Z p l e R s m args below meth c D A nL Q IL cells slots sh ad S (pc) (lv) (.int y :: .int x :: st) := fun H locs ls hP hD hS hl => lv_ishl C.1.1 C.1.2.1 hd (k H locs ls hP hD hS hl)
theorem Zr_ishr (C : zX p s m args meth c own cc nL ret D K A) {x y : Int32} (hd : decode cc pc = .ok (.ishr, 1)) (k : Z p l e R s m args below meth c D A nL Q IL cells slots sh ad S (pc + 1) (lv) (.int (x >>> (y &&& 31)) :: st)) : Z p l e R s m args below meth c D A nL Q IL cells slots sh ad S (pc) (lv) (.int y :: .int x :: st) := fun H locs ls hP hD hS hl => lv_ishr C.1.1 C.1.2.1 hd (k H locs ls hP hD hS hl)
theorem Zr_idiv (C : zX p s m args meth c own cc nL ret D K A) {x y : Int32} (hd : decode cc pc = .ok (.idiv, 1)) (hne : ¬ y = 0) (k : Z p l e R s m args below meth c D A nL Q IL cells slots sh ad S (pc + 1) (lv) (.int (x / y) :: st)) : Z p l e R s m args below meth c D A nL Q IL cells slots sh ad S (pc) (lv) (.int y :: .int x :: st) := fun H locs ls hP hD hS hl => lv_idiv C.1.1 C.1.2.1 hd hne (k H locs ls hP hD hS hl)
theorem Zr_irem (C : zX p s m args meth c own cc nL ret D K A) {x y : Int32} (hd : decode cc pc = .ok (.irem, 1)) (hne : ¬ y = 0) (k : Z p l e R s m args below meth c D A nL Q IL cells slots sh ad S (pc + 1) (lv) (.int (x - x / y * y) :: st)) : Z p l e R s m args below meth c D A nL Q IL cells slots sh ad S (pc) (lv) (.int y :: .int x :: st) := fun H locs ls hP hD hS hl => lv_irem C.1.1 C.1.2.1 hd hne (k H locs ls hP hD hS hl)
theorem Zr_iushr (C : zX p s m args meth c own cc nL ret D K A) {x y : Int32} (hd : decode cc pc = .ok (.iushr, 1)) (k : Z p l e R s m args below meth c D A nL Q IL cells slots sh ad S (pc + 1) (lv) (.int (x.toUInt32 >>> (y.toUInt32 &&& Int32.toUInt32 31)).toInt32 :: st)) : Z p l e R s m args below meth c D A nL Q IL cells slots sh ad S (pc) (lv) (.int y :: .int x :: st) := fun H locs ls hP hD hS hl => lv_iushr C.1.1 C.1.2.1 hd rfl (k H locs ls hP hD hS hl)
theorem Zr_dup (C : zX p s m args meth c own cc nL ret D K A) {v : Value} (hd : decode cc pc = .ok (.dup, 1)) (hv : v.category = 1) (k : Z p l e R s m args below meth c D A nL Q IL cells slots sh ad S (pc + 1) (lv) (v :: v :: st)) : Z p l e R s m args below meth c D A nL Q IL cells slots sh ad S (pc) (lv) (v :: st) := fun H locs ls hP hD hS hl => lv_dup C.1.1 C.1.2.1 hd hv (k H locs ls hP hD hS hl)
theorem Zr_dup2 (C : zX p s m args meth c own cc nL ret D K A) {u v : Value} (hd : decode cc pc = .ok (.dup2, 1)) (hu : u.category = 1) (hv : v.category = 1) (k : Z p l e R s m args below meth c D A nL Q IL cells slots sh ad S (pc + 1) (lv) (u :: v :: u :: v :: st)) : Z p l e R s m args below meth c D A nL Q IL cells slots sh ad S (pc) (lv) (u :: v :: st) := fun H locs ls hP hD hS hl => lv_dup2_11 C.1.1 C.1.2.1 hd hu hv (k H locs ls hP hD hS hl)
theorem Zr_ldc (C : zX p s m args meth c own cc nL ret D K A) {j : Nat} {v : Int32} (hw : Cond.constant own j v ∈ zgw) (hd : decode cc pc = .ok (.ldc j, 2)) (k : Z p l e R s m args below meth c D A nL Q IL cells slots sh ad S (pc + 2) (lv) (.int v :: st)) : Z p l e R s m args below meth c D A nL Q IL cells slots sh ad S (pc) (lv) (st) := fun H locs ls hP hD hS hl => lv_ldc C.1.1 C.1.2.1 C.1.2.2.2.1 (C.1.2.2.2.2 _ hw) hd (k H locs ls hP hD hS hl)
theorem Zr_ldcw (C : zX p s m args meth c own cc nL ret D K A) {j : Nat} {v : Int32} (hw : Cond.constant own j v ∈ zgw) (hd : decode cc pc = .ok (.ldc_w j, 3)) (k : Z p l e R s m args below meth c D A nL Q IL cells slots sh ad S (pc + 3) (lv) (.int v :: st)) : Z p l e R s m args below meth c D A nL Q IL cells slots sh ad S (pc) (lv) (st) := fun H locs ls hP hD hS hl => lv_ldcw C.1.1 C.1.2.1 C.1.2.2.2.1 (C.1.2.2.2.2 _ hw) hd (k H locs ls hP hD hS hl)
theorem Zr_if_eq (C : zX p s m args meth c own cc nL ret D K A) {x : Int32} {off : Int} (tgt : Nat) (hd : decode cc pc = .ok (.ifCond .eq off, 3)) (ht : (pc : Int) + off = (tgt : Int)) (kt : x = 0 → Z p l e R s m args below meth c D A nL Q IL cells slots sh ad S (tgt) (lv) (st)) (kf : ¬ x = 0 → Z p l e R s m args below meth c D A nL Q IL cells slots sh ad S (pc + 3) (lv) (st)) : Z p l e R s m args below meth c D A nL Q IL cells slots sh ad S (pc) (lv) (.int x :: st) := fun H locs ls hP hD hS hl => lv_if_eq C.1.1 C.1.2.1 hd ht (fun h => kt h H locs ls hP hD hS hl) (fun h => kf h H locs ls hP hD hS hl)
theorem Zr_if_ne (C : zX p s m args meth c own cc nL ret D K A) {x : Int32} {off : Int} (tgt : Nat) (hd : decode cc pc = .ok (.ifCond .ne off, 3)) (ht : (pc : Int) + off = (tgt : Int)) (kt : ¬ x = 0 → Z p l e R s m args below meth c D A nL Q IL cells slots sh ad S (tgt) (lv) (st)) (kf : x = 0 → Z p l e R s m args below meth c D A nL Q IL cells slots sh ad S (pc + 3) (lv) (st)) : Z p l e R s m args below meth c D A nL Q IL cells slots sh ad S (pc) (lv) (.int x :: st) := fun H locs ls hP hD hS hl => lv_if_ne C.1.1 C.1.2.1 hd ht (fun h => kt h H locs ls hP hD hS hl) (fun h => kf h H locs ls hP hD hS hl)
theorem Zr_if_lt (C : zX p s m args meth c own cc nL ret D K A) {x : Int32} {off : Int} (tgt : Nat) (hd : decode cc pc = .ok (.ifCond .lt off, 3)) (ht : (pc : Int) + off = (tgt : Int)) (kt : x < 0 → Z p l e R s m args below meth c D A nL Q IL cells slots sh ad S (tgt) (lv) (st)) (kf : ¬ x < 0 → Z p l e R s m args below meth c D A nL Q IL cells slots sh ad S (pc + 3) (lv) (st)) : Z p l e R s m args below meth c D A nL Q IL cells slots sh ad S (pc) (lv) (.int x :: st) := fun H locs ls hP hD hS hl => lv_if_lt C.1.1 C.1.2.1 hd ht (fun h => kt h H locs ls hP hD hS hl) (fun h => kf h H locs ls hP hD hS hl)
theorem Zr_if_ge (C : zX p s m args meth c own cc nL ret D K A) {x : Int32} {off : Int} (tgt : Nat) (hd : decode cc pc = .ok (.ifCond .ge off, 3)) (ht : (pc : Int) + off = (tgt : Int)) (kt : 0 ≤ x → Z p l e R s m args below meth c D A nL Q IL cells slots sh ad S (tgt) (lv) (st)) (kf : ¬ 0 ≤ x → Z p l e R s m args below meth c D A nL Q IL cells slots sh ad S (pc + 3) (lv) (st)) : Z p l e R s m args below meth c D A nL Q IL cells slots sh ad S (pc) (lv) (.int x :: st) := fun H locs ls hP hD hS hl => lv_if_ge C.1.1 C.1.2.1 hd ht (fun h => kt h H locs ls hP hD hS hl) (fun h => kf h H locs ls hP hD hS hl)
theorem Zr_if_gt (C : zX p s m args meth c own cc nL ret D K A) {x : Int32} {off : Int} (tgt : Nat) (hd : decode cc pc = .ok (.ifCond .gt off, 3)) (ht : (pc : Int) + off = (tgt : Int)) (kt : 0 < x → Z p l e R s m args below meth c D A nL Q IL cells slots sh ad S (tgt) (lv) (st)) (kf : ¬ 0 < x → Z p l e R s m args below meth c D A nL Q IL cells slots sh ad S (pc + 3) (lv) (st)) : Z p l e R s m args below meth c D A nL Q IL cells slots sh ad S (pc) (lv) (.int x :: st) := fun H locs ls hP hD hS hl => lv_if_gt C.1.1 C.1.2.1 hd ht (fun h => kt h H locs ls hP hD hS hl) (fun h => kf h H locs ls hP hD hS hl)
theorem Zr_if_le (C : zX p s m args meth c own cc nL ret D K A) {x : Int32} {off : Int} (tgt : Nat) (hd : decode cc pc = .ok (.ifCond .le off, 3)) (ht : (pc : Int) + off = (tgt : Int)) (kt : x ≤ 0 → Z p l e R s m args below meth c D A nL Q IL cells slots sh ad S (tgt) (lv) (st)) (kf : ¬ x ≤ 0 → Z p l e R s m args below meth c D A nL Q IL cells slots sh ad S (pc + 3) (lv) (st)) : Z p l e R s m args below meth c D A nL Q IL cells slots sh ad S (pc) (lv) (.int x :: st) := fun H locs ls hP hD hS hl => lv_if_le C.1.1 C.1.2.1 hd ht (fun h => kt h H locs ls hP hD hS hl) (fun h => kf h H locs ls hP hD hS hl)
theorem Zr_icmp_eq (C : zX p s m args meth c own cc nL ret D K A) {x y : Int32} {off : Int} (tgt : Nat) (hd : decode cc pc = .ok (.if_icmp .eq off, 3)) (ht : (pc : Int) + off = (tgt : Int)) (kt : x = y → Z p l e R s m args below meth c D A nL Q IL cells slots sh ad S (tgt) (lv) (st)) (kf : ¬ x = y → Z p l e R s m args below meth c D A nL Q IL cells slots sh ad S (pc + 3) (lv) (st)) : Z p l e R s m args below meth c D A nL Q IL cells slots sh ad S (pc) (lv) (.int y :: .int x :: st) := fun H locs ls hP hD hS hl => lv_icmp_eq C.1.1 C.1.2.1 hd ht (fun h => kt h H locs ls hP hD hS hl) (fun h => kf h H locs ls hP hD hS hl)
theorem Zr_icmp_ne (C : zX p s m args meth c own cc nL ret D K A) {x y : Int32} {off : Int} (tgt : Nat) (hd : decode cc pc = .ok (.if_icmp .ne off, 3)) (ht : (pc : Int) + off = (tgt : Int)) (kt : ¬ x = y → Z p l e R s m args below meth c D A nL Q IL cells slots sh ad S (tgt) (lv) (st)) (kf : x = y → Z p l e R s m args below meth c D A nL Q IL cells slots sh ad S (pc + 3) (lv) (st)) : Z p l e R s m args below meth c D A nL Q IL cells slots sh ad S (pc) (lv) (.int y :: .int x :: st) := fun H locs ls hP hD hS hl => lv_icmp_ne C.1.1 C.1.2.1 hd ht (fun h => kt h H locs ls hP hD hS hl) (fun h => kf h H locs ls hP hD hS hl)
theorem Zr_icmp_lt (C : zX p s m args meth c own cc nL ret D K A) {x y : Int32} {off : Int} (tgt : Nat) (hd : decode cc pc = .ok (.if_icmp .lt off, 3)) (ht : (pc : Int) + off = (tgt : Int)) (kt : x < y → Z p l e R s m args below meth c D A nL Q IL cells slots sh ad S (tgt) (lv) (st)) (kf : ¬ x < y → Z p l e R s m args below meth c D A nL Q IL cells slots sh ad S (pc + 3) (lv) (st)) : Z p l e R s m args below meth c D A nL Q IL cells slots sh ad S (pc) (lv) (.int y :: .int x :: st) := fun H locs ls hP hD hS hl => lv_icmp_lt C.1.1 C.1.2.1 hd ht (fun h => kt h H locs ls hP hD hS hl) (fun h => kf h H locs ls hP hD hS hl)
theorem Zr_icmp_ge (C : zX p s m args meth c own cc nL ret D K A) {x y : Int32} {off : Int} (tgt : Nat) (hd : decode cc pc = .ok (.if_icmp .ge off, 3)) (ht : (pc : Int) + off = (tgt : Int)) (kt : y ≤ x → Z p l e R s m args below meth c D A nL Q IL cells slots sh ad S (tgt) (lv) (st)) (kf : ¬ y ≤ x → Z p l e R s m args below meth c D A nL Q IL cells slots sh ad S (pc + 3) (lv) (st)) : Z p l e R s m args below meth c D A nL Q IL cells slots sh ad S (pc) (lv) (.int y :: .int x :: st) := fun H locs ls hP hD hS hl => lv_icmp_ge C.1.1 C.1.2.1 hd ht (fun h => kt h H locs ls hP hD hS hl) (fun h => kf h H locs ls hP hD hS hl)
theorem Zr_icmp_gt (C : zX p s m args meth c own cc nL ret D K A) {x y : Int32} {off : Int} (tgt : Nat) (hd : decode cc pc = .ok (.if_icmp .gt off, 3)) (ht : (pc : Int) + off = (tgt : Int)) (kt : y < x → Z p l e R s m args below meth c D A nL Q IL cells slots sh ad S (tgt) (lv) (st)) (kf : ¬ y < x → Z p l e R s m args below meth c D A nL Q IL cells slots sh ad S (pc + 3) (lv) (st)) : Z p l e R s m args below meth c D A nL Q IL cells slots sh ad S (pc) (lv) (.int y :: .int x :: st) := fun H locs ls hP hD hS hl => lv_icmp_gt C.1.1 C.1.2.1 hd ht (fun h => kt h H locs ls hP hD hS hl) (fun h => kf h H locs ls hP hD hS hl)
theorem Zr_icmp_le (C : zX p s m args meth c own cc nL ret D K A) {x y : Int32} {off : Int} (tgt : Nat) (hd : decode cc pc = .ok (.if_icmp .le off, 3)) (ht : (pc : Int) + off = (tgt : Int)) (kt : x ≤ y → Z p l e R s m args below meth c D A nL Q IL cells slots sh ad S (tgt) (lv) (st)) (kf : ¬ x ≤ y → Z p l e R s m args below meth c D A nL Q IL cells slots sh ad S (pc + 3) (lv) (st)) : Z p l e R s m args below meth c D A nL Q IL cells slots sh ad S (pc) (lv) (.int y :: .int x :: st) := fun H locs ls hP hD hS hl => lv_icmp_le C.1.1 C.1.2.1 hd ht (fun h => kt h H locs ls hP hD hS hl) (fun h => kf h H locs ls hP hD hS hl)
theorem Zr_goto (C : zX p s m args meth c own cc nL ret D K A) {off : Int} (tgt : Nat) (hd : decode cc pc = .ok (.goto off, 3)) (ht : (pc : Int) + off = (tgt : Int)) (k : Z p l e R s m args below meth c D A nL Q IL cells slots sh ad S (tgt) (lv) (st)) : Z p l e R s m args below meth c D A nL Q IL cells slots sh ad S (pc) (lv) (st) := fun H locs ls hP hD hS hl => lv_goto C.1.1 C.1.2.1 hd ht (k H locs ls hP hD hS hl)
theorem Zr_ifnull (C : zX p s m args meth c own cc nL ret D K A) {x : Nat} {off : Int} (hd : decode cc pc = .ok (.ifnull off, 3)) (k : Z p l e R s m args below meth c D A nL Q IL cells slots sh ad S (pc + 3) (lv) (st)) : Z p l e R s m args below meth c D A nL Q IL cells slots sh ad S (pc) (lv) (.ref x :: st) := fun H locs ls hP hD hS hl => lv_ifnull C.1.1 C.1.2.1 hd (k H locs ls hP hD hS hl)
theorem Zr_ifnullN (C : zX p s m args meth c own cc nL ret D K A) {off : Int} (tgt : Nat) (hd : decode cc pc = .ok (.ifnull off, 3)) (ht : (pc : Int) + off = (tgt : Int)) (k : Z p l e R s m args below meth c D A nL Q IL cells slots sh ad S (tgt) (lv) (st)) : Z p l e R s m args below meth c D A nL Q IL cells slots sh ad S (pc) (lv) (.null :: st) := fun H locs ls hP hD hS hl => lv_ifnullN C.1.1 C.1.2.1 hd ht (k H locs ls hP hD hS hl)
theorem Zr_ifnonnull (C : zX p s m args meth c own cc nL ret D K A) {x : Nat} {off : Int} (tgt : Nat) (hd : decode cc pc = .ok (.ifnonnull off, 3)) (ht : (pc : Int) + off = (tgt : Int)) (k : Z p l e R s m args below meth c D A nL Q IL cells slots sh ad S (tgt) (lv) (st)) : Z p l e R s m args below meth c D A nL Q IL cells slots sh ad S (pc) (lv) (.ref x :: st) := fun H locs ls hP hD hS hl => lv_ifnonnull C.1.1 C.1.2.1 hd ht (k H locs ls hP hD hS hl)
theorem Zr_ifnonnullN (C : zX p s m args meth c own cc nL ret D K A) {off : Int} (hd : decode cc pc = .ok (.ifnonnull off, 3)) (k : Z p l e R s m args below meth c D A nL Q IL cells slots sh ad S (pc + 3) (lv) (st)) : Z p l e R s m args below meth c D A nL Q IL cells slots sh ad S (pc) (lv) (.null :: st) := fun H locs ls hP hD hS hl => lv_ifnonnullN C.1.1 C.1.2.1 hd (k H locs ls hP hD hS hl)
theorem Zr_tableIn (C : zX p s m args meth c own cc nL ret D K A) {dflt lo hi : Int} {offs : Array Int} {len : Nat} {x : Int32} {off : Int} (tgt : Nat) (hd : decode cc pc = .ok (.tableswitch dflt lo hi offs, len)) (h1 : ¬ x.toInt < lo) (h2 : ¬ hi < x.toInt) (ho : offs[(x.toInt - lo).toNat]? = some off) (ht : (pc : Int) + off = (tgt : Int)) (k : Z p l e R s m args below meth c D A nL Q IL cells slots sh ad S (tgt) (lv) (st)) : Z p l e R s m args below meth c D A nL Q IL cells slots sh ad S (pc) (lv) (.int x :: st) := fun H locs ls hP hD hS hl => lv_tableIn C.1.1 C.1.2.1 hd h1 h2 ho ht (k H locs ls hP hD hS hl)
theorem Zr_tableOut (C : zX p s m args meth c own cc nL ret D K A) {dflt lo hi : Int} {offs : Array Int} {len : Nat} {x : Int32} (tgt : Nat) (hd : decode cc pc = .ok (.tableswitch dflt lo hi offs, len)) (h : x.toInt < lo ∨ hi < x.toInt) (ht : (pc : Int) + dflt = (tgt : Int)) (k : Z p l e R s m args below meth c D A nL Q IL cells slots sh ad S (tgt) (lv) (st)) : Z p l e R s m args below meth c D A nL Q IL cells slots sh ad S (pc) (lv) (.int x :: st) := fun H locs ls hP hD hS hl => lv_tableOut C.1.1 C.1.2.1 hd h ht (k H locs ls hP hD hS hl)
theorem Zr_cs {cells' slots' : Nat} (h1 : cells = cells') (h2 : slots = slots') (k : Z p l e R s m args below meth c D A nL Q IL cells' slots' sh ad S (pc) (lv) (st)) : Z p l e R s m args below meth c D A nL Q IL cells slots sh ad S (pc) (lv) (st) := by subst h1; subst h2; exact k
theorem Zr_widen {cells' slots' : Nat} (h1 : cells ≤ cells') (h2 : slots ≤ slots') (k : Z p l e R s m args below meth c D A nL Q IL cells' slots' sh ad S (pc) (lv) (st)) : Z p l e R s m args below meth c D A nL Q IL cells slots sh ad S (pc) (lv) (st) := fun H locs ls hP hD hS hl => W.widen h1 h2 (k H locs ls hP hD hS hl)
theorem Zr_lv {lv' : List (Option Value)} (hs : ∀ (i : Nat) (v : Value), lv'[i]? = some (some v) → lv[i]? = some (some v)) (k : Z p l e R s m args below meth c D A nL Q IL cells slots sh ad S (pc) (lv') (st)) : Z p l e R s m args below meth c D A nL Q IL cells slots sh ad S (pc) (lv) (st) := fun H locs ls hP hD hS hl => k H locs ls hP hD hS (zl_sub hl hs)
theorem Zr_forget (j : Nat) (k : Z p l e R s m args below meth c D A nL Q IL cells slots sh ad S (pc) (lv.set j none) (st)) : Z p l e R s m args below meth c D A nL Q IL cells slots sh ad S (pc) (lv) (st) := by
  refine Zr_lv (fun i v h => ?_) k
  by_cases hi : j = i
  · subst hi
    rw [List.getElem?_set] at h
    simp at h
  · rwa [List.getElem?_set_ne hi] at h
theorem Zr_S {S' : zSt} (h : S = S') (k : Z p l e R s m args below meth c D A nL Q IL cells slots sh ad S' (pc) (lv) (st)) : Z p l e R s m args below meth c D A nL Q IL cells slots sh ad S (pc) (lv) (st) := by subst h; exact k
theorem Zr_st {st' : List Value} (h : st = st') (k : Z p l e R s m args below meth c D A nL Q IL cells slots sh ad S (pc) (lv) (st')) : Z p l e R s m args below meth c D A nL Q IL cells slots sh ad S (pc) (lv) (st) := by subst h; exact k
theorem Zr_topi {x y : Int32} (h : x = y) (k : Z p l e R s m args below meth c D A nL Q IL cells slots sh ad S (pc) (lv) (.int y :: st)) : Z p l e R s m args below meth c D A nL Q IL cells slots sh ad S (pc) (lv) (.int x :: st) := by subst h; exact k
theorem Zr_iald (C : zX p s m args meth c own cc nL ret D K A) {a b n x0 : Nat} {i : Int32} (hm : (a, b) ∈ IL) (hx0 : x0 = ad (a, b)) (hs : sh (a, b) = .inr (K.1, n, none)) (hi : vp_in i n) (hd : decode cc pc = .ok (.iaload, 1)) (k : Z p l e R s m args below meth c D A nL Q IL cells slots sh ad S (pc + 1) (lv) (.int (S a b i.toNatClampNeg) :: st)) : Z p l e R s m args below meth c D A nL Q IL cells slots sh ad S (pc) (lv) (.int i :: .ref x0 :: st) := by
  subst hx0
  intro H locs ls hP hD hS hl
  obtain ⟨q, -, hq⟩ := zws_at (sh := sh) (ad := ad) (S := S) hm
  rw [zpic_arr hs] at hq
  exact va_iald C.1.1 C.1.2.1 C.2.1.1 hP q 0 hq rfl hi hd (k H locs ls hP hD hS hl)
theorem Zr_zald (C : zX p s m args meth c own cc nL ret D K A) {a b n x0 : Nat} {i : Int32} (hm : (a, b) ∈ IL) (hx0 : x0 = ad (a, b)) (hs : sh (a, b) = .inr (K.2.1, n, none)) (hi : vp_in i n) (hd : decode cc pc = .ok (.baload, 1)) (k : Z p l e R s m args below meth c D A nL Q IL cells slots sh ad S (pc + 1) (lv) (.int (S a b i.toNatClampNeg) :: st)) : Z p l e R s m args below meth c D A nL Q IL cells slots sh ad S (pc) (lv) (.int i :: .ref x0 :: st) := by
  subst hx0
  intro H locs ls hP hD hS hl
  obtain ⟨q, -, hq⟩ := zws_at (sh := sh) (ad := ad) (S := S) hm
  rw [zpic_arr hs] at hq
  exact va_zald C.1.1 C.1.2.1 C.2.1.1 hP q 1 hq rfl hi hd (k H locs ls hP hD hS hl)
theorem zpic_st {a b n i : Nat} {cA : ClassId} {v : Int32} (hs : sh (a, b) = .inr (cA, n, none)) : zpic sh ad (z3 S a b i v) (a, b) = .inl (cA, n, .inl (upd (S a b) i v)) := by
  rw [zpic_arr hs]
  congr 4
  funext x
  simp [z3, upd]
theorem Zr_iast (C : zX p s m args meth c own cc nL ret D K A) {a b n x0 : Nat} {i x : Int32} (hm : (a, b) ∈ IL) (hx0 : x0 = ad (a, b)) (hs : sh (a, b) = .inr (K.1, n, none)) (hi : vp_in i n) (hd : decode cc pc = .ok (.iastore, 1)) (k : Z p l e R s m args below meth c D A nL Q IL cells slots sh ad (z3 S a b i.toNatClampNeg x) (pc + 1) (lv) (st)) : Z p l e R s m args below meth c D A nL Q IL cells slots sh ad S (pc) (lv) (.int x :: .int i :: .ref x0 :: st) := by
  subst hx0
  intro H locs ls hP hD hS hl
  obtain ⟨q, hk, hq⟩ := zws_at (sh := sh) (ad := ad) (S := S) hm
  rw [zpic_arr hs] at hq
  refine va_iast C.1.1 C.1.2.1 C.2.1.1 hP hD hS q 0 hq rfl hi hd (fun H1 locs1 hP1 hD1 hS1 => ?_)
  rw [zws_set hD hk (zpic_st hs) (fun j hj => zpic_ne (i := (a, b)) hj)] at hP1 hD1
  exact k H1 locs1 ls hP1 hD1 hS1 hl
theorem Zr_zast (C : zX p s m args meth c own cc nL ret D K A) {a b n x0 : Nat} {i x : Int32} (hm : (a, b) ∈ IL) (hx0 : x0 = ad (a, b)) (hs : sh (a, b) = .inr (K.2.1, n, none)) (hi : vp_in i n) (hx : x = 0 ∨ x = 1) (hd : decode cc pc = .ok (.bastore, 1)) (k : Z p l e R s m args below meth c D A nL Q IL cells slots sh ad (z3 S a b i.toNatClampNeg x) (pc + 1) (lv) (st)) : Z p l e R s m args below meth c D A nL Q IL cells slots sh ad S (pc) (lv) (.int x :: .int i :: .ref x0 :: st) := by
  subst hx0
  intro H locs ls hP hD hS hl
  obtain ⟨q, hk, hq⟩ := zws_at (sh := sh) (ad := ad) (S := S) hm
  rw [zpic_arr hs] at hq
  refine va_zast C.1.1 C.1.2.1 C.2.1.1 hP hD hS q 1 hq rfl hi hd (fun H1 locs1 hP1 hD1 hS1 => ?_)
  have hx2 : vp_nar .boolean x = x := by rcases hx with rfl | rfl <;> decide +kernel
  rw [hx2] at hP1 hD1
  rw [zws_set hD hk (zpic_st hs) (fun j hj => zpic_ne (i := (a, b)) hj)] at hP1 hD1
  exact k H1 locs1 ls hP1 hD1 hS1 hl
theorem Zr_alen (C : zX p s m args meth c own cc nL ret D K A) {a b n x0 : Nat} {cA : ClassId} {f : Option (Nat → Option zI)} {ty : FieldType} (t0 : Nat) (hm : (a, b) ∈ IL) (hx0 : x0 = ad (a, b)) (hs : sh (a, b) = .inr (cA, n, f)) (ht : (ztys K)[t0]? = some (cA, ty)) (hd : decode cc pc = .ok (.arraylength, 1)) (k : Z p l e R s m args below meth c D A nL Q IL cells slots sh ad S (pc + 1) (lv) (.int (nI n) :: st)) : Z p l e R s m args below meth c D A nL Q IL cells slots sh ad S (pc) (lv) (.ref x0 :: st) := by
  subst hx0
  intro H locs ls hP hD hS hl
  obtain ⟨q, -, hq⟩ := zws_at (sh := sh) (ad := ad) (S := S) hm
  cases f with
  | none =>
    rw [zpic_arr hs] at hq
    exact va_alen C.1.1 C.1.2.1 C.2.1.1 hP q t0 hq ht rfl hd (k H locs ls hP hD hS hl)
  | some f =>
    rw [zpic_ref hs] at hq
    exact va_alen C.1.1 C.1.2.1 C.2.1.1 hP q t0 hq ht rfl hd (k H locs ls hP hD hS hl)
theorem Zr_aald (C : zX p s m args meth c own cc nL ret D K A) {a b n x0 : Nat} {cA : ClassId} {Cn : String} {f : Nat → Option zI} {i : Int32} (t0 : Nat) (hm : (a, b) ∈ IL) (hx0 : x0 = ad (a, b)) (hs : sh (a, b) = .inr (cA, n, some f)) (ht : (ztys K)[t0]? = some (cA, .object Cn)) (hi : vp_in i n) (hd : decode cc pc = .ok (.aaload, 1)) (k : Z p l e R s m args below meth c D A nL Q IL cells slots sh ad S (pc + 1) (lv) (va_rf ((f i.toNatClampNeg).map ad) :: st)) : Z p l e R s m args below meth c D A nL Q IL cells slots sh ad S (pc) (lv) (.int i :: .ref x0 :: st) := by
  subst hx0
  intro H locs ls hP hD hS hl
  obtain ⟨q, -, hq⟩ := zws_at (sh := sh) (ad := ad) (S := S) hm
  rw [zpic_ref hs] at hq
  exact va_aldq C.1.1 C.1.2.1 C.2.1.1 hP q t0 hq ht hi hd (k H locs ls hP hD hS hl)
theorem Zr_ialdN (C : zX p s m args meth c own cc nL ret D K A) {a b n x0 i : Nat} {v : Int32} (hm : (a, b) ∈ IL) (hx0 : x0 = ad (a, b)) (hs : sh (a, b) = .inr (K.1, n, none)) (hi : i < n) (hn : n < 2 ^ 31) (hv : S a b i = v) (hd : decode cc pc = .ok (.iaload, 1)) (k : Z p l e R s m args below meth c D A nL Q IL cells slots sh ad S (pc + 1) (lv) (.int v :: st)) : Z p l e R s m args below meth c D A nL Q IL cells slots sh ad S (pc) (lv) (.int (nI i) :: .ref x0 :: st) := by
  refine Zr_iald C hm hx0 hs (vp_in_nI hi hn) hd ?_
  rw [nI_clamp (Nat.lt_trans hi hn), hv]
  exact k
theorem Zr_zaldN (C : zX p s m args meth c own cc nL ret D K A) {a b n x0 i : Nat} {v : Int32} (hm : (a, b) ∈ IL) (hx0 : x0 = ad (a, b)) (hs : sh (a, b) = .inr (K.2.1, n, none)) (hi : i < n) (hn : n < 2 ^ 31) (hv : S a b i = v) (hd : decode cc pc = .ok (.baload, 1)) (k : Z p l e R s m args below meth c D A nL Q IL cells slots sh ad S (pc + 1) (lv) (.int v :: st)) : Z p l e R s m args below meth c D A nL Q IL cells slots sh ad S (pc) (lv) (.int (nI i) :: .ref x0 :: st) := by
  refine Zr_zald C hm hx0 hs (vp_in_nI hi hn) hd ?_
  rw [nI_clamp (Nat.lt_trans hi hn), hv]
  exact k
theorem Zr_iastN (C : zX p s m args meth c own cc nL ret D K A) {a b n x0 i : Nat} {x : Int32} {Rel : zSt → Prop} (hm : (a, b) ∈ IL) (hx0 : x0 = ad (a, b)) (hs : sh (a, b) = .inr (K.1, n, none)) (hi : i < n) (hn : n < 2 ^ 31) (hr : Rel (z3 S a b i x)) (hd : decode cc pc = .ok (.iastore, 1)) (k : ∀ S' : zSt, Rel S' → Z p l e R s m args below meth c D A nL Q IL cells slots sh ad S' (pc + 1) (lv) (st)) : Z p l e R s m args below meth c D A nL Q IL cells slots sh ad S (pc) (lv) (.int x :: .int (nI i) :: .ref x0 :: st) := by
  refine Zr_iast C hm hx0 hs (vp_in_nI hi hn) hd ?_
  rw [nI_clamp (Nat.lt_trans hi hn)]
  exact k _ hr
theorem Zr_zastN (C : zX p s m args meth c own cc nL ret D K A) {a b n x0 i : Nat} {x : Int32} {Rel : zSt → Prop} (hm : (a, b) ∈ IL) (hx0 : x0 = ad (a, b)) (hs : sh (a, b) = .inr (K.2.1, n, none)) (hi : i < n) (hn : n < 2 ^ 31) (hx : x = 0 ∨ x = 1) (hr : Rel (z3 S a b i x)) (hd : decode cc pc = .ok (.bastore, 1)) (k : ∀ S' : zSt, Rel S' → Z p l e R s m args below meth c D A nL Q IL cells slots sh ad S' (pc + 1) (lv) (st)) : Z p l e R s m args below meth c D A nL Q IL cells slots sh ad S (pc) (lv) (.int x :: .int (nI i) :: .ref x0 :: st) := by
  refine Zr_zast C hm hx0 hs (vp_in_nI hi hn) hx hd ?_
  rw [nI_clamp (Nat.lt_trans hi hn)]
  exact k _ hr
/-- a field that the class own reaches by the entry idx of its pool: field f of class ci -/
def zGet (own : String) (idx ci f : Nat) : Prop := ∀ {p : Program} {l : Launch} {e : Env} {R : Room} {s : State} {m : MethodId} {args : Array Value} {below : List Frame} {meth : Method} {c : Code} {Q : State → Prop} {cells slots : Nat} {cc : ByteArray} {nL : Nat} {ret : Option FieldType} {D : va_G} {K : zKs} {A : Nat → Prop} {H : Heap} {locs : List Loc} {pc : Nat} {ls : Array Slot} {rest : List Value} {ws : va_W} {q0 a : Nat} {fs : List Value} {v : Value}, zX p s m args meth c own cc nL ret D K A → va_P D vwCl ws H → ws[q0]? = some (a, .inr (ci, fs)) → fs[f]? = some v → decode cc pc = .ok (.getfield idx, 3) → W p l e R s m args below meth c H locs cells slots Q (F0 m (pc + 3) ls (v :: rest)) → W p l e R s m args below meth c H locs cells slots Q (F0 m pc ls (.ref a :: rest))
theorem zGet.of {own : String} {idx ci f : Nat} {Cn ref : String} {T : u_T} {N : Nat} (hc : vwCl[ci]? = some (Cn, T, N)) (hk : f < N) (hin : ∀ w ∈ u_ws Cn T N, w ∈ zgw) (hw : Cond.fieldLink own idx ref (T f).2.1 (T f).2.2.1 ∈ zgw) (hr : (T f).1 = ref) : zGet own idx ci f := by
  intro p l e R s m args below meth c Q cells slots cc nL ret D K A H locs pc ls rest ws q0 a fs v C hP he hv hd k
  exact va_get (Ts := zgw) C.1.1 C.1.2.1 C.1.2.2.2.2 hin C.1.2.2.2.1 C.2.1.1 hP q0 he hc f hk (C.1.2.2.2.2 _ hw) (fun x hx => by rw [← hr]; exact hx) hv hd k
theorem zGet.ofN {own : String} {idx ci f : Nat} {Cn ref host : String} {T : u_T} {N : Nat} (hc : vwCl[ci]? = some (Cn, T, N)) (hk : f < N) (hin : ∀ w ∈ u_ws Cn T N, w ∈ zgw) (hw : Cond.fieldLinkNest own idx ref (T f).2.1 (T f).2.2.1 host ∈ znw) (hr : (T f).1 = ref) : zGet own idx ci f := by
  intro p l e R s m args below meth c Q cells slots cc nL ret D K A H locs pc ls rest ws q0 a fs v C hP he hv hd k
  exact va_getN (Ts := zgw) C.1.1 C.1.2.1 C.1.2.2.2.2 hin C.1.2.2.2.1 C.2.1.1 hP q0 he hc f hk (va_Nw.use rfl (C.2.1.2 _ hw)) (fun x hx => by rw [← hr]; exact hx) hv hd k
def zPut (own : String) (idx ci f : Nat) (ty : FieldType) : Prop := ∀ {p : Program} {l : Launch} {e : Env} {R : Room} {s : State} {m : MethodId} {args : Array Value} {below : List Frame} {meth : Method} {c : Code} {Q : State → Prop} {cells slots : Nat} {cc : ByteArray} {nL : Nat} {ret : Option FieldType} {D : va_G} {K : zKs} {A : Nat → Prop} {H : Heap} {locs : List Loc} {pc : Nat} {ls : Array Slot} {rest : List Value} {ws : va_W} {q0 a : Nat} {fs : List Value} {v : Value}, zX p s m args meth c own cc nL ret D K A → va_P D vwCl ws H → va_D A ws → va_S A s.heap H locs → ws[q0]? = some (a, .inr (ci, fs)) → narrow ty v = v → fits ty v = true → f < fs.length → decode cc pc = .ok (.putfield idx, 3) → (∀ (H1 : Heap) (locs1 : List Loc), va_P D vwCl (ws.set q0 (a, .inr (ci, fs.set f v))) H1 → va_D A (ws.set q0 (a, .inr (ci, fs.set f v))) → va_S A s.heap H1 locs1 → W p l e R s m args below meth c H1 locs1 cells slots Q (F0 m (pc + 3) ls rest)) → W p l e R s m args below meth c H locs cells slots Q (F0 m pc ls (v :: .ref a :: rest))
theorem zPut.of {own : String} {idx ci f : Nat} {Cn ref : String} {T : u_T} {N : Nat} {ty : FieldType} {tys : Nat → FieldType} (hc : vwCl[ci]? = some (Cn, T, N)) (hk : f < N) (hin : ∀ w ∈ u_ws Cn T N, w ∈ zgw) (hty : ∀ k, k < N → parseFieldDescriptor (T k).2.2.1 = some (tys k)) (hnm : ∀ a, a < N → ∀ b, b < N → a ≠ b → (T a).2.1 ≠ (T b).2.1) (hw : Cond.fieldLink own idx ref (T f).2.1 (T f).2.2.1 ∈ zgw) (hr : (T f).1 = ref) (hfin : (T f).2.2.2 = false) (ht : tys f = ty) : zPut own idx ci f ty := by
  intro p l e R s m args below meth c Q cells slots cc nL ret D K A H locs pc ls rest ws q0 a fs v C hP hD hS he hn hfit hl hd k
  exact va_put (Ts := zgw) C.1.1 C.1.2.1 C.1.2.2.2.2 hin tys hty hnm C.1.2.2.2.1 C.2.1.1 hP hD hS q0 he hc f hk (C.1.2.2.2.2 _ hw) (fun x hx => by rw [← hr]; exact hx) hfin (by rw [hty f hk, ht]) hn hfit hl hd k
theorem zPut.ofN {own : String} {idx ci f : Nat} {Cn ref host : String} {T : u_T} {N : Nat} {ty : FieldType} {tys : Nat → FieldType} (hc : vwCl[ci]? = some (Cn, T, N)) (hk : f < N) (hin : ∀ w ∈ u_ws Cn T N, w ∈ zgw) (hty : ∀ k, k < N → parseFieldDescriptor (T k).2.2.1 = some (tys k)) (hnm : ∀ a, a < N → ∀ b, b < N → a ≠ b → (T a).2.1 ≠ (T b).2.1) (hw : Cond.fieldLinkNest own idx ref (T f).2.1 (T f).2.2.1 host ∈ znw) (hr : (T f).1 = ref) (hfin : (T f).2.2.2 = false) (ht : tys f = ty) : zPut own idx ci f ty := by
  intro p l e R s m args below meth c Q cells slots cc nL ret D K A H locs pc ls rest ws q0 a fs v C hP hD hS he hn hfit hl hd k
  exact va_putN (Ts := zgw) C.1.1 C.1.2.1 C.1.2.2.2.2 hin tys hty hnm C.1.2.2.2.1 C.2.1.1 hP hD hS q0 he hc f hk (va_Nw.use rfl (C.2.1.2 _ hw)) (fun x hx => by rw [← hr]; exact hx) hfin (by rw [hty f hk, ht]) hn hfit hl hd k
theorem Zr_get (C : zX p s m args meth c own cc nL ret D K A) {idx ci f a b x0 : Nat} {ds : List (Option zI)} (g : zGet own idx ci f) (hm : (a, b) ∈ IL) (hx0 : x0 = ad (a, b)) (hs : sh (a, b) = .inl (ci, ds)) (hf : ds[f]? = some none) (hd : decode cc pc = .ok (.getfield idx, 3)) (k : Z p l e R s m args below meth c D A nL Q IL cells slots sh ad S (pc + 3) (lv) (.int (S a b f) :: st)) : Z p l e R s m args below meth c D A nL Q IL cells slots sh ad S (pc) (lv) (.ref x0 :: st) := by
  subst hx0
  intro H locs ls hP hD hS hl
  obtain ⟨q, -, hq⟩ := zws_at (sh := sh) (ad := ad) (S := S) hm
  rw [zpic_obj hs] at hq
  have h1 := zfl_get (ad := ad) (g := S a b) (j := 0) hf
  rw [Nat.zero_add] at h1
  exact g C hP hq h1 hd (k H locs ls hP hD hS hl)
theorem Zr_getR (C : zX p s m args meth c own cc nL ret D K A) {idx ci f a b x0 : Nat} {j : zI} {ds : List (Option zI)} (g : zGet own idx ci f) (hm : (a, b) ∈ IL) (hx0 : x0 = ad (a, b)) (hs : sh (a, b) = .inl (ci, ds)) (hf : ds[f]? = some (some j)) (h99 : j.1 ≠ 99) (hd : decode cc pc = .ok (.getfield idx, 3)) (k : Z p l e R s m args below meth c D A nL Q IL cells slots sh ad S (pc + 3) (lv) (.ref (ad j) :: st)) : Z p l e R s m args below meth c D A nL Q IL cells slots sh ad S (pc) (lv) (.ref x0 :: st) := by
  subst hx0
  intro H locs ls hP hD hS hl
  obtain ⟨q, -, hq⟩ := zws_at (sh := sh) (ad := ad) (S := S) hm
  rw [zpic_obj hs] at hq
  exact g C hP hq (zfl_getR (ad := ad) (g := S a b) h99 (j := 0) hf) hd (k H locs ls hP hD hS hl)
theorem zpic_put {a b f ci : Nat} {ds : List (Option zI)} {v : Int32} (hs : sh (a, b) = .inl (ci, ds)) (hf : ds[f]? = some none) : zpic sh ad (z3 S a b f v) (a, b) = .inr (ci, (zfl ad (S a b) 0 ds).set f (.int v)) := by
  rw [zpic_obj hs, zfl_set hf, Nat.zero_add]
  show Sum.inr (ci, zfl ad (z3 S a b f v a b) 0 ds) = _
  rw [z3_row]
theorem Zr_put (C : zX p s m args meth c own cc nL ret D K A) {idx ci f a b x0 : Nat} {ty : FieldType} {x : Int32} {ds : List (Option zI)} (g : zPut own idx ci f ty) (hm : (a, b) ∈ IL) (hx0 : x0 = ad (a, b)) (hs : sh (a, b) = .inl (ci, ds)) (hf : ds[f]? = some none) (hn : narrow ty (.int x) = .int x ∧ fits ty (.int x) = true) (hd : decode cc pc = .ok (.putfield idx, 3)) (k : Z p l e R s m args below meth c D A nL Q IL cells slots sh ad (z3 S a b f x) (pc + 3) (lv) (st)) : Z p l e R s m args below meth c D A nL Q IL cells slots sh ad S (pc) (lv) (.int x :: .ref x0 :: st) := by
  subst hx0
  intro H locs ls hP hD hS hl
  obtain ⟨q, hk, hq⟩ := zws_at (sh := sh) (ad := ad) (S := S) hm
  rw [zpic_obj hs] at hq
  refine g C hP hD hS hq hn.1 hn.2 (by rw [zfl_len]; exact (List.getElem?_eq_some_iff.mp hf).1) hd (fun H1 locs1 hP1 hD1 hS1 => ?_)
  rw [zws_set hD hk (zpic_put hs hf) (fun j hj => zpic_ne (i := (a, b)) hj)] at hP1 hD1
  exact k H1 locs1 ls hP1 hD1 hS1 hl
theorem Zr_getE (C : zX p s m args meth c own cc nL ret D K A) {idx ci f a b x0 : Nat} {v : Int32} {ds : List (Option zI)} (g : zGet own idx ci f) (hm : (a, b) ∈ IL) (hx0 : x0 = ad (a, b)) (hs : sh (a, b) = .inl (ci, ds)) (hf : ds[f]? = some none) (hv : S a b f = v) (hd : decode cc pc = .ok (.getfield idx, 3)) (k : Z p l e R s m args below meth c D A nL Q IL cells slots sh ad S (pc + 3) (lv) (.int v :: st)) : Z p l e R s m args below meth c D A nL Q IL cells slots sh ad S (pc) (lv) (.ref x0 :: st) := by
  refine Zr_get C g hm hx0 hs hf hd ?_
  rw [hv]
  exact k
theorem Zr_putE (C : zX p s m args meth c own cc nL ret D K A) {idx ci f a b x0 : Nat} {ty : FieldType} {x : Int32} {ds : List (Option zI)} {Rel : zSt → Prop} (g : zPut own idx ci f ty) (hm : (a, b) ∈ IL) (hx0 : x0 = ad (a, b)) (hs : sh (a, b) = .inl (ci, ds)) (hf : ds[f]? = some none) (hn : narrow ty (.int x) = .int x ∧ fits ty (.int x) = true) (hr : Rel (z3 S a b f x)) (hd : decode cc pc = .ok (.putfield idx, 3)) (k : ∀ S' : zSt, Rel S' → Z p l e R s m args below meth c D A nL Q IL cells slots sh ad S' (pc + 3) (lv) (st)) : Z p l e R s m args below meth c D A nL Q IL cells slots sh ad S (pc) (lv) (.int x :: .ref x0 :: st) := Zr_put C g hm hx0 hs hf hn hd (k _ hr)
theorem znI (x : Int32) : narrow .int (.int x) = .int x ∧ fits .int (.int x) = true := ⟨rfl, rfl⟩
theorem znZ {x : Int32} (h : x = 0 ∨ x = 1) : narrow .boolean (.int x) = .int x ∧ fits .boolean (.int x) = true := by
  rcases h with rfl | rfl <;> exact ⟨by decide +kernel, by decide +kernel⟩
/-- an answer that is told, the same shape and addresses, numbers that a relation tells -/
def zR (V : Option Value) (SH : zSh) (AD : zAd) (Rel : zSt → Prop) : Option Value → zSh → zAd → zSt → Prop := fun v sh ad S => v = V ∧ sh = SH ∧ ad = AD ∧ Rel S
def zPre (IL : List zI) (sh : zSh) (ad : zAd) (S : zSt) (sz : Nat) (D : va_G) (K : zKs) (av : List Value) : Array Value → State → Prop := va_Pc av (fun U => U.heap.size = sz ∧ va_P D vwCl (zws IL sh ad S) U.heap ∧ zK D K U ∧ va_D (fun _ => True) (zws IL sh ad S))
def zQ (post : Option Value → zSh → zAd → zSt → Prop) (IL : List zI) (D : va_G) (A : Nat → Prop) : Array Value → State → Outcome → State → Prop := fun _ st oc t => (∃ (v : Option Value) (sh : zSh) (ad : zAd) (S : zSt), oc = .returned v ∧ post v sh ad S ∧ va_P D vwCl (zws IL sh ad S) t.heap ∧ va_D A (zws IL sh ad S)) ∧ va_F A st t
def zFr (IL : List zI) (sh : zSh) (ad : zAd) (S : zSt) (sz : Nat) : Nat → Prop := va_A (zws IL sh ad S) sz
def zMet (l : Launch) (y : MethodName) (b : ByteArray) (nL : Nat) (ret : Option FieldType) (rm : Room) (D : va_G) (K : zKs) (IL : List zI) (sh : zSh) (ad : zAd) (S : zSt) (av : List Value) (post : Option Value → zSh → zAd → zSt → Prop) : Prop :=
  ∀ sz : Nat, Met l y (Cond.code y b nL ret :: zgw) rm (zPre IL sh ad S sz D K av) (zQ post IL D (zFr IL sh ad S sz)) rm.cells rm.slots (zFr IL sh ad S sz)
/-- an answer and a world that are told outright -/
def zEq (V : Option Value) (SH : zSh) (AD : zAd) (SS : zSt) : Option Value → zSh → zAd → zSt → Prop := fun v sh ad S => v = V ∧ sh = SH ∧ ad = AD ∧ S = SS
theorem zEnter {y : MethodName} {rm : Room} {av : List Value} {post : Option Value → zSh → zAd → zSt → Prop} {lv0 : List (Option Value)} (hy : plainName y.cls = true) (hown : y.cls = own) (hav : ∀ v ∈ av, v.category = 1) (hn : av.length ≤ nL) (hlv : lv0 = av.map some ++ List.replicate (nL - av.length) none)
    (h : ∀ (p : Program) (e : Env) (s : State) (m : MethodId) (below : List Frame) (meth : Method) (c : Code) (A : Nat → Prop), zX p s m av.toArray meth c own cc nL ret D K A → (ret = none ∨ meth.name = y.name) → meth.name = y.name → Z p l e rm s m av.toArray below meth c D A nL (MQ below (zQ post IL D A) av.toArray s rm.cells rm.slots A) IL 0 0 sh ad S 0 lv0 []) : zMet l y cc nL ret rm D K IL sh ad S av post := by
  intro sz
  refine Met.ofW (cc := cc) (maxL := nL) (ret := ret) hy rfl ?_
  intro p e s m args below meth c s₁ B hml hv
  obtain ⟨rfl, hsz, hP, hK, hD0⟩ := hv
  have hts : ∀ w ∈ (Cond.code y cc nL ret :: zgw), w.before av.toArray s = true := atoms_spec (ws := Cond.code y cc nL ret :: zgw) B.pre
  have hownC : s.vm.findClass own = some m.cls := by rw [← hown]; exact findClass_of_methodNamed B.named
  subst hsz
  have hD := hD0.self (sz := s.heap.size)
  have hA : ∀ q : Nat, s.heap.size ≤ q → zFr IL sh ad S s.heap.size q := fun q h => Or.inr h
  have hnm : meth.name = y.name := (name_of_methodNamed B.named B.method).1
  have C : zX p s m av.toArray meth c own cc nL ret D K (zFr IL sh ad S s.heap.size) := ⟨⟨B.exec, B.bytes, hml, hownC, fun w hw => hts w (List.mem_cons_of_mem _ hw)⟩, hK, hA, B.returns, B.notSynchronized⟩
  have hk := h p e s m below meth c _ C (Or.inr hnm) hnm
  rw [lg_entry_eq]
  have hslen : (lg_sl av).length = av.length ∧ (lv_args 0 av) = zlv lv0 → True := fun _ => trivial
  refine hk s.heap [] _ hP hD va_S.rf ?_
  have hlg : ∀ (vs : List Value), (∀ v ∈ vs, v.category = 1) → lg_sl vs = vs.map Slot.val := by
    intro vs
    induction vs with
    | nil => intro _; rfl
    | cons v vs ih =>
      intro hvs
      have h1 := hvs v List.mem_cons_self
      have h2 := ih (fun x hx => hvs x (List.mem_cons_of_mem _ hx))
      simp only [lg_sl, List.flatMap_cons, List.map_cons] at h2 ⊢
      rw [h2]
      simp [h1]
  rw [hlg av hav, hlv]
  have hmem : ∀ q ∈ zlv (av.map some ++ List.replicate (nL - av.length) none), av[q.1]? = some q.2 := by
    intro q hq
    have h1 := zlv_mem.mp hq
    by_cases hl : q.1 < av.length
    · rw [List.getElem?_append_left (by simpa using hl)] at h1
      simpa using h1
    · rw [List.getElem?_append_right (by simpa using Nat.le_of_not_lt hl)] at h1
      rw [List.getElem?_replicate] at h1
      split at h1 <;> simp at h1
  refine ⟨⟨by simp; omega, ⟨fun i v hi hc => ?_, fun i hi => ?_⟩, fun q hq => ?_⟩, fun q hq => hav _ (List.mem_of_getElem? (hmem q hq))⟩
  · exfalso
    rw [List.getElem?_toArray] at hi
    have hm := List.mem_of_getElem? hi
    rcases List.mem_append.mp hm with hm | hm
    · obtain ⟨w, hw, he⟩ := List.mem_map.mp hm
      cases he
      rw [hav _ hw] at hc
      exact absurd hc (by decide)
    · have := (List.mem_replicate.mp hm).2
      cases this
  · exfalso
    rw [List.getElem?_toArray] at hi
    have hm := List.mem_of_getElem? hi
    rcases List.mem_append.mp hm with hm | hm
    · obtain ⟨w, hw, he⟩ := List.mem_map.mp hm
      cases he
    · have := (List.mem_replicate.mp hm).2
      cases this
  · have h1 := hmem q hq
    have hl := (List.getElem?_eq_some_iff.mp h1).1
    rw [List.getElem?_toArray, List.getElem?_append_left (by simpa using hl)]
    simp [h1]
theorem Zr_iret {post : Option Value → zSh → zAd → zSt → Prop} {mc ms : Nat} {v : Int32} (C : zX p s m args meth c own cc nL (some .int) D K A) (hd : decode cc pc = .ok (.ireturn, 1)) (h1 : cells ≤ mc) (h2 : slots ≤ ms) (hp : post (some (.int v)) sh ad S) : Z p l e R s m args below meth c D A nL (MQ below (zQ post IL D A) args s mc ms A) IL cells slots sh ad S (pc) lv ([.int v]) := by
  intro H locs ls hP hD hS hl
  refine W.widen h1 h2 ?_
  exact W.iret (hlocks := C.2.2.2.2) C.1.1 C.1.2.1 C.2.2.2.1 (fun t ht hW => ⟨⟨_, sh, ad, S, rfl, hp, by rw [ht]; exact hP, hD⟩, hS.F ht⟩) hS.2.2 hd
theorem Zr_zret {post : Option Value → zSh → zAd → zSt → Prop} {mc ms : Nat} {v : Int32} (C : zX p s m args meth c own cc nL (some .boolean) D K A) (hd : decode cc pc = .ok (.ireturn, 1)) (h1 : cells ≤ mc) (h2 : slots ≤ ms) (hv : v = 0 ∨ v = 1) (hp : post (some (.int v)) sh ad S) : Z p l e R s m args below meth c D A nL (MQ below (zQ post IL D A) args s mc ms A) IL cells slots sh ad S (pc) lv ([.int v]) := by
  intro H locs ls hP hD hS hl
  refine W.widen h1 h2 ?_
  exact W.zret (hlocks := C.2.2.2.2) C.1.1 C.1.2.1 C.2.2.2.1 (znZ hv).1 (fun t ht hW => ⟨⟨_, sh, ad, S, rfl, hp, by rw [ht]; exact hP, hD⟩, hS.F ht⟩) hS.2.2 hd
theorem Zr_vret {post : Option Value → zSh → zAd → zSt → Prop} {mc ms : Nat} (C : zX p s m args meth c own cc nL none D K A) (hd : decode cc pc = .ok (.return_, 1)) (h1 : cells ≤ mc) (h2 : slots ≤ ms) (hp : post none sh ad S) : Z p l e R s m args below meth c D A nL (MQ below (zQ post IL D A) args s mc ms A) IL cells slots sh ad S (pc) lv ([]) := by
  intro H locs ls hP hD hS hl
  refine W.widen h1 h2 ?_
  exact W.vret (hlocks := C.2.2.2.2) C.1.1 C.1.2.1 C.2.2.2.1 (fun t ht hW => ⟨⟨_, sh, ad, S, rfl, hp, by rw [ht]; exact hP, hD⟩, hS.F ht⟩) hS.2.2 hd
theorem Zr_aret {post : Option Value → zSh → zAd → zSt → Prop} {mc ms : Nat} {v : Value} {rt : FieldType} (C : zX p s m args meth c own cc nL (some rt) D K A) (hrt : (∃ n, rt = .object n) ∨ ∃ t, rt = .array t) (hv : v = .null ∨ ∃ a, v = .ref a) (hd : decode cc pc = .ok (.areturn, 1)) (h1 : cells ≤ mc) (h2 : slots ≤ ms) (hp : post (some v) sh ad S) : Z p l e R s m args below meth c D A nL (MQ below (zQ post IL D A) args s mc ms A) IL cells slots sh ad S (pc) lv ([v]) := by
  intro H locs ls hP hD hS hl
  refine W.widen h1 h2 ?_
  exact W.aret (hlocks := C.2.2.2.2) C.1.1 C.1.2.1 C.2.2.2.1 hrt hv (fun t ht hW => ⟨⟨_, sh, ad, S, rfl, hp, by rw [ht]; exact hP, hD⟩, hS.F ht⟩) hS.2.2 hd
theorem zPre.blind {sz : Nat} {av : List Value} : FrameBlind (zPre IL sh ad S sz D K av) := fun a U g mk q => ⟨q.1, q.2.1, q.2.2.1, q.2.2.2.1.blind, q.2.2.2.2⟩
theorem zPre.ok {av : List Value} {H : Heap} (hK : zK D K s) (hP : va_P D vwCl (zws IL sh ad S) H) (hD : va_D A (zws IL sh ad S)) : ∀ U : State, U.heap = H → s.WarmedH U.vm → zPre IL sh ad S H.size D K av av.toArray U := fun U hU hW => ⟨rfl, by rw [hU], by rw [hU]; exact hP, hK.moved hW, hD.weaken (fun _ _ _ _ => trivial)⟩
theorem zFr.le {H : Heap} {locs : List Loc} (C : zX p s m args meth c own cc nL ret D K A) (hD : va_D A (zws IL sh ad S)) (hS : va_S A s.heap H locs) : ∀ q, zFr IL sh ad S H.size q → A q := by
  intro q h
  rcases h with ⟨k, e, h⟩ | h
  · exact hD.2 k (q, e) h
  · exact C.2.2.1 q (Nat.le_trans hS.1 h)
theorem zAfter {post : Option Value → zSh → zAd → zSt → Prop} {H : Heap} {locs : List Loc} {ls : Array Slot} {rest st0 : List Value} {a : Array Value} {mc ms : Nat} (C : zX p s m args meth c own cc nL ret D K A) (hD : va_D A (zws IL sh ad S)) (hS : va_S A s.heap H locs) (hl : zl ls nL lv)
    (hr : va_Run p l e R s m args below meth c H locs cells slots mc ms (F0 m pc ls st0) rest (zQ post IL D (zFr IL sh ad S H.size) a) (zFr IL sh ad S H.size))
    (kk : ∀ (v : Option Value) (sh' : zSh) (ad' : zAd) (S' : zSt), post v sh' ad' S' → Z p l e R s m args below meth c D A nL Q IL (cells + mc) (slots + ms) sh' ad' S' (pc + 3) lv (v.toList ++ rest)) : W p l e R s m args below meth c H locs cells slots Q (F0 m pc ls st0) := by
  intro T hT X
  obtain ⟨v, st₀, t, T', L, h0, X', hL, e1, e2, ⟨⟨v', sh', ad', S', hv, hp, hP', hD'⟩, hz, hk⟩, st⟩ := hr T hT X
  cases hv
  rw [h0] at hz hk
  have hF := zFr.le C hD hS
  obtain ⟨t2, a1, b1⟩ := kk v sh' ad' S' hp T'.heap (locs ++ L) ls (by rw [e1]; exact hP') (hD'.weaken (fun _ _ _ h => hF _ h))
    ⟨Nat.le_trans hS.1 (by rw [e1]; exact hz), fun q h1 h2 => by rw [e1, hk q (Nat.lt_of_lt_of_le h1 hS.1) (fun z => h2 (hF q z))]; exact hS.2.1 q h1 h2, fun q hq => by
      rcases List.mem_append.mp hq with h | h
      · exact hS.2.2 q h
      · exact hF _ (hL q h)⟩ hl T' rfl X'
  exact ⟨t2, st t2 a1, b1⟩
/-- the words of a call: invokevirtual, invokestatic, by a link or by the nest's -/
def zCV (own : String) (idx : Nat) (Cn : String) (y : MethodName) (b : ByteArray) (nL : Nat) (ret : Option FieldType) (n : Nat) : Prop := ∀ {p : Program} {l : Launch} {e : Env} {R : Room} {s : State} {m : MethodId} {args : Array Value} {below : List Frame} {meth : Method} {c : Code} {cells slots : Nat} {cc : ByteArray} {nL0 : Nat} {ret0 : Option FieldType} {D : va_G} {K : zKs} {A : Nat → Prop} {H : Heap} {locs : List Loc} {pc : Nat} {ls : Array Slot} {rest st : List Value} {rm : Room} {Pc : Array Value → State → Prop} {Qc : Array Value → State → Outcome → State → Prop} {free : Addr → Prop} {h : Nat} {As : List Value}, zX p s m args meth c own cc nL0 ret0 D K A → Met l y (Cond.code y b nL ret :: zgw) rm Pc Qc rm.cells rm.slots free → rm.frames + 1 ≤ R.frames → 8 + (nL + 11) + rm.locals ≤ R.locals → PreV s H Cn h Pc As → As.length = n → ls.size = nL0 → st = As.reverse ++ .ref h :: rest → (rest.map fun v => v.category).sum ≤ 8 → decode cc pc = .ok (.invokevirtual idx, 3) → cells + rm.cells ≤ R.cells ∧ slots + rm.slots ≤ R.slots → va_Run p l e R s m args below meth c H locs cells slots rm.cells rm.slots (F0 m pc ls st) rest (Qc (Value.ref h :: As).toArray) free
def zCS (own : String) (idx : Nat) (y : MethodName) (b : ByteArray) (nL : Nat) (ret : Option FieldType) (n : Nat) : Prop := ∀ {p : Program} {l : Launch} {e : Env} {R : Room} {s : State} {m : MethodId} {args : Array Value} {below : List Frame} {meth : Method} {c : Code} {cells slots : Nat} {cc : ByteArray} {nL0 : Nat} {ret0 : Option FieldType} {D : va_G} {K : zKs} {A : Nat → Prop} {H : Heap} {locs : List Loc} {pc : Nat} {ls : Array Slot} {rest st : List Value} {rm : Room} {Pc : Array Value → State → Prop} {Qc : Array Value → State → Outcome → State → Prop} {free : Addr → Prop} {As : List Value}, zX p s m args meth c own cc nL0 ret0 D K A → Met l y (Cond.code y b nL ret :: zgw) rm Pc Qc rm.cells rm.slots free → rm.frames + 1 ≤ R.frames → 8 + (nL + 11) + rm.locals ≤ R.locals → PreS s H Pc As → As.length = n → ls.size = nL0 → st = As.reverse ++ rest → (rest.map fun v => v.category).sum ≤ 8 → decode cc pc = .ok (.invokestatic idx, 3) → cells + rm.cells ≤ R.cells ∧ slots + rm.slots ≤ R.slots → va_Run p l e R s m args below meth c H locs cells slots rm.cells rm.slots (F0 m pc ls st) rest (Qc As.toArray) free
theorem zCV.of {idx n nL : Nat} {Cn : String} {y : MethodName} {b : ByteArray} {ret : Option FieldType} (hcode : Cond.code y b nL ret ∈ zgw) (h1 : Cond.methodLink own idx y ∈ zgw) (h2 : Cond.instanceMethod y ∈ zgw) (h3 : Cond.selects Cn y y ∈ zgw) (h4 : Cond.initialized Cn ∈ zgw) (hd : y.cls = Cn ∧ y.cls ≠ "java/lang/invoke/MethodHandle" ∧ y.cls ≠ "java/lang/invoke/VarHandle" ∧ (parseMethodDescriptor y.desc).map (fun d => d.parameters.length) = some n) : zCV own idx Cn y b nL ret n := by
  intro p l e R s m args below meth c cells slots cc nL0 ret0 D K A H locs pc ls rest st rm Pc Qc free h As C hM hf hlo hp hn hsz hst hcat hdg hroom
  have hG : GoodIn zgw (wsV own idx Cn y (Cond.code y b nL ret :: zgw)) := by
    intro w hw
    have hm : w ∈ zgw := by
      unfold wsV at hw
      simp only [List.cons_append, List.nil_append, List.mem_cons] at hw
      rcases hw with rfl | rfl | rfl | rfl | rfl | hw
      · exact h1
      · exact h2
      · exact h3
      · exact h4
      · exact hcode
      · exact hw
    exact ⟨hm, good_of_word (List.mem_filter.mp hm).2⟩
  exact va_runV C.1 hM (cwV n C.1.2.2.2.2 hG rfl rfl rfl hd ⟨hf, hlo⟩) hp rfl hn hsz hst (lv_room hcat) hdg hroom
theorem zCS.of {idx n nL : Nat} {y : MethodName} {b : ByteArray} {ret : Option FieldType} (hcode : Cond.code y b nL ret ∈ zgw) (h1 : Cond.methodLink own idx y ∈ zgw) (h2 : Cond.static y ∈ zgw) (h3 : Cond.initialized y.cls ∈ zgw) (hd : y.cls ≠ "java/lang/invoke/MethodHandle" ∧ y.cls ≠ "java/lang/invoke/VarHandle" ∧ (parseMethodDescriptor y.desc).map (fun d => d.parameters.length) = some n) : zCS own idx y b nL ret n := by
  intro p l e R s m args below meth c cells slots cc nL0 ret0 D K A H locs pc ls rest st rm Pc Qc free As C hM hf hlo hp hn hsz hst hcat hdg hroom
  have hG : GoodIn zgw (Cond.code y b nL ret :: zgw) := zGood (Y := Cond.tt) hcode
  exact va_runS C.1 hM ⟨callB_of n C.1.2.2.2.2 hG rfl rfl rfl (C.1.2.2.2.2 _ h3) (C.1.2.2.2.2 _ h1) hd ⟨hf, hlo⟩, C.1.2.2.2.2 _ h2⟩ hp rfl hn hsz hst (lv_room hcat) hdg hroom
theorem zCS.ofN {idx n nL : Nat} {y : MethodName} {host : String} {b : ByteArray} {ret : Option FieldType} (hcode : Cond.code y b nL ret ∈ zgw) (h1 : Cond.methodLinkNest own idx y host ∈ znw) (h2 : Cond.static y ∈ zgw) (h3 : Cond.initialized y.cls ∈ zgw) (hd : y.cls ≠ "java/lang/invoke/MethodHandle" ∧ y.cls ≠ "java/lang/invoke/VarHandle" ∧ (parseMethodDescriptor y.desc).map (fun d => d.parameters.length) = some n) : zCS own idx y b nL ret n := by
  intro p l e R s m args below meth c cells slots cc nL0 ret0 D K A H locs pc ls rest st rm Pc Qc free As C hM hf hlo hp hn hsz hst hcat hdg hroom
  have hG : GoodIn zgw (Cond.code y b nL ret :: zgw) := zGood (Y := Cond.tt) hcode
  exact va_runSN C.1 hM ⟨va_cnB n C.1.2.2.2.2 hG rfl rfl rfl (C.2.1.2 _ h1) (C.1.2.2.2.2 _ h3) hd ⟨hf, hlo⟩, C.1.2.2.2.2 _ h2, trivial⟩ hp rfl hn hsz hst (lv_room hcat) hdg hroom
theorem Zr_invV (C : zX p s m args meth c own cc nL ret D K A) {y : MethodName} {b : ByteArray} {nLc n idx ci a1 b1 : Nat} {Cn : String} {T : u_T} {N : Nat} {retc : Option FieldType} {rm : Room} {ds : List (Option zI)} {st0 : List Value} {post : Option Value → zSh → zAd → zSt → Prop} (As : List Value) (cw : zCV own idx Cn y b nLc retc n) (hM : zMet l y b nLc retc rm D K IL sh ad S (.ref (ad (a1, b1)) :: As) post) (hm : (a1, b1) ∈ IL) (hs : sh (a1, b1) = .inl (ci, ds)) (hc : vwCl[ci]? = some (Cn, T, N)) (hst : st0 = As.reverse ++ .ref (ad (a1, b1)) :: st) (hfr : rm.frames + 1 ≤ R.frames) (hlo : 8 + (nLc + 11) + rm.locals ≤ R.locals) (hn : As.length = n) (hcat : (st.map fun v => v.category).sum ≤ 8) (hd : decode cc pc = .ok (.invokevirtual idx, 3)) (hroom : cells + rm.cells ≤ R.cells ∧ slots + rm.slots ≤ R.slots) (kk : ∀ (v : Option Value) (sh' : zSh) (ad' : zAd) (S' : zSt), post v sh' ad' S' → Z p l e R s m args below meth c D A nL Q IL (cells + rm.cells) (slots + rm.slots) sh' ad' S' (pc + 3) lv (v.toList ++ st)) : Z p l e R s m args below meth c D A nL Q IL cells slots sh ad S (pc) (lv) (st0) := by
  intro H locs ls hP hD hS hl
  obtain ⟨q, -, hq⟩ := zws_at (sh := sh) (ad := ad) (S := S) hm
  rw [zpic_obj hs] at hq
  exact zAfter C hD hS hl (cw C (hM H.size) hfr hlo ⟨zPre.blind, va_recv C.2.1.1 hP hc hq, zPre.ok C.2.1 hP hD⟩ hn hl.1.1 hst hcat hd hroom) kk
theorem Zr_invS (C : zX p s m args meth c own cc nL ret D K A) {y : MethodName} {b : ByteArray} {nLc n idx : Nat} {retc : Option FieldType} {rm : Room} {st0 : List Value} {post : Option Value → zSh → zAd → zSt → Prop} (As : List Value) (cw : zCS own idx y b nLc retc n) (hM : zMet l y b nLc retc rm D K IL sh ad S As post) (hst : st0 = As.reverse ++ st) (hfr : rm.frames + 1 ≤ R.frames) (hlo : 8 + (nLc + 11) + rm.locals ≤ R.locals) (hn : As.length = n) (hcat : (st.map fun v => v.category).sum ≤ 8) (hd : decode cc pc = .ok (.invokestatic idx, 3)) (hroom : cells + rm.cells ≤ R.cells ∧ slots + rm.slots ≤ R.slots) (kk : ∀ (v : Option Value) (sh' : zSh) (ad' : zAd) (S' : zSt), post v sh' ad' S' → Z p l e R s m args below meth c D A nL Q IL (cells + rm.cells) (slots + rm.slots) sh' ad' S' (pc + 3) lv (v.toList ++ st)) : Z p l e R s m args below meth c D A nL Q IL cells slots sh ad S (pc) (lv) (st0) := by
  intro H locs ls hP hD hS hl
  exact zAfter C hD hS hl (cw C (hM H.size) hfr hlo ⟨zPre.blind, zPre.ok C.2.1 hP hD⟩ hn hl.1.1 hst hcat hd hroom) kk
theorem Zr_callV (C : zX p s m args meth c own cc nL ret D K A) {y : MethodName} {b : ByteArray} {nLc n idx ci a1 b1 fr lo : Nat} {Cn : String} {T : u_T} {N : Nat} {retc : Option FieldType} {ds : List (Option zI)} {st0 As : List Value} {v : Value} {SH : zSh} {AD : zAd} {SS : zSt} (cw : zCV own idx Cn y b nLc retc n) (hM : zMet l y b nLc retc { frames := fr, cells := 0, slots := 0, locals := lo } D K IL sh ad S (.ref (ad (a1, b1)) :: As) (zEq (some v) SH AD SS)) (hm : (a1, b1) ∈ IL) (hs : sh (a1, b1) = .inl (ci, ds)) (hc : vwCl[ci]? = some (Cn, T, N)) (hst : st0 = As.reverse ++ .ref (ad (a1, b1)) :: st) (hfr : fr + 1 ≤ R.frames) (hlo : 8 + (nLc + 11) + lo ≤ R.locals) (hn : As.length = n) (hcat : (st.map fun v => v.category).sum ≤ 8) (hd : decode cc pc = .ok (.invokevirtual idx, 3)) (hroom : cells ≤ R.cells ∧ slots ≤ R.slots) (kk : Z p l e R s m args below meth c D A nL Q IL cells slots SH AD SS (pc + 3) lv (v :: st)) : Z p l e R s m args below meth c D A nL Q IL cells slots sh ad S (pc) (lv) (st0) := by
  refine Zr_invV C As cw hM hm hs hc hst hfr hlo hn hcat hd hroom (fun v sh' ad' S' hp => ?_)
  obtain ⟨rfl, rfl, rfl, rfl⟩ := hp
  exact kk
theorem Zr_callS (C : zX p s m args meth c own cc nL ret D K A) {y : MethodName} {b : ByteArray} {nLc n idx fr lo : Nat} {retc : Option FieldType} {st0 As : List Value} {v : Value} {SH : zSh} {AD : zAd} {SS : zSt} (cw : zCS own idx y b nLc retc n) (hM : zMet l y b nLc retc { frames := fr, cells := 0, slots := 0, locals := lo } D K IL sh ad S As (zEq (some v) SH AD SS)) (hst : st0 = As.reverse ++ st) (hfr : fr + 1 ≤ R.frames) (hlo : 8 + (nLc + 11) + lo ≤ R.locals) (hn : As.length = n) (hcat : (st.map fun v => v.category).sum ≤ 8) (hd : decode cc pc = .ok (.invokestatic idx, 3)) (hroom : cells ≤ R.cells ∧ slots ≤ R.slots) (kk : Z p l e R s m args below meth c D A nL Q IL cells slots SH AD SS (pc + 3) lv (v :: st)) : Z p l e R s m args below meth c D A nL Q IL cells slots sh ad S (pc) (lv) (st0) := by
  refine Zr_invS C As cw hM hst hfr hlo hn hcat hd hroom (fun v sh' ad' S' hp => ?_)
  obtain ⟨rfl, rfl, rfl, rfl⟩ := hp
  exact kk
theorem Zr_callVv (C : zX p s m args meth c own cc nL ret D K A) {y : MethodName} {b : ByteArray} {nLc n idx ci a1 b1 fr lo : Nat} {Cn : String} {T : u_T} {N : Nat} {retc : Option FieldType} {ds : List (Option zI)} {st0 As : List Value} {SH : zSh} {AD : zAd} {SS : zSt} (cw : zCV own idx Cn y b nLc retc n) (hM : zMet l y b nLc retc { frames := fr, cells := 0, slots := 0, locals := lo } D K IL sh ad S (.ref (ad (a1, b1)) :: As) (zEq (none) SH AD SS)) (hm : (a1, b1) ∈ IL) (hs : sh (a1, b1) = .inl (ci, ds)) (hc : vwCl[ci]? = some (Cn, T, N)) (hst : st0 = As.reverse ++ .ref (ad (a1, b1)) :: st) (hfr : fr + 1 ≤ R.frames) (hlo : 8 + (nLc + 11) + lo ≤ R.locals) (hn : As.length = n) (hcat : (st.map fun v => v.category).sum ≤ 8) (hd : decode cc pc = .ok (.invokevirtual idx, 3)) (hroom : cells ≤ R.cells ∧ slots ≤ R.slots) (kk : Z p l e R s m args below meth c D A nL Q IL cells slots SH AD SS (pc + 3) lv (st)) : Z p l e R s m args below meth c D A nL Q IL cells slots sh ad S (pc) (lv) (st0) := by
  refine Zr_invV C As cw hM hm hs hc hst hfr hlo hn hcat hd hroom (fun v sh' ad' S' hp => ?_)
  obtain ⟨rfl, rfl, rfl, rfl⟩ := hp
  exact kk
theorem Zr_callSv (C : zX p s m args meth c own cc nL ret D K A) {y : MethodName} {b : ByteArray} {nLc n idx fr lo : Nat} {retc : Option FieldType} {st0 As : List Value} {SH : zSh} {AD : zAd} {SS : zSt} (cw : zCS own idx y b nLc retc n) (hM : zMet l y b nLc retc { frames := fr, cells := 0, slots := 0, locals := lo } D K IL sh ad S As (zEq (none) SH AD SS)) (hst : st0 = As.reverse ++ st) (hfr : fr + 1 ≤ R.frames) (hlo : 8 + (nLc + 11) + lo ≤ R.locals) (hn : As.length = n) (hcat : (st.map fun v => v.category).sum ≤ 8) (hd : decode cc pc = .ok (.invokestatic idx, 3)) (hroom : cells ≤ R.cells ∧ slots ≤ R.slots) (kk : Z p l e R s m args below meth c D A nL Q IL cells slots SH AD SS (pc + 3) lv (st)) : Z p l e R s m args below meth c D A nL Q IL cells slots sh ad S (pc) (lv) (st0) := by
  refine Zr_invS C As cw hM hst hfr hlo hn hcat hd hroom (fun v sh' ad' S' hp => ?_)
  obtain ⟨rfl, rfl, rfl, rfl⟩ := hp
  exact kk
theorem Zr_callVR (C : zX p s m args meth c own cc nL ret D K A) {y : MethodName} {b : ByteArray} {nLc n idx ci a1 b1 fr lo : Nat} {Cn : String} {T : u_T} {N : Nat} {retc : Option FieldType} {ds : List (Option zI)} {st0 As : List Value} {v : Value} {Rel : zSt → Prop} (cw : zCV own idx Cn y b nLc retc n) (hM : zMet l y b nLc retc { frames := fr, cells := 0, slots := 0, locals := lo } D K IL sh ad S (.ref (ad (a1, b1)) :: As) (zR (some v) sh ad Rel)) (hm : (a1, b1) ∈ IL) (hs : sh (a1, b1) = .inl (ci, ds)) (hc : vwCl[ci]? = some (Cn, T, N)) (hst : st0 = As.reverse ++ .ref (ad (a1, b1)) :: st) (hfr : fr + 1 ≤ R.frames) (hlo : 8 + (nLc + 11) + lo ≤ R.locals) (hn : As.length = n) (hcat : (st.map fun v => v.category).sum ≤ 8) (hd : decode cc pc = .ok (.invokevirtual idx, 3)) (hroom : cells ≤ R.cells ∧ slots ≤ R.slots) (kk : ∀ S' : zSt, Rel S' → Z p l e R s m args below meth c D A nL Q IL cells slots sh ad S' (pc + 3) lv (v :: st)) : Z p l e R s m args below meth c D A nL Q IL cells slots sh ad S (pc) (lv) (st0) := by
  refine Zr_invV C As cw hM hm hs hc hst hfr hlo hn hcat hd hroom (fun v sh' ad' S' hp => ?_)
  obtain ⟨rfl, rfl, rfl, hp⟩ := hp
  exact kk S' hp
theorem Zr_callVRv (C : zX p s m args meth c own cc nL ret D K A) {y : MethodName} {b : ByteArray} {nLc n idx ci a1 b1 fr lo : Nat} {Cn : String} {T : u_T} {N : Nat} {retc : Option FieldType} {ds : List (Option zI)} {st0 As : List Value} {Rel : zSt → Prop} (cw : zCV own idx Cn y b nLc retc n) (hM : zMet l y b nLc retc { frames := fr, cells := 0, slots := 0, locals := lo } D K IL sh ad S (.ref (ad (a1, b1)) :: As) (zR (none) sh ad Rel)) (hm : (a1, b1) ∈ IL) (hs : sh (a1, b1) = .inl (ci, ds)) (hc : vwCl[ci]? = some (Cn, T, N)) (hst : st0 = As.reverse ++ .ref (ad (a1, b1)) :: st) (hfr : fr + 1 ≤ R.frames) (hlo : 8 + (nLc + 11) + lo ≤ R.locals) (hn : As.length = n) (hcat : (st.map fun v => v.category).sum ≤ 8) (hd : decode cc pc = .ok (.invokevirtual idx, 3)) (hroom : cells ≤ R.cells ∧ slots ≤ R.slots) (kk : ∀ S' : zSt, Rel S' → Z p l e R s m args below meth c D A nL Q IL cells slots sh ad S' (pc + 3) lv (st)) : Z p l e R s m args below meth c D A nL Q IL cells slots sh ad S (pc) (lv) (st0) := by
  refine Zr_invV C As cw hM hm hs hc hst hfr hlo hn hcat hd hroom (fun v sh' ad' S' hp => ?_)
  obtain ⟨rfl, rfl, rfl, hp⟩ := hp
  exact kk S' hp
end ZZ
