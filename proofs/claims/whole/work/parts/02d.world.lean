/-! ===== MOVING FROM WORLD TO WORLD ===== -/
theorem zP_iff {D : va_G} {IL : List zI} {sh : zSh} {ad : zAd} {S : zSt} {H : Heap} : va_P D vwCl (zws IL sh ad S) H ↔ ∀ i ∈ IL, va_at D vwCl (ad i, zpic sh ad S i) H := by
  constructor
  · intro h i hi
    obtain ⟨k, -, hk⟩ := zws_at (sh := sh) (ad := ad) (S := S) hi
    exact h k _ hk
  · intro h k q hk
    simp only [zws, List.getElem?_map, Option.map_eq_some_iff] at hk
    obtain ⟨i, hi, rfl⟩ := hk
    exact h i (List.mem_of_getElem? hi)
theorem zD_of {A : Nat → Prop} {IL : List zI} {sh : zSh} {ad : zAd} {S : zSt} (hn : IL.Nodup) (h1 : ∀ i ∈ IL, ∀ j ∈ IL, ad i = ad j → i = j) (h2 : ∀ i ∈ IL, A (ad i)) : va_D A (zws IL sh ad S) := by
  refine ⟨fun x y p q hx hy hpq => ?_, fun k q hk => ?_⟩
  · simp only [zws, List.getElem?_map, Option.map_eq_some_iff] at hx hy
    obtain ⟨i, hi, rfl⟩ := hx
    obtain ⟨j, hj, rfl⟩ := hy
    have hij := h1 i (List.mem_of_getElem? hi) j (List.mem_of_getElem? hj) hpq
    subst hij
    have hxl := (List.getElem?_eq_some_iff.mp hi).1
    exact (List.getElem?_inj hxl hn).mp (hi.trans hj.symm)
  · simp only [zws, List.getElem?_map, Option.map_eq_some_iff] at hk
    obtain ⟨i, hi, rfl⟩ := hk
    exact h2 i (List.mem_of_getElem? hi)
theorem zD_1 {A : Nat → Prop} {IL : List zI} {sh : zSh} {ad : zAd} {S : zSt} (h : va_D A (zws IL sh ad S)) : ∀ i ∈ IL, ∀ j ∈ IL, ad i = ad j → i = j := by
  intro i hi j hj hij
  obtain ⟨x, hx, hx2⟩ := zws_at (sh := sh) (ad := ad) (S := S) hi
  obtain ⟨y, hy, hy2⟩ := zws_at (sh := sh) (ad := ad) (S := S) hj
  have := h.1 x y _ _ hx2 hy2 hij
  subst this
  rw [hx] at hy
  exact Option.some.inj hy
theorem zD_2 {A : Nat → Prop} {IL : List zI} {sh : zSh} {ad : zAd} {S : zSt} (h : va_D A (zws IL sh ad S)) : ∀ i ∈ IL, A (ad i) := by
  intro i hi
  obtain ⟨x, hx, hx2⟩ := zws_at (sh := sh) (ad := ad) (S := S) hi
  exact h.2 x _ hx2
section ZW
variable {p : Program} {l : Launch} {e : Env} {R : Room} {s : State} {m : MethodId} {args : Array Value} {below : List Frame} {meth : Method} {c : Code} {Q : State → Prop} {cells slots : Nat}
variable {own : String} {cc : ByteArray} {nL : Nat} {ret : Option FieldType} {D : va_G} {K : zKs} {A : Nat → Prop} {IL : List zI} {sh : zSh} {ad : zAd} {S : zSt} {pc : Nat} {lv : List (Option Value)} {st : List Value}
/-- other names for (a part of) the cells -/
theorem Zr_re {IL' : List zI} {sh' : zSh} {ad' : zAd} {S' : zSt} (hn : IL'.Nodup) (φ : zI → zI) (h1 : ∀ i ∈ IL', φ i ∈ IL) (h2 : ∀ i ∈ IL', ∀ j ∈ IL', φ i = φ j → i = j) (h3 : ∀ i ∈ IL', ad' i = ad (φ i)) (h4 : ∀ i ∈ IL', zpic sh' ad' S' i = zpic sh ad S (φ i)) (k : Z p l e R s m args below meth c D A nL Q IL' cells slots sh' ad' S' pc lv st) : Z p l e R s m args below meth c D A nL Q IL cells slots sh ad S pc lv st := by
  intro H locs ls hP hD hS hl
  refine k H locs ls (zP_iff.mpr fun i hi => ?_) (zD_of hn (fun i hi j hj hij => ?_) (fun i hi => ?_)) hS hl
  · rw [h3 i hi, h4 i hi]
    exact zP_iff.mp hP _ (h1 i hi)
  · rw [h3 i hi, h3 j hj] at hij
    exact h2 i hi j hj (zD_1 hD _ (h1 i hi) _ (h1 j hj) hij)
  · rw [h3 i hi]
    exact zD_2 hD _ (h1 i hi)
/-- a new array of numbers, under a new name -/
theorem Zr_newa (C : zX p s m args meth c own cc nL ret D K A) {a b N : Nat} {n : Int32} {at' : ArrayType} {ty : FieldType} {cA : ClassId} (t0 : Nat) (hty : newarray.typeOf at' = ty) (hd0 : defaultValue ty = .int 0) (hra : ∀ (U : State) (cB : ClassId), va_RA U cB ty ↔ U.vm.findClass ("[" ++ ty.toString) = some cB) (ht : (ztys K)[t0]? = some (cA, ty)) (hw : Cond.arrayClass (newarray.typeOf at') ∈ zgw) (hnew : (a, b) ∉ IL) (hsh : ∀ i ∈ IL, ∀ q, zpic (fun i => if i = (a, b) then .inr (cA, N, none) else sh i) (fun i => if i = (a, b) then q else ad i) (fun x y => if (x, y) = (a, b) then fun _ => 0 else S x y) i = zpic sh ad S i) (hn0 : ¬ n < 0) (hN : n.toNatClampNeg = N) (hbytes : N * componentBytes ty ≤ 536870912) (hc : cells + 1 ≤ R.cells) (hs : slots + N ≤ R.slots) (hd : decode cc pc = .ok (.newarray at', 2))
    (k : ∀ q, Z p l e R s m args below meth c D A nL Q (IL ++ [(a, b)]) (cells + 1) (slots + N) (fun i => if i = (a, b) then .inr (cA, N, none) else sh i) (fun i => if i = (a, b) then q else ad i) (fun x y => if (x, y) = (a, b) then fun _ => 0 else S x y) (pc + 2) lv (.ref q :: st)) : Z p l e R s m args below meth c D A nL Q IL cells slots sh ad S pc lv (.int n :: st) := by
  intro H locs ls hP hD hS hl
  refine va_newa C.1.1 C.1.2.1 (C.1.2.2.2.2 _ hw) hty C.2.1.1 hP hD hS C.2.2.1 (a0 := (N, .inl (fun _ => 0))) (fun cB => by rw [vp_cell_i, hd0]) hn0 hN hbytes hc hs hd (fun q cB H1 hK1 hP1 hD1 hS1 => ?_)
  have hcB : cB = cA := by
    have h1 := (hK1.2 (ztys K).length (cB, ty) (by simp)).2
    have h2 := (C.2.1.1.2 t0 _ ht).2
    have e1 := (hra _ _).mp h1
    have e2 := (hra _ _).mp h2
    exact Option.some.inj (e1.symm.trans e2)
  subst hcB
  have e : zws IL sh ad S ++ [(q, Sum.inl (cB, N, Sum.inl (fun _ => (0 : Int32))))] = zws (IL ++ [(a, b)]) (fun i => if i = (a, b) then .inr (cB, N, none) else sh i) (fun i => if i = (a, b) then q else ad i) (fun x y => if (x, y) = (a, b) then fun _ => 0 else S x y) := by
    simp only [zws, List.map_append, List.map_cons, List.map_nil]
    congr 1
    · apply List.map_congr_left
      intro i hi
      have hne : i ≠ (a, b) := fun h => hnew (h ▸ hi)
      rw [hsh i hi q, if_neg hne]
    · simp [zpic]
  rw [e] at hP1 hD1
  exact k q H1 locs ls hP1 hD1 hS1 hl
theorem zra_int (U : State) (cB : ClassId) : va_RA U cB .int ↔ U.vm.findClass ("[" ++ (FieldType.int).toString) = some cB := Iff.rfl
theorem zra_bool (U : State) (cB : ClassId) : va_RA U cB .boolean ↔ U.vm.findClass ("[" ++ (FieldType.boolean).toString) = some cB := Iff.rfl
/-- a reference into a field -/
def zPutR (own : String) (idx ci f : Nat) (ini : Bool) : Prop := ∀ {p : Program} {l : Launch} {e : Env} {R : Room} {s : State} {m : MethodId} {args : Array Value} {below : List Frame} {meth : Method} {c : Code} {Q : State → Prop} {cells slots : Nat} {cc : ByteArray} {nL : Nat} {ret : Option FieldType} {D : va_G} {K : zKs} {A : Nat → Prop} {H : Heap} {locs : List Loc} {pc : Nat} {ls : Array Slot} {rest : List Value} {ws : va_W} {q0 a v : Nat} {fs : List Value}, zX p s m args meth c own cc nL ret D K A → (ini = true → meth.name = "<init>") → va_P D vwCl ws H → va_D A ws → va_S A s.heap H locs → ws[q0]? = some (a, .inr (ci, fs)) → f < fs.length → decode cc pc = .ok (.putfield idx, 3) → (∀ (H1 : Heap) (locs1 : List Loc), va_P D vwCl (ws.set q0 (a, .inr (ci, fs.set f (.ref v)))) H1 → va_D A (ws.set q0 (a, .inr (ci, fs.set f (.ref v)))) → va_S A s.heap H1 locs1 → W p l e R s m args below meth c H1 locs1 cells slots Q (F0 m (pc + 3) ls rest)) → W p l e R s m args below meth c H locs cells slots Q (F0 m pc ls (.ref v :: .ref a :: rest))
theorem zPutR.of {own : String} {idx ci f : Nat} {Cn ref : String} {T : u_T} {N : Nat} {ty : FieldType} {tys : Nat → FieldType} (hc : vwCl[ci]? = some (Cn, T, N)) (hk : f < N) (hin : ∀ w ∈ u_ws Cn T N, w ∈ zgw) (hty : ∀ k, k < N → parseFieldDescriptor (T k).2.2.1 = some (tys k)) (hnm : ∀ a, a < N → ∀ b, b < N → a ≠ b → (T a).2.1 ≠ (T b).2.1) (hw : Cond.fieldLink own idx ref (T f).2.1 (T f).2.2.1 ∈ zgw) (hr : (T f).1 = ref) (hfin : (T f).2.2.2 = false) (ht : tys f = ty) (hnr : ∀ v, narrow ty (.ref v) = .ref v ∧ fits ty (.ref v) = true) : zPutR own idx ci f false := by
  intro p l e R s m args below meth c Q cells slots cc nL ret D K A H locs pc ls rest ws q0 a v fs C _ hP hD hS he hl hd k
  exact va_put (Ts := zgw) C.1.1 C.1.2.1 C.1.2.2.2.2 hin tys hty hnm C.1.2.2.2.1 C.2.1.1 hP hD hS q0 he hc f hk (C.1.2.2.2.2 _ hw) (fun x hx => by rw [← hr]; exact hx) hfin (by rw [hty f hk, ht]) (hnr v).1 (hnr v).2 hl hd k
theorem zPutR.ofF {own : String} {idx ci f : Nat} {Cn ref : String} {T : u_T} {N : Nat} {ty : FieldType} {tys : Nat → FieldType} (hc : vwCl[ci]? = some (Cn, T, N)) (hk : f < N) (hin : ∀ w ∈ u_ws Cn T N, w ∈ zgw) (hty : ∀ k, k < N → parseFieldDescriptor (T k).2.2.1 = some (tys k)) (hnm : ∀ a, a < N → ∀ b, b < N → a ≠ b → (T a).2.1 ≠ (T b).2.1) (hw : Cond.fieldLink own idx ref (T f).2.1 (T f).2.2.1 ∈ zgw) (hr : (T f).1 = ref) (hro : ref = own) (hfin : (T f).2.2.2 = true) (ht : tys f = ty) (hnr : ∀ v, narrow ty (.ref v) = .ref v ∧ fits ty (.ref v) = true) : zPutR own idx ci f true := by
  intro p l e R s m args below meth c Q cells slots cc nL ret D K A H locs pc ls rest ws q0 a v fs C hini hP hD hS he hl hd k
  exact va_putF (Ts := zgw) C.1.1 C.1.2.1 C.1.2.2.2.2 hin tys hty hnm C.1.2.2.2.1 C.2.1.1 hP hD hS q0 he hc f hk (C.1.2.2.2.2 _ hw) (fun x hx => by rw [← hr]; exact hx) hfin (hini rfl) (hr.trans hro) (by rw [hty f hk, ht]) (hnr v).1 (hnr v).2 hl hd k
theorem zfl_setR {ad : zAd} {g : Nat → Int32} {i : zI} (h99 : i.1 ≠ 99) : ∀ {ds : List (Option zI)} {j k : Nat}, k < ds.length → (zfl ad g j ds).set k (.ref (ad i)) = zfl ad g j (ds.set k (some i))
  | [], j, k, h => absurd h (Nat.not_lt_zero _)
  | none :: ds, j, 0, _ => by simp [zfl, h99]
  | some i' :: ds, j, 0, _ => by simp [zfl, h99]
  | none :: ds, j, k + 1, h => by
    simp only [zfl, List.set_cons_succ]
    rw [zfl_setR h99 (by simpa using h)]
  | some i' :: ds, j, k + 1, h => by
    simp only [zfl, List.set_cons_succ]
    rw [zfl_setR h99 (by simpa using h)]
theorem Zr_putR (C : zX p s m args meth c own cc nL ret D K A) {idx ci f a b x0 v : Nat} {ini : Bool} {ds : List (Option zI)} (j : zI) (g : zPutR own idx ci f ini) (hini : ini = true → meth.name = "<init>") (hm : (a, b) ∈ IL) (hx0 : x0 = ad (a, b)) (hv : v = ad j) (h99 : j.1 ≠ 99) (hs : sh (a, b) = .inl (ci, ds)) (hf : f < ds.length) (hd : decode cc pc = .ok (.putfield idx, 3)) (k : Z p l e R s m args below meth c D A nL Q IL cells slots (fun i => if i = (a, b) then .inl (ci, ds.set f (some j)) else sh i) ad S (pc + 3) lv st) : Z p l e R s m args below meth c D A nL Q IL cells slots sh ad S pc lv (.ref v :: .ref x0 :: st) := by
  subst hx0
  subst hv
  intro H locs ls hP hD hS hl
  obtain ⟨q, hk, hq⟩ := zws_at (sh := sh) (ad := ad) (S := S) hm
  rw [zpic_obj hs] at hq
  refine g C hini hP hD hS hq (by rw [zfl_len]; exact hf) hd (fun H1 locs1 hP1 hD1 hS1 => ?_)
  rw [zfl_setR h99 hf] at hP1 hD1
  rw [zws_set (sh' := fun i => if i = (a, b) then .inl (ci, ds.set f (some j)) else sh i) (S' := S) hD hk (by simp [zpic]) (fun i hi => by simp [zpic, hi])] at hP1 hD1
  exact k H1 locs1 ls hP1 hD1 hS1 hl
end ZW
