/-! ===== NEW CELLS ===== -/
def zNo (N : zI → Prop) (x : (Nat × List (Option zI)) ⊕ (ClassId × Nat × Option (Nat → Option zI))) : Prop := match x with
  | .inl y => ∀ j, some j ∈ y.2 → ¬ N j
  | .inr (_, _, none) => True
  | .inr (_, _, some f) => ∀ k j, f k = some j → ¬ N j
theorem zfl_no {ad ad' : zAd} {g : Nat → Int32} : ∀ {ds : List (Option zI)} {j : Nat}, (∀ i, some i ∈ ds → ad' i = ad i ∨ i.1 = 99) → zfl ad' g j ds = zfl ad g j ds
  | [], j, _ => rfl
  | none :: ds, j, h => by
    simp only [zfl]
    rw [zfl_no (ds := ds) (fun i hi => h i (List.mem_cons_of_mem _ hi))]
  | some i :: ds, j, h => by
    simp only [zfl]
    rw [zfl_no (ds := ds) (fun i hi => h i (List.mem_cons_of_mem _ hi))]
    rcases h i List.mem_cons_self with h1 | h1
    · rw [h1]
    · rw [if_pos h1, if_pos h1]
theorem zpic_no {N : zI → Prop} {sh sh' : zSh} {ad ad' : zAd} {S S' : zSt} {i : zI} (h1 : sh' i = sh i) (h2 : S' i.1 i.2 = S i.1 i.2) (h3 : ∀ j, ¬ N j → ad' j = ad j) (h4 : zNo N (sh i)) : zpic sh' ad' S' i = zpic sh ad S i := by
  simp only [zpic, h1, h2]
  cases hx : sh i with
  | inl y =>
    rw [hx] at h4
    dsimp only
    rw [zfl_no (fun j hj => Or.inl (h3 j (h4 j hj)))]
  | inr y =>
    obtain ⟨cA, n, f⟩ := y
    cases f with
    | none => rfl
    | some f =>
      rw [hx] at h4
      dsimp only
      congr 7
      funext k
      cases hf : f k with
      | none => rfl
      | some j => exact congrArg some (h3 j (h4 k j hf))
theorem zpic_objE {sh : zSh} {ad : zAd} {S : zSt} {i : zI} {ci : Nat} {ds : List (Option zI)} {g : Nat → Int32} (h : sh i = .inl (ci, ds)) (hg : S i.1 i.2 = g) : zpic sh ad S i = .inr (ci, zfl ad g 0 ds) := by
  rw [zpic_obj h, hg]
/-- one cell more, of the shape x, all its numbers 0 -/
def zNew (i0 : zI) (x : (Nat × List (Option zI)) ⊕ (ClassId × Nat × Option (Nat → Option zI))) (sh : zSh) (ad : zAd) (S : zSt) (sh' : zSh) (ad' : zAd) (S' : zSt) : Prop := sh' i0 = x ∧ S' i0.1 i0.2 = (fun _ => 0) ∧ ∀ i, i ≠ i0 → sh' i = sh i ∧ ad' i = ad i ∧ S' i.1 i.2 = S i.1 i.2
theorem zGrow {D : va_G} {A : Nat → Prop} {IL : List zI} {sh sh' : zSh} {ad ad' : zAd} {S S' : zSt} {H1 : Heap} {i0 : zI} {q : Nat} {e : va_E} {IL2 : List zI} (hP1 : va_P D vwCl (zws IL sh ad S ++ [(q, e)]) H1) (hD1 : va_D A (zws IL sh ad S ++ [(q, e)])) (hq : ad' i0 = q) (he : zpic sh' ad' S' i0 = e) (hk : ∀ i ∈ IL, ad' i = ad i ∧ zpic sh' ad' S' i = zpic sh ad S i) (hn : IL2.Nodup) (h2 : ∀ i ∈ IL2, i = i0 ∨ i ∈ IL) : va_P D vwCl (zws IL2 sh' ad' S') H1 ∧ va_D A (zws IL2 sh' ad' S') := by
  have e : zws IL sh ad S ++ [(q, e)] = zws (IL ++ [i0]) sh' ad' S' := by
    simp only [zws, List.map_append, List.map_cons, List.map_nil, hq, he]
    congr 1
    apply List.map_congr_left
    intro i hi
    rw [(hk i hi).1, (hk i hi).2]
  rw [e] at hP1 hD1
  have hm : ∀ i ∈ IL2, i ∈ IL ++ [i0] := fun i hi => by
    rcases h2 i hi with rfl | h
    · simp
    · exact List.mem_append_left _ h
  exact ⟨zP_iff.mpr fun i hi => zP_iff.mp hP1 i (hm i hi), zD_of hn (fun i hi j hj h => zD_1 hD1 i (hm i hi) j (hm j hj) h) (fun i hi => zD_2 hD1 i (hm i hi))⟩
section ZN
variable {p : Program} {l : Launch} {e : Env} {R : Room} {s : State} {m : MethodId} {args : Array Value} {below : List Frame} {meth : Method} {c : Code} {Q : State → Prop} {cells slots : Nat}
variable {own : String} {cc : ByteArray} {nL : Nat} {ret : Option FieldType} {D : va_G} {K : zKs} {A : Nat → Prop} {IL : List zI} {sh : zSh} {ad : zAd} {S : zSt} {pc : Nat} {lv : List (Option Value)} {st : List Value}
/-- the functions behind a new cell -/
theorem zNew.mk {i0 : zI} {q : Nat} {x : (Nat × List (Option zI)) ⊕ (ClassId × Nat × Option (Nat → Option zI))} : zNew i0 x sh ad S (fun i => if i = i0 then x else sh i) (fun i => if i = i0 then q else ad i) (fun a b => if (a, b) = i0 then fun _ => 0 else S a b) := by
  refine ⟨by simp, by simp, fun i hi => ⟨by simp [hi], by simp [hi], ?_⟩⟩
  show (if (i.1, i.2) = i0 then _ else _) = _
  rw [if_neg hi]
theorem zNew.keep {i0 : zI} {x : (Nat × List (Option zI)) ⊕ (ClassId × Nat × Option (Nat → Option zI))} {sh' : zSh} {ad' : zAd} {S' : zSt} (h : zNew i0 x sh ad S sh' ad' S') (hi0 : i0 ∉ IL) (hno : ∀ i ∈ IL, zNo (fun j => j = i0) (sh i)) : ∀ i ∈ IL, ad' i = ad i ∧ zpic sh' ad' S' i = zpic sh ad S i := by
  intro i hi
  have hne : i ≠ i0 := fun h => hi0 (h ▸ hi)
  obtain ⟨g1, g2, g3⟩ := h.2.2 i hne
  exact ⟨g2, zpic_no g1 g3 (fun j hj => (h.2.2 j hj).2.1) (hno i hi)⟩
def zNewW (own : String) (idx ci N : Nat) (ds : List (Option zI)) : Prop := ∀ {p : Program} {l : Launch} {e : Env} {R : Room} {s : State} {m : MethodId} {args : Array Value} {below : List Frame} {meth : Method} {c : Code} {Q : State → Prop} {cells slots : Nat} {cc : ByteArray} {nL : Nat} {ret : Option FieldType} {D : va_G} {K : zKs} {A : Nat → Prop} {H : Heap} {locs : List Loc} {pc : Nat} {ls : Array Slot} {rest : List Value} {ws : va_W}, zX p s m args meth c own cc nL ret D K A → va_P D vwCl ws H → va_D A ws → va_S A s.heap H locs → cells + 1 ≤ R.cells → slots + N ≤ R.slots → decode cc pc = .ok (.new idx, 3) → (∀ (q : Nat) (H1 : Heap), va_P D vwCl (ws ++ [(q, .inr (ci, zfl (fun _ => 0) (fun _ => 0) 0 ds))]) H1 → va_D A (ws ++ [(q, .inr (ci, zfl (fun _ => 0) (fun _ => 0) 0 ds))]) → va_S A s.heap H1 locs → W p l e R s m args below meth c H1 locs (cells + 1) (slots + N) Q (F0 m (pc + 3) ls (.ref q :: rest))) → W p l e R s m args below meth c H locs cells slots Q (F0 m pc ls rest)
theorem zNewW.of {idx ci N : Nat} {Cn : String} {T : u_T} {tys : Nat → FieldType} {ds : List (Option zI)} (hc : vwCl[ci]? = some (Cn, T, N)) (hin : ∀ w ∈ u_ws Cn T N, w ∈ zgw) (hty : ∀ k, k < N → parseFieldDescriptor (T k).2.2.1 = some (tys k)) (h1 : Cond.classLink own idx Cn ∈ zgw) (h2 : Cond.instantiable Cn N ∈ zgw) (h3 : Cond.initialized Cn ∈ zgw) (hfs : ∀ j, j < N → defaultValue (tys j) = vp_V (zfl (fun _ => 0) (fun _ => 0) 0 ds) j) : zNewW own idx ci N ds := by
  intro p l e R s m args below meth c Q cells slots cc nL ret D K A H locs pc ls rest ws C hP hD hS hcl hsl hd k
  exact va_new (Ts := zgw) C.1.1 C.1.2.1 C.1.2.2.2.2 hin tys hty C.1.2.2.2.1 (C.1.2.2.2.2 _ h1) (C.1.2.2.2.2 _ h2) (C.1.2.2.2.2 _ h3) C.2.1.1 hP hD hS C.2.2.1 hc hfs hcl hsl hd k
theorem Zr_new (C : zX p s m args meth c own cc nL ret D K A) {idx ci N : Nat} {ds : List (Option zI)} (g : zNewW own idx ci N ds) (i0 : zI) (IL2 : List zI) (h99 : ∀ j, some j ∈ ds → j.1 = 99) (hi0 : i0 ∉ IL) (hno : ∀ i ∈ IL, zNo (fun j => j = i0) (sh i)) (hn : IL2.Nodup) (h2 : ∀ i ∈ IL2, i = i0 ∨ i ∈ IL) (hcl : cells + 1 ≤ R.cells) (hsl : slots + N ≤ R.slots) (hd : decode cc pc = .ok (.new idx, 3)) (k : ∀ (sh' : zSh) (ad' : zAd) (S' : zSt), zNew i0 (.inl (ci, ds)) sh ad S sh' ad' S' → Z p l e R s m args below meth c D A nL Q IL2 (cells + 1) (slots + N) sh' ad' S' (pc + 3) lv (.ref (ad' i0) :: st)) : Z p l e R s m args below meth c D A nL Q IL cells slots sh ad S pc lv st := by
  intro H locs ls hP hD hS hl
  refine g C hP hD hS hcl hsl hd (fun q H1 hP1 hD1 hS1 => ?_)
  have hN : zNew i0 (.inl (ci, ds)) sh ad S (fun i => if i = i0 then .inl (ci, ds) else sh i) (fun i => if i = i0 then q else ad i) (fun a b => if (a, b) = i0 then fun _ => 0 else S a b) := zNew.mk
  have hg := zGrow hP1 hD1 (i0 := i0) (ad' := fun i => if i = i0 then q else ad i) (sh' := fun i => if i = i0 then .inl (ci, ds) else sh i) (S' := fun a b => if (a, b) = i0 then fun _ => 0 else S a b) (by simp) ((zpic_objE hN.1 hN.2.1).trans (by rw [zfl_no (fun j hj => Or.inr (h99 j hj))])) (hN.keep hi0 hno) hn h2
  have hk := k _ _ _ hN H1 locs ls hg.1 hg.2 hS1 hl
  rw [if_pos rfl] at hk
  exact hk
theorem Zr_newI (C : zX p s m args meth c own cc nL ret D K A) {N : Nat} {n : Int32} (i0 : zI) (IL2 : List zI) (hi0 : i0 ∉ IL) (hno : ∀ i ∈ IL, zNo (fun j => j = i0) (sh i)) (hn : IL2.Nodup) (h2 : ∀ i ∈ IL2, i = i0 ∨ i ∈ IL) (hn0 : ¬ n < 0) (hN : n.toNatClampNeg = N) (hbytes : N * 4 ≤ 536870912) (hcl : cells + 1 ≤ R.cells) (hsl : slots + N ≤ R.slots) (hd : decode cc pc = .ok (.newarray .int, 2)) (k : ∀ (sh' : zSh) (ad' : zAd) (S' : zSt), zNew i0 (.inr (K.1, N, none)) sh ad S sh' ad' S' → Z p l e R s m args below meth c D A nL Q IL2 (cells + 1) (slots + N) sh' ad' S' (pc + 2) lv (.ref (ad' i0) :: st)) : Z p l e R s m args below meth c D A nL Q IL cells slots sh ad S pc lv (.int n :: st) := by
  obtain ⟨a, b⟩ := i0
  refine Zr_newa C (at' := .int) (ty := .int) (a := a) (b := b) 0 rfl rfl zra_int rfl wArrI hi0 (fun i hi q => ((zNew.mk (q := q)).keep hi0 hno i hi).2) hn0 hN hbytes hcl hsl hd (fun q => ?_)
  have hk := k _ _ _ (zNew.mk (q := q))
  rw [if_pos rfl] at hk
  exact Zr_re hn id (fun i hi => by rcases h2 i hi with rfl | h <;> simp [*]) (fun _ _ _ _ h => h) (fun _ _ => rfl) (fun _ _ => rfl) hk
theorem Zr_newZ (C : zX p s m args meth c own cc nL ret D K A) {N : Nat} {n : Int32} (i0 : zI) (IL2 : List zI) (hi0 : i0 ∉ IL) (hno : ∀ i ∈ IL, zNo (fun j => j = i0) (sh i)) (hn : IL2.Nodup) (h2 : ∀ i ∈ IL2, i = i0 ∨ i ∈ IL) (hn0 : ¬ n < 0) (hN : n.toNatClampNeg = N) (hbytes : N * 1 ≤ 536870912) (hcl : cells + 1 ≤ R.cells) (hsl : slots + N ≤ R.slots) (hd : decode cc pc = .ok (.newarray .boolean, 2)) (k : ∀ (sh' : zSh) (ad' : zAd) (S' : zSt), zNew i0 (.inr (K.2.1, N, none)) sh ad S sh' ad' S' → Z p l e R s m args below meth c D A nL Q IL2 (cells + 1) (slots + N) sh' ad' S' (pc + 2) lv (.ref (ad' i0) :: st)) : Z p l e R s m args below meth c D A nL Q IL cells slots sh ad S pc lv (.int n :: st) := by
  obtain ⟨a, b⟩ := i0
  refine Zr_newa C (at' := .boolean) (ty := .boolean) (a := a) (b := b) 1 rfl rfl zra_bool rfl wArrZ hi0 (fun i hi q => ((zNew.mk (q := q)).keep hi0 hno i hi).2) hn0 hN hbytes hcl hsl hd (fun q => ?_)
  have hk := k _ _ _ (zNew.mk (q := q))
  rw [if_pos rfl] at hk
  exact Zr_re hn id (fun i hi => by rcases h2 i hi with rfl | h <;> simp [*]) (fun _ _ _ _ h => h) (fun _ _ => rfl) (fun _ _ => rfl) hk
theorem Zr_newq (C : zX p s m args meth c own cc nL ret D K A) {N idx : Nat} {n : Int32} {Cn : String} {cA : ClassId} (t0 : Nat) (i0 : zI) (IL2 : List zI) (ht : (ztys K)[t0]? = some (cA, .object Cn)) (hw : Cond.classLink own idx Cn ∈ zgw) (hw2 : Cond.arrayOver (.object Cn) ∈ znw) (hi0 : i0 ∉ IL) (hno : ∀ i ∈ IL, zNo (fun j => j = i0) (sh i)) (hn : IL2.Nodup) (h2 : ∀ i ∈ IL2, i = i0 ∨ i ∈ IL) (hn0 : ¬ n < 0) (hN : n.toNatClampNeg = N) (hbytes : N * 4 ≤ 536870912) (hcl : cells + 1 ≤ R.cells) (hsl : slots + N ≤ R.slots) (hd : decode cc pc = .ok (.anewarray idx, 3)) (k : ∀ (sh' : zSh) (ad' : zAd) (S' : zSt), zNew i0 (.inr (cA, N, some (fun _ => none))) sh ad S sh' ad' S' → Z p l e R s m args below meth c D A nL Q IL2 (cells + 1) (slots + N) sh' ad' S' (pc + 3) lv (.ref (ad' i0) :: st)) : Z p l e R s m args below meth c D A nL Q IL cells slots sh ad S pc lv (.int n :: st) := by
  intro H locs ls hP hD hS hl
  refine va_newq C.1.1 C.1.2.1 C.1.2.2.2.1 (C.1.2.2.2.2 _ hw) (va_AO.of (C.2.1.2 _ hw2)) C.2.1.1 hP hD hS C.2.2.1 hn0 hN hbytes hcl hsl hd (fun q cB H1 hK1 hP1 hD1 hS1 => ?_)
  have hcB : cB = cA := by
    obtain ⟨-, -, -, -, -, e1⟩ := (hK1.2 (ztys K).length (cB, .object Cn) (by simp)).2
    obtain ⟨-, -, -, -, -, e2⟩ := (C.2.1.1.2 t0 _ ht).2
    exact Option.some.inj (e1.symm.trans e2)
  subst hcB
  have hNw : zNew i0 (.inr (cB, N, some (fun _ => none))) sh ad S (fun i => if i = i0 then .inr (cB, N, some (fun _ => none)) else sh i) (fun i => if i = i0 then q else ad i) (fun a b => if (a, b) = i0 then fun _ => 0 else S a b) := zNew.mk
  have hg := zGrow hP1 hD1 (i0 := i0) (ad' := fun i => if i = i0 then q else ad i) (sh' := fun i => if i = i0 then .inr (cB, N, some (fun _ => none)) else sh i) (S' := fun a b => if (a, b) = i0 then fun _ => 0 else S a b) (by simp) (by rw [zpic_ref hNw.1]; rfl) (hNw.keep hi0 hno) hn h2
  have hk := k _ _ _ hNw H1 locs ls hg.1 hg.2 hS1 hl
  rw [if_pos rfl] at hk
  exact hk
/-- a reference, or none, into an array of references -/
theorem Zr_aast (C : zX p s m args meth c own cc nL ret D K A) {a b n x0 v i ci : Nat} {cA : ClassId} {r : vw_C} {f : Nat → Option zI} {ds : List (Option zI)} (t0 : Nat) (j : zI) (hm : (a, b) ∈ IL) (hx0 : x0 = ad (a, b)) (hs : sh (a, b) = .inr (cA, n, some f)) (ht : (ztys K)[t0]? = some (cA, .object r.1)) (hj : j ∈ IL) (hv : v = ad j) (hsj : sh j = .inl (ci, ds)) (hc : vwCl[ci]? = some r) (hi : i < n) (hn : n < 2 ^ 31) (hd : decode cc pc = .ok (.aastore, 1)) (k : Z p l e R s m args below meth c D A nL Q IL cells slots (fun x => if x = (a, b) then .inr (cA, n, some (fun y => if y = i then some j else f y)) else sh x) ad S (pc + 1) lv st) : Z p l e R s m args below meth c D A nL Q IL cells slots sh ad S pc lv (.ref v :: .int (nI i) :: .ref x0 :: st) := by
  subst hx0
  subst hv
  intro H locs ls hP hD hS hl
  obtain ⟨q, hk, hq⟩ := zws_at (sh := sh) (ad := ad) (S := S) hm
  obtain ⟨q2, -, hq2⟩ := zws_at (sh := sh) (ad := ad) (S := S) hj
  rw [zpic_ref hs] at hq
  rw [zpic_obj hsj] at hq2
  refine va_astq C.1.1 C.1.2.1 C.2.1.1 hP hD hS q t0 q2 ci hq ht hq2 hc (nI_in (by omega) hn) hd (fun H1 locs1 hP1 hD1 hS1 => ?_)
  rw [nI_clamp (by omega)] at hP1 hD1
  rw [zws_set (sh' := fun x => if x = (a, b) then .inr (cA, n, some (fun y => if y = i then some j else f y)) else sh x) (S' := S) hD hk (by
    simp only [zpic, if_true]
    congr 7
    funext y
    simp only [va_up]
    split <;> rfl) (fun i hi => by simp [zpic, hi])] at hP1 hD1
  exact k H1 locs1 ls hP1 hD1 hS1 hl
theorem Zr_aastN (C : zX p s m args meth c own cc nL ret D K A) {a b n x0 i : Nat} {cA : ClassId} {Cn : String} {f : Nat → Option zI} (t0 : Nat) (hm : (a, b) ∈ IL) (hx0 : x0 = ad (a, b)) (hs : sh (a, b) = .inr (cA, n, some f)) (ht : (ztys K)[t0]? = some (cA, .object Cn)) (hi : i < n) (hn : n < 2 ^ 31) (hf : f i = none) (hd : decode cc pc = .ok (.aastore, 1)) (k : Z p l e R s m args below meth c D A nL Q IL cells slots sh ad S (pc + 1) lv st) : Z p l e R s m args below meth c D A nL Q IL cells slots sh ad S pc lv (.null :: .int (nI i) :: .ref x0 :: st) := by
  subst hx0
  intro H locs ls hP hD hS hl
  obtain ⟨q, hk, hq⟩ := zws_at (sh := sh) (ad := ad) (S := S) hm
  rw [zpic_ref hs] at hq
  refine va_astqN C.1.1 C.1.2.1 C.2.1.1 hP hD hS q t0 hq ht (nI_in (by omega) hn) hd (fun H1 locs1 hP1 hD1 hS1 => ?_)
  rw [nI_clamp (by omega)] at hP1 hD1
  rw [zws_set (sh' := sh) (S' := S) hD hk (by
    rw [zpic_ref hs]
    congr 7
    funext y
    simp only [va_up]
    split
    · rename_i h
      rw [h, hf]
      rfl
    · rfl) (fun i hi => rfl)] at hP1 hD1
  exact k H1 locs1 ls hP1 hD1 hS1 hl
/-- java.lang.Object's constructor, Math.min, Math.max -/
theorem Zr_obj (C : zX p s m args meth c own cc nL ret D K A) {idx a : Nat} (h1 : Cond.methodLink own idx Lib.objectInit ∈ zgw) (h2 : Cond.instanceMethod Lib.objectInit ∈ zgw) (h3 : Cond.code Lib.objectInit ⟨#[0xb1]⟩ 1 none ∈ zgw) (hf : 1 ≤ R.frames) (hlo : (st.map fun v => v.category).sum + 12 ≤ R.locals) (hd : decode cc pc = .ok (.invokespecial idx, 3)) (k : Z p l e R s m args below meth c D A nL Q IL cells slots sh ad S (pc + 3) lv st) : Z p l e R s m args below meth c D A nL Q IL cells slots sh ad S pc lv (.ref a :: st) := fun H locs ls hP hD hS hl => W.objInit C.1.1 C.1.2.1 C.1.2.2.2.1 (C.1.2.2.2.2 _ h1) (C.1.2.2.2.2 _ h2) (C.1.2.2.2.2 _ h3) rfl (hl.1.1.trans C.1.2.2.1.symm) rfl hd hf (by show 2 * 0 + _ + 12 ≤ _; omega) (k H locs ls hP hD hS hl)
theorem Zr_mmin (C : zX p s m args meth c own cc nL ret D K A) {idx : Nat} {x y : Int32} (h1 : Cond.methodLink own idx Lib.Math.min.name ∈ zgw) (h2 : Cond.static Lib.Math.min.name ∈ zgw) (h3 : Cond.initialized "java/lang/Math" ∈ zgw) (h4 : Cond.code Lib.Math.min.name Lib.Math.min.code 2 (some .int) ∈ zgw) (hf : 1 ≤ R.frames) (hlo : (st.map fun v => v.category).sum + 13 ≤ R.locals) (hc : cells ≤ R.cells) (hs : slots ≤ R.slots) (hd : decode cc pc = .ok (.invokestatic idx, 3)) (k : Z p l e R s m args below meth c D A nL Q IL cells slots sh ad S (pc + 3) lv (.int (if y < x then y else x) :: st)) : Z p l e R s m args below meth c D A nL Q IL cells slots sh ad S pc lv (.int y :: .int x :: st) := fun H locs ls hP hD hS hl => va_mmin C.1.1 C.1.2.1 (C.1.2.2.1.trans hl.1.1.symm) C.1.2.2.2.1 (C.1.2.2.2.2 _ h1) (C.1.2.2.2.2 _ h2) (C.1.2.2.2.2 _ h3) (C.1.2.2.2.2 _ h4) hf hlo hc hs hd (k H locs ls hP hD hS hl)
theorem Zr_mmax (C : zX p s m args meth c own cc nL ret D K A) {idx : Nat} {x y : Int32} (h1 : Cond.methodLink own idx Lib.Math.max.name ∈ zgw) (h2 : Cond.static Lib.Math.max.name ∈ zgw) (h3 : Cond.initialized "java/lang/Math" ∈ zgw) (h4 : Cond.code Lib.Math.max.name Lib.Math.max.code 2 (some .int) ∈ zgw) (hf : 1 ≤ R.frames) (hlo : (st.map fun v => v.category).sum + 13 ≤ R.locals) (hc : cells ≤ R.cells) (hs : slots ≤ R.slots) (hd : decode cc pc = .ok (.invokestatic idx, 3)) (k : Z p l e R s m args below meth c D A nL Q IL cells slots sh ad S (pc + 3) lv (.int (if x < y then y else x) :: st)) : Z p l e R s m args below meth c D A nL Q IL cells slots sh ad S pc lv (.int y :: .int x :: st) := fun H locs ls hP hD hS hl => va_mmax C.1.1 C.1.2.1 (C.1.2.2.1.trans hl.1.1.symm) C.1.2.2.2.1 (C.1.2.2.2.2 _ h1) (C.1.2.2.2.2 _ h2) (C.1.2.2.2.2 _ h3) (C.1.2.2.2.2 _ h4) hf hlo hc hs hd (k H locs ls hP hD hS hl)
/-- a final number -/
def zPutI (own : String) (idx ci f : Nat) (ty : FieldType) : Prop := ∀ {p : Program} {l : Launch} {e : Env} {R : Room} {s : State} {m : MethodId} {args : Array Value} {below : List Frame} {meth : Method} {c : Code} {Q : State → Prop} {cells slots : Nat} {cc : ByteArray} {nL : Nat} {ret : Option FieldType} {D : va_G} {K : zKs} {A : Nat → Prop} {H : Heap} {locs : List Loc} {pc : Nat} {ls : Array Slot} {rest : List Value} {ws : va_W} {q0 a : Nat} {x : Int32} {fs : List Value}, zX p s m args meth c own cc nL ret D K A → meth.name = "<init>" → va_P D vwCl ws H → va_D A ws → va_S A s.heap H locs → ws[q0]? = some (a, .inr (ci, fs)) → narrow ty (.int x) = .int x → fits ty (.int x) = true → f < fs.length → decode cc pc = .ok (.putfield idx, 3) → (∀ (H1 : Heap) (locs1 : List Loc), va_P D vwCl (ws.set q0 (a, .inr (ci, fs.set f (.int x)))) H1 → va_D A (ws.set q0 (a, .inr (ci, fs.set f (.int x)))) → va_S A s.heap H1 locs1 → W p l e R s m args below meth c H1 locs1 cells slots Q (F0 m (pc + 3) ls rest)) → W p l e R s m args below meth c H locs cells slots Q (F0 m pc ls (.int x :: .ref a :: rest))
theorem zPut.ofF {idx ci f : Nat} {Cn ref : String} {T : u_T} {N : Nat} {ty : FieldType} {tys : Nat → FieldType} (hc : vwCl[ci]? = some (Cn, T, N)) (hk : f < N) (hin : ∀ w ∈ u_ws Cn T N, w ∈ zgw) (hty : ∀ k, k < N → parseFieldDescriptor (T k).2.2.1 = some (tys k)) (hnm : ∀ a, a < N → ∀ b, b < N → a ≠ b → (T a).2.1 ≠ (T b).2.1) (hw : Cond.fieldLink own idx ref (T f).2.1 (T f).2.2.1 ∈ zgw) (hr : (T f).1 = ref) (hro : ref = own) (hfin : (T f).2.2.2 = true) (ht : tys f = ty) : zPutI own idx ci f ty := by
  intro p l e R s m args below meth c Q cells slots cc nL ret D K A H locs pc ls rest ws q0 a v fs C hini hP hD hS he hn hfit hl hd k
  exact va_putF (Ts := zgw) C.1.1 C.1.2.1 C.1.2.2.2.2 hin tys hty hnm C.1.2.2.2.1 C.2.1.1 hP hD hS q0 he hc f hk (C.1.2.2.2.2 _ hw) (fun x hx => by rw [← hr]; exact hx) hfin hini (hr.trans hro) (by rw [hty f hk, ht]) hn hfit hl hd k
theorem Zr_putI (C : zX p s m args meth c own cc nL ret D K A) {idx ci f a b x0 : Nat} {ty : FieldType} {x : Int32} {ds : List (Option zI)} (g : zPutI own idx ci f ty) (hini : meth.name = "<init>") (hm : (a, b) ∈ IL) (hx0 : x0 = ad (a, b)) (hs : sh (a, b) = .inl (ci, ds)) (hf : ds[f]? = some none) (hn : narrow ty (.int x) = .int x ∧ fits ty (.int x) = true) (hd : decode cc pc = .ok (.putfield idx, 3)) (k : Z p l e R s m args below meth c D A nL Q IL cells slots sh ad (z3 S a b f x) (pc + 3) (lv) (st)) : Z p l e R s m args below meth c D A nL Q IL cells slots sh ad S (pc) (lv) (.int x :: .ref x0 :: st) := by
  subst hx0
  intro H locs ls hP hD hS hl
  obtain ⟨q, hk, hq⟩ := zws_at (sh := sh) (ad := ad) (S := S) hm
  rw [zpic_obj hs] at hq
  refine g C hini hP hD hS hq hn.1 hn.2 (by rw [zfl_len]; exact (List.getElem?_eq_some_iff.mp hf).1) hd (fun H1 locs1 hP1 hD1 hS1 => ?_)
  rw [zws_set hD hk (zpic_put hs hf) (fun j hj => zpic_ne (i := (a, b)) hj)] at hP1 hD1
  exact k H1 locs1 ls hP1 hD1 hS1 hl
end ZN
