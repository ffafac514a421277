/-! ===== CALLS THAT MAKE CELLS, AND CALLS INTO A PART OF THE WORLD ===== -/
section ZG
variable {p : Program} {l : Launch} {e : Env} {R : Room} {s : State} {m : MethodId} {args : Array Value} {below : List Frame} {meth : Method} {c : Code} {Q : State → Prop} {cells slots : Nat}
variable {own : String} {cc : ByteArray} {nL : Nat} {ret : Option FieldType} {D : va_G} {K : zKs} {A : Nat → Prop} {IL : List zI} {sh : zSh} {ad : zAd} {S : zSt} {pc : Nat} {lv : List (Option Value)} {st : List Value}
/-- a method that begins in one world and ends in another -/
def zMetG (l : Launch) (y : MethodName) (b : ByteArray) (nL : Nat) (ret : Option FieldType) (rm : Room) (D : va_G) (K : zKs) (IL : List zI) (sh : zSh) (ad : zAd) (S : zSt) (av : List Value) (IL2 : List zI) (post : Option Value → zSh → zAd → zSt → Prop) : Prop :=
  ∀ sz : Nat, Met l y (Cond.code y b nL ret :: zgw) rm (zPre IL sh ad S sz D K av) (zQ post IL2 D (zFr IL sh ad S sz)) rm.cells rm.slots (zFr IL sh ad S sz)
theorem zMet.G {y : MethodName} {b : ByteArray} {rm : Room} {av : List Value} {post : Option Value → zSh → zAd → zSt → Prop} (h : zMet l y b nL ret rm D K IL sh ad S av post) : zMetG l y b nL ret rm D K IL sh ad S av IL post := h
theorem zEnterG {IL2 : List zI} {y : MethodName} {rm : Room} {av : List Value} {post : Option Value → zSh → zAd → zSt → Prop} {lv0 : List (Option Value)} (hy : plainName y.cls = true) (hown : y.cls = own) (hav : ∀ v ∈ av, v.category = 1) (hn : av.length ≤ nL) (hlv : lv0 = av.map some ++ List.replicate (nL - av.length) none)
    (h : ∀ (p : Program) (e : Env) (s : State) (m : MethodId) (below : List Frame) (meth : Method) (c : Code) (A : Nat → Prop), zX p s m av.toArray meth c own cc nL ret D K A → (ret = none ∨ meth.name = y.name) → meth.name = y.name → Z p l e rm s m av.toArray below meth c D A nL (MQ below (zQ post IL2 D A) av.toArray s rm.cells rm.slots A) IL 0 0 sh ad S 0 lv0 []) : zMetG l y cc nL ret rm D K IL sh ad S av IL2 post := by
  intro sz
  refine Met.ofW (cc := cc) (maxL := nL) (ret := ret) hy rfl ?_
  intro p e s m args below meth c s₁ B hml hv
  obtain ⟨rfl, hsz, hP, hK, hD0⟩ := hv
  have hts : ∀ w ∈ (Cond.code y cc nL ret :: zgw), w.before av.toArray s = true := atoms_spec (ws := Cond.code y cc nL ret :: zgw) B.pre
  have hownC : s.vm.findClass own = some m.cls := by rw [← hown]; exact findClass_of_methodNamed B.named
  subst hsz
  have hD := hD0.self (sz := s.heap.size)
  have hA : ∀ q : Nat, s.heap.size ≤ q → zFr IL sh ad S s.heap.size q := fun q h => Or.inr h
  have hnm : meth.name = y.name := (name_of_methodNamed B.named B.method).1
  have C : zX p s m av.toArray meth c own cc nL ret D K (zFr IL sh ad S s.heap.size) := ⟨⟨B.exec, B.bytes, hml, hownC, fun w hw => hts w (List.mem_cons_of_mem _ hw)⟩, hK, hA, B.returns, B.notSynchronized⟩
  have hk := h p e s m below meth c _ C (Or.inr hnm) hnm
  rw [lg_entry_eq]
  have hslen : (lg_sl av).length = av.length ∧ (lv_args 0 av) = zlv lv0 → True := fun _ => trivial
  refine hk s.heap [] _ hP hD va_S.rf ?_
  have hlg : ∀ (vs : List Value), (∀ v ∈ vs, v.category = 1) → lg_sl vs = vs.map Slot.val := by
    intro vs
    induction vs with
    | nil => intro _; rfl
    | cons v vs ih =>
      intro hvs
      have h1 := hvs v List.mem_cons_self
      have h2 := ih (fun x hx => hvs x (List.mem_cons_of_mem _ hx))
      simp only [lg_sl, List.flatMap_cons, List.map_cons] at h2 ⊢
      rw [h2]
      simp [h1]
  rw [hlg av hav, hlv]
  have hmem : ∀ q ∈ zlv (av.map some ++ List.replicate (nL - av.length) none), av[q.1]? = some q.2 := by
    intro q hq
    have h1 := zlv_mem.mp hq
    by_cases hl : q.1 < av.length
    · rw [List.getElem?_append_left (by simpa using hl)] at h1
      simpa using h1
    · rw [List.getElem?_append_right (by simpa using Nat.le_of_not_lt hl)] at h1
      rw [List.getElem?_replicate] at h1
      split at h1 <;> simp at h1
  refine ⟨⟨by simp; omega, ⟨fun i v hi hc => ?_, fun i hi => ?_⟩, fun q hq => ?_⟩, fun q hq => hav _ (List.mem_of_getElem? (hmem q hq))⟩
  · exfalso
    rw [List.getElem?_toArray] at hi
    have hm := List.mem_of_getElem? hi
    rcases List.mem_append.mp hm with hm | hm
    · obtain ⟨w, hw, he⟩ := List.mem_map.mp hm
      cases he
      rw [hav _ hw] at hc
      exact absurd hc (by decide)
    · have := (List.mem_replicate.mp hm).2
      cases this
  · exfalso
    rw [List.getElem?_toArray] at hi
    have hm := List.mem_of_getElem? hi
    rcases List.mem_append.mp hm with hm | hm
    · obtain ⟨w, hw, he⟩ := List.mem_map.mp hm
      cases he
    · have := (List.mem_replicate.mp hm).2
      cases this
  · have h1 := hmem q hq
    have hl := (List.getElem?_eq_some_iff.mp h1).1
    rw [List.getElem?_toArray, List.getElem?_append_left (by simpa using hl)]
    simp [h1]
/-- behind a call into a part of the world -/
theorem zAfterF {post : Option Value → zSh → zAd → zSt → Prop} {H : Heap} {locs : List Loc} {ls : Array Slot} {rest st0 : List Value} {a : Array Value} {mc ms : Nat} {IL1 IL1' : List zI} {sh1 : zSh} {ad1 : zAd} {S1 : zSt} (φ : zI → zI) (C : zX p s m args meth c own cc nL ret D K A) (hP : va_P D vwCl (zws IL sh ad S) H) (hD : va_D A (zws IL sh ad S)) (hS : va_S A s.heap H locs) (hl : zl ls nL lv)
    (hφ : ∀ j ∈ IL1, φ j ∈ IL ∧ ad1 j = ad (φ j))
    (hr : va_Run p l e R s m args below meth c H locs cells slots mc ms (F0 m pc ls st0) rest (zQ post IL1' D (zFr IL1 sh1 ad1 S1 H.size) a) (zFr IL1 sh1 ad1 S1 H.size))
    (kk : ∀ (v : Option Value) (sh' : zSh) (ad' : zAd) (S' : zSt), post v sh' ad' S' → ∃ (IL2 : List zI) (sh2 : zSh) (ad2 : zAd) (S2 : zSt) (cb : zI → Bool) (ψ : zI → zI), IL2.Nodup ∧ (∀ i ∈ IL2, cb i = true → ψ i ∈ IL1' ∧ ad2 i = ad' (ψ i) ∧ zpic sh2 ad2 S2 i = zpic sh' ad' S' (ψ i)) ∧ (∀ i ∈ IL2, ∀ j ∈ IL2, cb i = true → cb j = true → ψ i = ψ j → i = j) ∧ (∀ i ∈ IL2, cb i = false → i ∈ IL ∧ (∀ j ∈ IL1, φ j ≠ i) ∧ ad2 i = ad i ∧ zpic sh2 ad2 S2 i = zpic sh ad S i) ∧ Z p l e R s m args below meth c D A nL Q IL2 (cells + mc) (slots + ms) sh2 ad2 S2 (pc + 3) lv (v.toList ++ rest)) : W p l e R s m args below meth c H locs cells slots Q (F0 m pc ls st0) := by
  intro T hT X
  obtain ⟨v, st₀, t, T', L, h0, X', hL, e1, e2, ⟨⟨v', sh', ad', S', hv, hp, hP', hD'⟩, hz, hk⟩, st⟩ := hr T hT X
  cases hv
  rw [h0] at hz hk
  have hin : ∀ q, zFr IL1 sh1 ad1 S1 H.size q → (∃ j ∈ IL1, q = ad (φ j)) ∨ H.size ≤ q := by
    intro q h
    rcases h with ⟨k, e', h⟩ | h
    · left
      simp only [zws, List.getElem?_map, Option.map_eq_some_iff] at h
      obtain ⟨j, hj, hq⟩ := h
      have hm := List.mem_of_getElem? hj
      exact ⟨j, hm, by rw [← (hφ j hm).2]; exact (congrArg Prod.fst hq).symm⟩
    · exact Or.inr h
  have hF : ∀ q, zFr IL1 sh1 ad1 S1 H.size q → A q := by
    intro q h
    rcases hin q h with ⟨j, hj, rfl⟩ | h
    · exact zD_2 hD _ (hφ j hj).1
    · exact C.2.2.1 q (Nat.le_trans hS.1 h)
  obtain ⟨IL2, sh2, ad2, S2, cb, ψ, hn, h1, h2, h3, hZ⟩ := kk v sh' ad' S' hp
  have hap : ∀ i ∈ IL, (∀ j ∈ IL1, φ j ≠ i) → ad i < H.size ∧ ¬ zFr IL1 sh1 ad1 S1 H.size (ad i) := by
    intro i hi hne
    have hlt : ad i < H.size := (zP_iff.mp hP i hi).lt
    refine ⟨hlt, fun h => ?_⟩
    rcases hin _ h with ⟨j, hj, hq⟩ | h
    · exact hne j hj (zD_1 hD _ hi _ (hφ j hj).1 hq).symm
    · omega
  have hPn : va_P D vwCl (zws IL2 sh2 ad2 S2) T'.heap := by
    rw [e1]
    refine zP_iff.mpr fun i hi => ?_
    cases hc : cb i with
    | true =>
      obtain ⟨g1, g2, g3⟩ := h1 i hi hc
      rw [g2, g3]
      exact zP_iff.mp hP' _ g1
    | false =>
      obtain ⟨g1, g2, g3, g4⟩ := h3 i hi hc
      rw [g3, g4]
      obtain ⟨g5, g6⟩ := hap i g1 g2
      exact (zP_iff.mp hP i g1).kept (hk _ g5 g6)
  have hDn : va_D A (zws IL2 sh2 ad2 S2) := by
    refine zD_of hn (fun i hi j hj hij => ?_) (fun i hi => ?_)
    · cases hc : cb i with
      | true =>
        obtain ⟨g1, g2, g3⟩ := h1 i hi hc
        cases hc' : cb j with
        | true =>
          obtain ⟨k1, k2, k3⟩ := h1 j hj hc'
          rw [g2, k2] at hij
          exact h2 i hi j hj hc hc' (zD_1 hD' _ g1 _ k1 hij)
        | false =>
          obtain ⟨k1, k2, k3, k4⟩ := h3 j hj hc'
          rw [g2, k3] at hij
          exact absurd (hij ▸ zD_2 hD' _ g1) (hap j k1 k2).2
      | false =>
        obtain ⟨g1, g2, g3, g4⟩ := h3 i hi hc
        cases hc' : cb j with
        | true =>
          obtain ⟨k1, k2, k3⟩ := h1 j hj hc'
          rw [g3, k2] at hij
          exact absurd (hij.symm ▸ zD_2 hD' _ k1) (hap i g1 g2).2
        | false =>
          obtain ⟨k1, k2, k3, k4⟩ := h3 j hj hc'
          rw [g3, k3] at hij
          exact zD_1 hD _ g1 _ k1 hij
    · cases hc : cb i with
      | true =>
        obtain ⟨g1, g2, g3⟩ := h1 i hi hc
        rw [g2]
        exact hF _ (zD_2 hD' _ g1)
      | false =>
        obtain ⟨g1, g2, g3, g4⟩ := h3 i hi hc
        rw [g3]
        exact zD_2 hD _ g1
  obtain ⟨t2, a1, b1⟩ := hZ T'.heap (locs ++ L) ls hPn hDn
    ⟨Nat.le_trans hS.1 (by rw [e1]; exact hz), fun q h1 h2 => by rw [e1, hk q (Nat.lt_of_lt_of_le h1 hS.1) (fun z => h2 (hF q z))]; exact hS.2.1 q h1 h2, fun q hq => by
      rcases List.mem_append.mp hq with h | h
      · exact hS.2.2 q h
      · exact hF _ (hL q h)⟩ hl T' rfl X'
  exact ⟨t2, st t2 a1, b1⟩
/-- the callee's world stands where the caller's stands -/
theorem zPartP {IL1 : List zI} {sh1 : zSh} {ad1 : zAd} {S1 : zSt} {H : Heap} (φ : zI → zI) (hP : va_P D vwCl (zws IL sh ad S) H) (h : ∀ j ∈ IL1, φ j ∈ IL ∧ ad1 j = ad (φ j) ∧ zpic sh1 ad1 S1 j = zpic sh ad S (φ j)) : va_P D vwCl (zws IL1 sh1 ad1 S1) H := by
  refine zP_iff.mpr fun j hj => ?_
  obtain ⟨g1, g2, g3⟩ := h j hj
  rw [g2, g3]
  exact zP_iff.mp hP _ g1
theorem zPartD {IL1 : List zI} {sh1 : zSh} {ad1 : zAd} {S1 : zSt} (φ : zI → zI) (hn : IL1.Nodup) (hi : ∀ i ∈ IL1, ∀ j ∈ IL1, φ i = φ j → i = j) (hD : va_D A (zws IL sh ad S)) (h : ∀ j ∈ IL1, φ j ∈ IL ∧ ad1 j = ad (φ j)) : va_D A (zws IL1 sh1 ad1 S1) := by
  refine zD_of hn (fun i h1 j h2 hij => ?_) (fun i h1 => ?_)
  · rw [(h i h1).2, (h j h2).2] at hij
    exact hi i h1 j h2 (zD_1 hD _ (h i h1).1 _ (h j h2).1 hij)
  · rw [(h i h1).2]
    exact zD_2 hD _ (h i h1).1
/-- a call of a constructor -/
def zCI (own : String) (idx : Nat) (y : MethodName) (b : ByteArray) (nL : Nat) (n : Nat) : Prop := ∀ {p : Program} {l : Launch} {e : Env} {R : Room} {s : State} {m : MethodId} {args : Array Value} {below : List Frame} {meth : Method} {c : Code} {cells slots : Nat} {cc : ByteArray} {nL0 : Nat} {ret0 : Option FieldType} {D : va_G} {K : zKs} {A : Nat → Prop} {H : Heap} {locs : List Loc} {pc : Nat} {ls : Array Slot} {rest st : List Value} {rm : Room} {Pc : Array Value → State → Prop} {Qc : Array Value → State → Outcome → State → Prop} {free : Addr → Prop} {h : Nat} {As : List Value}, zX p s m args meth c own cc nL0 ret0 D K A → Met l y (Cond.code y b nL none :: zgw) rm Pc Qc rm.cells rm.slots free → rm.frames + 1 ≤ R.frames → 8 + (nL + 11) + rm.locals ≤ R.locals → PreS s H Pc (.ref h :: As) → As.length = n → ls.size = nL0 → st = As.reverse ++ .ref h :: rest → (rest.map fun v => v.category).sum ≤ 8 → decode cc pc = .ok (.invokespecial idx, 3) → cells + rm.cells ≤ R.cells ∧ slots + rm.slots ≤ R.slots → va_Run p l e R s m args below meth c H locs cells slots rm.cells rm.slots (F0 m pc ls st) rest (Qc (Value.ref h :: As).toArray) free
theorem zCI.of {idx n nL : Nat} {y : MethodName} {b : ByteArray} (hcode : Cond.code y b nL none ∈ zgw) (h1 : Cond.methodLink own idx y ∈ zgw) (h2 : Cond.instanceMethod y ∈ zgw) (h3 : Cond.initialized y.cls ∈ zgw) (hy : y.name = "<init>") (hd : y.cls ≠ "java/lang/invoke/MethodHandle" ∧ y.cls ≠ "java/lang/invoke/VarHandle" ∧ (parseMethodDescriptor y.desc).map (fun d => d.parameters.length) = some n) : zCI own idx y b nL n := by
  intro p l e R s m args below meth c cells slots cc nL0 ret0 D K A H locs pc ls rest st rm Pc Qc free h As C hM hf hlo hp hn hsz hst hcat hdg hroom
  have hG : GoodIn zgw (Cond.code y b nL none :: zgw) := zGood (Y := Cond.tt) hcode
  exact va_runI C.1 hM (cwI n C.1.2.2.2.2 hG rfl rfl rfl (C.1.2.2.2.2 _ h3) (C.1.2.2.2.2 _ h1) (C.1.2.2.2.2 _ h2) hy hd ⟨hf, hlo⟩) hp rfl hn hsz hst (lv_room hcat) hdg hroom
theorem zCI.ofN {idx n nL : Nat} {y : MethodName} {host : String} {b : ByteArray} (hcode : Cond.code y b nL none ∈ zgw) (h1 : Cond.methodLinkNest own idx y host ∈ znw) (h2 : Cond.instanceMethod y ∈ zgw) (h3 : Cond.initialized y.cls ∈ zgw) (hy : y.name = "<init>") (hd : y.cls ≠ "java/lang/invoke/MethodHandle" ∧ y.cls ≠ "java/lang/invoke/VarHandle" ∧ (parseMethodDescriptor y.desc).map (fun d => d.parameters.length) = some n) : zCI own idx y b nL n := by
  intro p l e R s m args below meth c cells slots cc nL0 ret0 D K A H locs pc ls rest st rm Pc Qc free h As C hM hf hlo hp hn hsz hst hcat hdg hroom
  have hG : GoodIn zgw (Cond.code y b nL none :: zgw) := zGood (Y := Cond.tt) hcode
  exact va_runIN C.1 hM ⟨va_cnB n C.1.2.2.2.2 hG rfl rfl rfl (C.2.1.2 _ h1) (C.1.2.2.2.2 _ h3) hd ⟨hf, hlo⟩, hy, C.1.2.2.2.2 _ h2⟩ hp rfl hn hsz hst (lv_room hcat) hdg hroom
/-- names kept: the world behind the call -/
def zKk (IL IL1 IL1' IL2 : List zI) (sh : zSh) (ad : zAd) (S : zSt) (sh' : zSh) (ad' : zAd) (S' : zSt) : Prop := IL2.Nodup ∧ ∀ i ∈ IL2, i ∈ IL1' ∨ (i ∈ IL ∧ i ∉ IL1 ∧ i ∉ IL1' ∧ ad' i = ad i ∧ zpic sh' ad' S' i = zpic sh ad S i)
theorem zKk.use {IL1 IL1' IL2 : List zI} {sh' : zSh} {ad' : zAd} {S' : zSt} {P : Prop} (h : zKk IL IL1 IL1' IL2 sh ad S sh' ad' S') (hz : P) : IL2.Nodup ∧ (∀ i ∈ IL2, decide (i ∈ IL1') = true → id i ∈ IL1' ∧ ad' i = ad' (id i) ∧ zpic sh' ad' S' i = zpic sh' ad' S' (id i)) ∧ (∀ i ∈ IL2, ∀ j ∈ IL2, decide (i ∈ IL1') = true → decide (j ∈ IL1') = true → id i = id j → i = j) ∧ (∀ i ∈ IL2, decide (i ∈ IL1') = false → i ∈ IL ∧ (∀ j ∈ IL1, id j ≠ i) ∧ ad' i = ad i ∧ zpic sh' ad' S' i = zpic sh ad S i) ∧ P := by
  refine ⟨h.1, fun i hi hc => ⟨of_decide_eq_true hc, rfl, rfl⟩, fun i _ j _ _ _ h => h, fun i hi hc => ?_, hz⟩
  rcases h.2 i hi with g | ⟨g1, g2, -, g3, g4⟩
  · exact absurd g (of_decide_eq_false hc)
  · exact ⟨g1, fun j hj hji => g2 (hji ▸ hj), g3, g4⟩
theorem Zr_invI (C : zX p s m args meth c own cc nL ret D K A) {y : MethodName} {b : ByteArray} {nLc n idx h0 : Nat} {rm : Room} {st0 : List Value} {IL1 IL1' : List zI} {post : Option Value → zSh → zAd → zSt → Prop} (As : List Value) (cw : zCI own idx y b nLc n) (hM : zMetG l y b nLc none rm D K IL1 sh ad S (.ref h0 :: As) IL1' post) (hn1 : IL1.Nodup) (hsub : ∀ i ∈ IL1, i ∈ IL) (hst : st0 = As.reverse ++ .ref h0 :: st) (hfr : rm.frames + 1 ≤ R.frames) (hlo : 8 + (nLc + 11) + rm.locals ≤ R.locals) (hn : As.length = n) (hcat : (st.map fun v => v.category).sum ≤ 8) (hd : decode cc pc = .ok (.invokespecial idx, 3)) (hroom : cells + rm.cells ≤ R.cells ∧ slots + rm.slots ≤ R.slots) (IL2 : List zI) (kk : ∀ (v : Option Value) (sh' : zSh) (ad' : zAd) (S' : zSt), post v sh' ad' S' → zKk IL IL1 IL1' IL2 sh ad S sh' ad' S' ∧ Z p l e R s m args below meth c D A nL Q IL2 (cells + rm.cells) (slots + rm.slots) sh' ad' S' (pc + 3) lv (v.toList ++ st)) : Z p l e R s m args below meth c D A nL Q IL cells slots sh ad S (pc) (lv) (st0) := by
  intro H locs ls hP hD hS hl
  exact zAfterF id C hP hD hS hl (fun j hj => ⟨hsub j hj, rfl⟩) (cw C (hM H.size) hfr hlo ⟨zPre.blind, zPre.ok C.2.1 (zPartP id hP fun j hj => ⟨hsub j hj, rfl, rfl⟩) (zPartD id hn1 (fun _ _ _ _ h => h) hD fun j hj => ⟨hsub j hj, rfl⟩)⟩ hn hl.1.1 hst hcat hd hroom) (fun v sh' ad' S' hp => ⟨IL2, sh', ad', S', fun i => decide (i ∈ IL1'), id, (kk v sh' ad' S' hp).1.use (kk v sh' ad' S' hp).2⟩)
theorem Zr_invSG (C : zX p s m args meth c own cc nL ret D K A) {y : MethodName} {b : ByteArray} {nLc n idx : Nat} {retc : Option FieldType} {rm : Room} {st0 : List Value} {IL1 IL1' : List zI} {post : Option Value → zSh → zAd → zSt → Prop} (As : List Value) (cw : zCS own idx y b nLc retc n) (hM : zMetG l y b nLc retc rm D K IL1 sh ad S As IL1' post) (hn1 : IL1.Nodup) (hsub : ∀ i ∈ IL1, i ∈ IL) (hst : st0 = As.reverse ++ st) (hfr : rm.frames + 1 ≤ R.frames) (hlo : 8 + (nLc + 11) + rm.locals ≤ R.locals) (hn : As.length = n) (hcat : (st.map fun v => v.category).sum ≤ 8) (hd : decode cc pc = .ok (.invokestatic idx, 3)) (hroom : cells + rm.cells ≤ R.cells ∧ slots + rm.slots ≤ R.slots) (IL2 : List zI) (kk : ∀ (v : Option Value) (sh' : zSh) (ad' : zAd) (S' : zSt), post v sh' ad' S' → zKk IL IL1 IL1' IL2 sh ad S sh' ad' S' ∧ Z p l e R s m args below meth c D A nL Q IL2 (cells + rm.cells) (slots + rm.slots) sh' ad' S' (pc + 3) lv (v.toList ++ st)) : Z p l e R s m args below meth c D A nL Q IL cells slots sh ad S (pc) (lv) (st0) := by
  intro H locs ls hP hD hS hl
  exact zAfterF id C hP hD hS hl (fun j hj => ⟨hsub j hj, rfl⟩) (cw C (hM H.size) hfr hlo ⟨zPre.blind, zPre.ok C.2.1 (zPartP id hP fun j hj => ⟨hsub j hj, rfl, rfl⟩) (zPartD id hn1 (fun _ _ _ _ h => h) hD fun j hj => ⟨hsub j hj, rfl⟩)⟩ hn hl.1.1 hst hcat hd hroom) (fun v sh' ad' S' hp => ⟨IL2, sh', ad', S', fun i => decide (i ∈ IL1'), id, (kk v sh' ad' S' hp).1.use (kk v sh' ad' S' hp).2⟩)
/-- a call of a method into a part of the world, under other names; the part keeps its names -/
theorem Zr_invVF (C : zX p s m args meth c own cc nL ret D K A) {y : MethodName} {b : ByteArray} {nLc n idx ci a1 b1 : Nat} {Cn : String} {T : u_T} {N : Nat} {retc : Option FieldType} {rm : Room} {ds : List (Option zI)} {st0 : List Value} {IL1 : List zI} {sh1 : zSh} {ad1 : zAd} {S1 : zSt} {post : Option Value → zSh → zAd → zSt → Prop} (φ : zI → zI) (As : List Value) (cw : zCV own idx Cn y b nLc retc n) (hM : zMet l y b nLc retc rm D K IL1 sh1 ad1 S1 (.ref (ad1 (a1, b1)) :: As) post) (hm : (a1, b1) ∈ IL1) (hs : sh1 (a1, b1) = .inl (ci, ds)) (hc : vwCl[ci]? = some (Cn, T, N)) (hn1 : IL1.Nodup) (hi1 : ∀ i ∈ IL1, ∀ j ∈ IL1, φ i = φ j → i = j) (hφ : ∀ j ∈ IL1, φ j ∈ IL ∧ ad1 j = ad (φ j) ∧ zpic sh1 ad1 S1 j = zpic sh ad S (φ j)) (hst : st0 = As.reverse ++ .ref (ad1 (a1, b1)) :: st) (hfr : rm.frames + 1 ≤ R.frames) (hlo : 8 + (nLc + 11) + rm.locals ≤ R.locals) (hn : As.length = n) (hcat : (st.map fun v => v.category).sum ≤ 8) (hd : decode cc pc = .ok (.invokevirtual idx, 3)) (hroom : cells + rm.cells ≤ R.cells ∧ slots + rm.slots ≤ R.slots) (kk : ∀ (v : Option Value) (sh' : zSh) (ad' : zAd) (S' : zSt), post v sh' ad' S' → ∃ (IL2 : List zI) (sh2 : zSh) (ad2 : zAd) (S2 : zSt) (cb : zI → Bool) (ψ : zI → zI), IL2.Nodup ∧ (∀ i ∈ IL2, cb i = true → ψ i ∈ IL1 ∧ ad2 i = ad' (ψ i) ∧ zpic sh2 ad2 S2 i = zpic sh' ad' S' (ψ i)) ∧ (∀ i ∈ IL2, ∀ j ∈ IL2, cb i = true → cb j = true → ψ i = ψ j → i = j) ∧ (∀ i ∈ IL2, cb i = false → i ∈ IL ∧ (∀ j ∈ IL1, φ j ≠ i) ∧ ad2 i = ad i ∧ zpic sh2 ad2 S2 i = zpic sh ad S i) ∧ Z p l e R s m args below meth c D A nL Q IL2 (cells + rm.cells) (slots + rm.slots) sh2 ad2 S2 (pc + 3) lv (v.toList ++ st)) : Z p l e R s m args below meth c D A nL Q IL cells slots sh ad S (pc) (lv) (st0) := by
  intro H locs ls hP hD hS hl
  have hP1 := zPartP (D := D) (sh1 := sh1) (ad1 := ad1) (S1 := S1) φ hP hφ
  obtain ⟨q, -, hq⟩ := zws_at (sh := sh1) (ad := ad1) (S := S1) hm
  rw [zpic_obj hs] at hq
  exact zAfterF φ C hP hD hS hl (fun j hj => ⟨(hφ j hj).1, (hφ j hj).2.1⟩) (cw C (hM H.size) hfr hlo ⟨zPre.blind, va_recv C.2.1.1 hP1 hc hq, zPre.ok C.2.1 hP1 (zPartD φ hn1 hi1 hD fun j hj => ⟨(hφ j hj).1, (hφ j hj).2.1⟩)⟩ hn hl.1.1 hst hcat hd hroom) kk
end ZG
