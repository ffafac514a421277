/-! ===== THE SCRIPT, AND cell ===== -/
section ZL
variable {p : Program} {l : Launch} {e : Env} {R : Room} {s : State} {m : MethodId} {args : Array Value} {below : List Frame} {meth : Method} {c : Code} {Q : State → Prop} {cells slots : Nat}
variable {own : String} {cc : ByteArray} {nL : Nat} {ret : Option FieldType} {D : va_G} {K : zKs} {A : Nat → Prop} {IL : List zI} {sh : zSh} {ad : zAd} {S : zSt} {pc : Nat} {lv : List (Option Value)} {st : List Value}
def zPreX (B : State → Prop) (IL : List zI) (sh : zSh) (ad : zAd) (S : zSt) (sz : Nat) (D : va_G) (K : zKs) (av : List Value) : Array Value → State → Prop := va_Pc av (fun U => (U.heap.size = sz ∧ va_P D vwCl (zws IL sh ad S) U.heap ∧ zK D K U ∧ va_D (fun _ => True) (zws IL sh ad S)) ∧ B U)
def zMetX (B : State → Prop) (l : Launch) (y : MethodName) (b : ByteArray) (nL : Nat) (ret : Option FieldType) (rm : Room) (D : va_G) (K : zKs) (IL : List zI) (sh : zSh) (ad : zAd) (S : zSt) (av : List Value) (post : Option Value → zSh → zAd → zSt → Prop) : Prop :=
  ∀ sz : Nat, Met l y (Cond.code y b nL ret :: zgw) rm (zPreX B IL sh ad S sz D K av) (zQ post IL D (zFr IL sh ad S sz)) rm.cells rm.slots (zFr IL sh ad S sz)
theorem zEnterX {B : State → Prop} {y : MethodName} {rm : Room} {av : List Value} {post : Option Value → zSh → zAd → zSt → Prop} {lv0 : List (Option Value)} (hy : plainName y.cls = true) (hown : y.cls = own) (hav : ∀ v ∈ av, v.category = 1) (hn : av.length ≤ nL) (hlv : lv0 = av.map some ++ List.replicate (nL - av.length) none)
    (h : ∀ (p : Program) (e : Env) (s : State) (m : MethodId) (below : List Frame) (meth : Method) (c : Code) (A : Nat → Prop), zX p s m av.toArray meth c own cc nL ret D K A → (ret = none ∨ meth.name = y.name) → meth.name = y.name → B s → (∀ q, A q → zFr IL sh ad S s.heap.size q) → Z p l e rm s m av.toArray below meth c D A nL (MQ below (zQ post IL D A) av.toArray s rm.cells rm.slots A) IL 0 0 sh ad S 0 lv0 []) : zMetX B l y cc nL ret rm D K IL sh ad S av post := by
  intro sz
  refine Met.ofW (cc := cc) (maxL := nL) (ret := ret) hy rfl ?_
  intro p e s m args below meth c s₁ B hml hv
  obtain ⟨rfl, ⟨hsz, hP, hK, hD0⟩, hBs⟩ := hv
  have hts : ∀ w ∈ (Cond.code y cc nL ret :: zgw), w.before av.toArray s = true := atoms_spec (ws := Cond.code y cc nL ret :: zgw) B.pre
  have hownC : s.vm.findClass own = some m.cls := by rw [← hown]; exact findClass_of_methodNamed B.named
  subst hsz
  have hD := hD0.self (sz := s.heap.size)
  have hA : ∀ q : Nat, s.heap.size ≤ q → zFr IL sh ad S s.heap.size q := fun q h => Or.inr h
  have hnm : meth.name = y.name := (name_of_methodNamed B.named B.method).1
  have C : zX p s m av.toArray meth c own cc nL ret D K (zFr IL sh ad S s.heap.size) := ⟨⟨B.exec, B.bytes, hml, hownC, fun w hw => hts w (List.mem_cons_of_mem _ hw)⟩, hK, hA, B.returns, B.notSynchronized⟩
  have hk := h p e s m below meth c _ C (Or.inr hnm) hnm hBs (fun _ h => h)
  rw [lg_entry_eq]
  have hslen : (lg_sl av).length = av.length ∧ (lv_args 0 av) = zlv lv0 → True := fun _ => trivial
  refine hk s.heap [] _ hP hD va_S.rf ?_
  have hlg : ∀ (vs : List Value), (∀ v ∈ vs, v.category = 1) → lg_sl vs = vs.map Slot.val := by
    intro vs
    induction vs with
    | nil => intro _; rfl
    | cons v vs ih =>
      intro hvs
      have h1 := hvs v List.mem_cons_self
      have h2 := ih (fun x hx => hvs x (List.mem_cons_of_mem _ hx))
      simp only [lg_sl, List.flatMap_cons, List.map_cons] at h2 ⊢
      rw [h2]
      simp [h1]
  rw [hlg av hav, hlv]
  have hmem : ∀ q ∈ zlv (av.map some ++ List.replicate (nL - av.length) none), av[q.1]? = some q.2 := by
    intro q hq
    have h1 := zlv_mem.mp hq
    by_cases hl : q.1 < av.length
    · rw [List.getElem?_append_left (by simpa using hl)] at h1
      simpa using h1
    · rw [List.getElem?_append_right (by simpa using Nat.le_of_not_lt hl)] at h1
      rw [List.getElem?_replicate] at h1
      split at h1 <;> simp at h1
  refine ⟨⟨by simp; omega, ⟨fun i v hi hc => ?_, fun i hi => ?_⟩, fun q hq => ?_⟩, fun q hq => hav _ (List.mem_of_getElem? (hmem q hq))⟩
  · exfalso
    rw [List.getElem?_toArray] at hi
    have hm := List.mem_of_getElem? hi
    rcases List.mem_append.mp hm with hm | hm
    · obtain ⟨w, hw, he⟩ := List.mem_map.mp hm
      cases he
      rw [hav _ hw] at hc
      exact absurd hc (by decide)
    · have := (List.mem_replicate.mp hm).2
      cases this
  · exfalso
    rw [List.getElem?_toArray] at hi
    have hm := List.mem_of_getElem? hi
    rcases List.mem_append.mp hm with hm | hm
    · obtain ⟨w, hw, he⟩ := List.mem_map.mp hm
      cases he
    · have := (List.mem_replicate.mp hm).2
      cases this
  · have h1 := hmem q hq
    have hl := (List.getElem?_eq_some_iff.mp h1).1
    rw [List.getElem?_toArray, List.getElem?_append_left (by simpa using hl)]
    simp [h1]
theorem Zr_sld (C : zX p s m args meth c own cc nL ret D K A) {b L : Nat} {xs : Nat → Int32} {i : Nat} (hX : va_X b L xs s s.heap) (hbl : b < s.heap.size) (hbA : ¬ A b) (hi : i < L) (hL : L < 2 ^ 31) (hd : decode cc pc = .ok (.iaload, 1)) (k : Z p l e R s m args below meth c D A nL Q IL cells slots sh ad S (pc + 1) lv (.int (xs i) :: st)) : Z p l e R s m args below meth c D A nL Q IL cells slots sh ad S pc lv (.int (nI i) :: .ref b :: st) := by
  intro H locs ls hP hD hS hl
  refine va_sld C.1.1 C.1.2.1 hX hbl hbA hS (vp_in_nI hi hL) hd ?_
  rw [nI_clamp (by omega)]
  exact k H locs ls hP hD hS hl
theorem Zr_slen (C : zX p s m args meth c own cc nL ret D K A) {b L : Nat} {xs : Nat → Int32} (hX : va_X b L xs s s.heap) (hbl : b < s.heap.size) (hbA : ¬ A b) (hd : decode cc pc = .ok (.arraylength, 1)) (k : Z p l e R s m args below meth c D A nL Q IL cells slots sh ad S (pc + 1) lv (.int (nI L) :: st)) : Z p l e R s m args below meth c D A nL Q IL cells slots sh ad S pc lv (.ref b :: st) := fun H locs ls hP hD hS hl => va_slen C.1.1 C.1.2.1 hX hbl hbA hS hd (k H locs ls hP hD hS hl)
end ZL
def xB (b L : Nat) (xs : Nat → Int32) : State → Prop := fun U => va_X b L xs U U.heap ∧ b < U.heap.size
def xV (L : Nat) (xs : Nat → Int32) : Int32 := if 0 < L then xs 0 else 0
set_option maxHeartbeats 1000000 in
theorem k_L_cell {l : Launch} {D : va_G} {K : zKs} {b L : Nat} {xs : Nat → Int32} {sh : zSh} {ad : zAd} {S : zSt} (hL : L < 2 ^ 31) : zMetX (xB b L xs) l yL_cell cL_cell 2 (some .int) { frames := 0, cells := 0, slots := 0, locals := 0 } D K [] sh ad S [.ref b, .int (nI 0)] (zEq (some (.int (xV L xs))) sh ad S) := by
  refine zEnterX (own := RL) (lv0 := [some (.ref b), some (.int (nI 0))]) (by decide) rfl (by simp [Value.category]) (Nat.le_of_ble_eq_true rfl) rfl ?_
  intro p e s m below meth c A C _ hnm hB hA
  have hbA : ¬ A b := fun h => by
    rcases hA b h with ⟨k, e', h⟩ | h
    · simp [zws] at h
    · exact absurd hB.2 (Nat.not_lt.mpr h)
  refine Zr_iload_n C dL_cell_0 rfl ?_
  refine Zr_aload_n C dL_cell_1 rfl ?_
  refine Zr_slen C hB.1 hB.2 hbA dL_cell_2 ?_
  refine Zr_icmp_ge C 12 dL_cell_3 (by decide) (fun h => ?_) (fun h => ?_)
  · have h0 : ¬ 0 < L := fun h2 => absurd h (nI_ge h2 hL)
    refine Zr_iconst C (xV L xs) dL_cell_12 (by simp only [xV, if_neg h0]; rfl) ?_
    exact Zr_iret C dL_cell_13 (Nat.le_refl _) (Nat.le_refl _) ⟨rfl, rfl, rfl, rfl⟩
  · have h0 : 0 < L := Nat.pos_of_ne_zero (fun h2 => h (by rw [h2]; decide))
    refine Zr_aload_n C dL_cell_6 rfl ?_
    refine Zr_iload_n C dL_cell_7 rfl ?_
    refine Zr_sld C hB.1 hB.2 hbA h0 hL dL_cell_8 ?_
    refine Zr_goto C 13 dL_cell_9 (by decide) ?_
    exact Zr_iret C dL_cell_13 (Nat.le_refl _) (Nat.le_refl _) ⟨by simp only [xV, if_pos h0], rfl, rfl, rfl⟩
section ZL2
variable {p : Program} {l : Launch} {e : Env} {R : Room} {s : State} {m : MethodId} {args : Array Value} {below : List Frame} {meth : Method} {c : Code} {Q : State → Prop} {cells slots : Nat}
variable {cc : ByteArray} {nL : Nat} {ret : Option FieldType} {D : va_G} {K : zKs} {A : Nat → Prop} {IL : List zI} {sh : zSh} {ad : zAd} {S : zSt} {pc : Nat} {lv : List (Option Value)} {st : List Value}
theorem Zr_cell (C : zX p s m args meth c RL cc nL ret D K A) {b L : Nat} {xs : Nat → Int32} (hn : IL.Nodup) (hX : va_X b L xs s s.heap) (hbl : b < s.heap.size) (hbA : ¬ A b) (hL : L < 2 ^ 31) (hfr : 1 ≤ R.frames) (hlo : 21 ≤ R.locals) (hcat : (st.map fun v => v.category).sum ≤ 8) (hroom : cells ≤ R.cells ∧ slots ≤ R.slots) (hd : decode cc pc = .ok (.invokestatic 9, 3)) (k : Z p l e R s m args below meth c D A nL Q IL cells slots sh ad S (pc + 3) lv (.int (xV L xs) :: st)) : Z p l e R s m args below meth c D A nL Q IL cells slots sh ad S pc lv (.int (nI 0) :: .ref b :: st) := by
  intro H locs ls hP hD hS hl
  have hok : ∀ U : State, U.heap = H → s.WarmedH U.vm → zPreX (xB b L xs) [] sh ad S H.size D K [.ref b, .int (nI 0)] ([.ref b, .int (nI 0)] : List Value).toArray U := fun U hU hW => ⟨rfl, ⟨by rw [hU], fun k q h => by simp [zws] at h, C.2.1.moved hW, ⟨fun i j p q h => by simp [zws] at h, fun k q h => by simp [zws] at h⟩⟩, ⟨by rw [hU]; exact (hX.kept (hS.2.1 b hbl hbA)).moved hW.alike, by rw [hU]; exact Nat.lt_of_lt_of_le hbl hS.1⟩⟩
  have hbd : FrameBlind (zPreX (xB b L xs) [] sh ad S H.size D K [.ref b, .int (nI 0)]) := fun a U g mk q => ⟨q.1, ⟨q.2.1.1, q.2.1.2.1, q.2.1.2.2.1.blind, q.2.1.2.2.2⟩, q.2.2⟩
  refine zAfterF (IL1 := []) (IL1' := []) (sh1 := sh) (ad1 := ad) (S1 := S) (mc := 0) (ms := 0) (post := zEq (some (.int (xV L xs))) sh ad S) id C hP hD hS hl (fun j hj => by cases hj) (cw_L_9 (As := [.ref b, .int (nI 0)]) C (k_L_cell (b := b) (xs := xs) (sh := sh) (ad := ad) (S := S) hL H.size) hfr hlo ⟨hbd, hok⟩ rfl hl.1.1 rfl hcat hd hroom) (fun v sh' ad' S' hp => ?_)
  obtain ⟨rfl, rfl, rfl, rfl⟩ := hp
  exact ⟨IL, _, _, _, fun _ => false, id, hn, fun i _ h => (by cases h), fun i _ j _ h => (by cases h), fun i hi _ => ⟨hi, fun j hj => (by cases hj), rfl, rfl⟩, k⟩
end ZL2
theorem lw_zK {s : State} {args : Array Value} (hts : ∀ w ∈ lw_tbl, w.before args s = true) : ∃ (D : va_G) (K : zKs), zK D K s := by
  obtain ⟨c0, i0, h0⟩ := u_known (C := RX0) (T := TX0) (N := 4) (n := 4) hts inX0 (hts (.instantiable RX0 4) (List.mem_of_getElem? (i := 110) rfl))
  obtain ⟨c1, i1, h1⟩ := u_known (C := RX1) (T := TX1) (N := 4) (n := 4) hts inX1 (hts (.instantiable RX1 4) (List.mem_of_getElem? (i := 131) rfl))
  obtain ⟨c2, i2, h2⟩ := u_known (C := RX2) (T := TX2) (N := 11) (n := 11) hts inX2 (hts (.instantiable RX2 11) (List.mem_of_getElem? (i := 59) rfl))
  obtain ⟨c3, i3, h3⟩ := u_known (C := RX3) (T := TX3) (N := 11) (n := 11) hts inX3 (hts (.instantiable RX3 11) (List.mem_of_getElem? (i := 41) rfl))
  obtain ⟨c4, i4, h4⟩ := u_known (C := RX4) (T := TX4) (N := 27) (n := 27) hts inX4 (hts (.instantiable RX4 27) (List.mem_of_getElem? (i := 400) rfl))
  have oT : ∀ w ∈ znw, w ∈ lw_tbl := fun w hw => (List.mem_filter.mp hw).1
  obtain ⟨a0, k0, p0, g0, g1, g2⟩ := Cond.arrayClass_spec (hts _ (List.mem_filter.mp wArrI).1)
  obtain ⟨a1, k1, p1, e0, e1, e2⟩ := Cond.arrayClass_spec (hts _ (List.mem_filter.mp wArrZ).1)
  obtain ⟨p2, a2, k2, w0, w1, w2, w3, w4⟩ := Cond.arrayOver_spec (hts _ (oT _ qo_X2))
  obtain ⟨p3, a3, k3, r0, r1, r2, r3, r4⟩ := Cond.arrayOver_spec (hts _ (oT _ qo_X0))
  refine ⟨(fun k => match k with | 0 => c0 | 1 => c1 | 2 => c2 | 3 => c3 | _ => c4, fun k => match k with | 0 => i0 | 1 => i1 | 2 => i2 | 3 => i3 | _ => i4), (a0, a1, a2, a3), ⟨?_, ?_⟩, ?_⟩
  · intro k q hq
    match k, hq with
    | 0, hq => cases hq; exact h0
    | 1, hq => cases hq; exact h1
    | 2, hq => cases hq; exact h2
    | 3, hq => cases hq; exact h3
    | 4, hq => cases hq; exact h4
    | k + 5, hq => simp at hq
  · intro k q hq
    match k, hq with
    | 0, hq => cases hq; exact ⟨fun N z => ⟨fun k h => (by cases h), k0, g1, p0, g2⟩, g0⟩
    | 1, hq => cases hq; exact ⟨fun N z => ⟨fun k h => (by cases h), k1, e1, p1, e2⟩, e0⟩
    | 2, hq => cases hq; exact ⟨fun N z => ⟨fun k h => (by cases h), k2, w2, p2, w3⟩, k2, p2, w2, w3, w0, w4⟩
    | 3, hq => cases hq; exact ⟨fun N z => ⟨fun k h => (by cases h), k3, r2, p3, r3⟩, k3, p3, r2, r3, r0, r4⟩
    | k + 4, hq => simp at hq
  · intro w hw
    have hz := (List.mem_filter.mp hw).2
    have h1 := hts w (oT w hw)
    cases w with
    | fieldLinkNest a b c d e f => exact va_Nw.of rfl h1
    | methodLinkNest a b c d => exact va_Nw.of rfl h1
    | arrayOver t =>
      cases t with
      | object C => exact h1
      | _ => simp [zNest] at hz
    | _ => simp [zNest] at hz
