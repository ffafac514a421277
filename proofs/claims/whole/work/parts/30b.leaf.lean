section ZVC
variable {p : Program} {l : Launch} {e : Env} {R : Room} {s : State} {m : MethodId} {args : Array Value} {below : List Frame} {meth : Method} {c : Code} {Q : State → Prop} {cells slots : Nat}
variable {own : String} {cc : ByteArray} {nL : Nat} {ret : Option FieldType} {D : va_G} {K : zKs} {A : Nat → Prop} {IL : List zI} {sh : zSh} {ad : zAd} {S : zSt} {pc : Nat} {lv : List (Option Value)} {st : List Value}
/-- the class's world behind a call: the rows' cells may lie elsewhere -/
def cP (K : zKs) (n : Nat) (ad : zAd) (V : Option Value) (σ : aS) : Option Value → zSh → zAd → zSt → Prop := fun v sh ad' S => v = V ∧ sh = cSh K n (cpo n σ.2.2) ∧ (∃ ca : Nat → Nat, ad' = zA ad ca) ∧ cRel n σ S
theorem Zr_callVC (C : zX p s m args meth c own cc nL ret D K A) {y : MethodName} {b : ByteArray} {nLc n0 idx ci a1 b1 fr lo mc ms nn : Nat} {Cn : String} {T : u_T} {N : Nat} {retc : Option FieldType} {ds : List (Option zI)} {st0 As : List Value} {v : Value} {σ : aS} {ad0 : zAd} {ca0 : Nat → Nat} (cw : zCV own idx Cn y b nLc retc n0) (hM : zMet l y b nLc retc { frames := fr, cells := mc, slots := ms, locals := lo } D K (cIL nn) sh (zA ad0 ca0) S (.ref (zA ad0 ca0 (a1, b1)) :: As) (cP K nn ad0 (some v) σ)) (hm : (a1, b1) ∈ cIL nn) (hs : sh (a1, b1) = .inl (ci, ds)) (hc : vwCl[ci]? = some (Cn, T, N)) (hst : st0 = As.reverse ++ .ref (zA ad0 ca0 (a1, b1)) :: st) (hfr : fr + 1 ≤ R.frames) (hlo : 8 + (nLc + 11) + lo ≤ R.locals) (hn : As.length = n0) (hcat : (st.map fun v => v.category).sum ≤ 8) (hd : decode cc pc = .ok (.invokevirtual idx, 3)) (hroom : cells + mc ≤ R.cells ∧ slots + ms ≤ R.slots)
    (kk : ∀ (ca : Nat → Nat) (S' : zSt), cRel nn σ S' → Z p l e R s m args below meth c D A nL Q (cIL nn) (cells + mc) (slots + ms) (cSh K nn (cpo nn σ.2.2)) (zA ad0 ca) S' (pc + 3) lv (v :: st)) : Z p l e R s m args below meth c D A nL Q (cIL nn) cells slots sh (zA ad0 ca0) S pc lv st0 := by
  refine Zr_invV C As cw hM hm hs hc hst hfr hlo hn hcat hd hroom (fun v sh' ad' S' hp => ?_)
  obtain ⟨rfl, rfl, ⟨ca, rfl⟩, hp⟩ := hp
  exact kk ca S' hp
theorem Zr_callVCv (C : zX p s m args meth c own cc nL ret D K A) {y : MethodName} {b : ByteArray} {nLc n0 idx ci a1 b1 fr lo mc ms nn : Nat} {Cn : String} {T : u_T} {N : Nat} {retc : Option FieldType} {ds : List (Option zI)} {st0 As : List Value} {σ : aS} {ad0 : zAd} {ca0 : Nat → Nat} (cw : zCV own idx Cn y b nLc retc n0) (hM : zMet l y b nLc retc { frames := fr, cells := mc, slots := ms, locals := lo } D K (cIL nn) sh (zA ad0 ca0) S (.ref (zA ad0 ca0 (a1, b1)) :: As) (cP K nn ad0 none σ)) (hm : (a1, b1) ∈ cIL nn) (hs : sh (a1, b1) = .inl (ci, ds)) (hc : vwCl[ci]? = some (Cn, T, N)) (hst : st0 = As.reverse ++ .ref (zA ad0 ca0 (a1, b1)) :: st) (hfr : fr + 1 ≤ R.frames) (hlo : 8 + (nLc + 11) + lo ≤ R.locals) (hn : As.length = n0) (hcat : (st.map fun v => v.category).sum ≤ 8) (hd : decode cc pc = .ok (.invokevirtual idx, 3)) (hroom : cells + mc ≤ R.cells ∧ slots + ms ≤ R.slots)
    (kk : ∀ (ca : Nat → Nat) (S' : zSt), cRel nn σ S' → Z p l e R s m args below meth c D A nL Q (cIL nn) (cells + mc) (slots + ms) (cSh K nn (cpo nn σ.2.2)) (zA ad0 ca) S' (pc + 3) lv st) : Z p l e R s m args below meth c D A nL Q (cIL nn) cells slots sh (zA ad0 ca0) S pc lv st0 := by
  refine Zr_invV C As cw hM hm hs hc hst hfr hlo hn hcat hd hroom (fun v sh' ad' S' hp => ?_)
  obtain ⟨rfl, rfl, ⟨ca, rfl⟩, hp⟩ := hp
  exact kk ca S' hp
end ZVC
set_option maxHeartbeats 4000000 in
set_option maxRecDepth 100000 in
theorem k_X3_oneIf {l : Launch} {D : va_G} {K : zKs} {IL : List zI} {sh : zSh} {ad : zAd} {S : zSt} {b : Int32} : zMet l yX3_oneIf cX3_oneIf 1 (some .int) { frames := 0, cells := 0, slots := 0, locals := 0 } D K IL sh ad S [.int b] (zEq (some (.int (if b = 0 then 0 else 1))) sh ad (S)) := by
  refine zEnter (own := RX3) (lv0 := [some (.int b)]) (by decide) rfl (by simp [Value.category]) (Nat.le_of_ble_eq_true rfl) rfl ?_
  intro p e s m below meth c A C _ hnm
  refine Zr_iload_n C dX3_oneIf_0 rfl ?_
  refine Zr_if_eq C 8 dX3_oneIf_1 (by decide) (fun h1 => ?_) (fun h1 => ?_)
  · refine Zr_iconst C (0) dX3_oneIf_8 rfl ?_
    exact Zr_iret C dX3_oneIf_9 (Nat.zero_le _) (Nat.zero_le _) ⟨by simp [*], rfl, rfl, rfl⟩
  · refine Zr_iconst C (1) dX3_oneIf_4 rfl ?_
    refine Zr_goto C 9 dX3_oneIf_5 (by decide) ?_
    exact Zr_iret C dX3_oneIf_9 (Nat.zero_le _) (Nat.zero_le _) ⟨by simp [*], rfl, rfl, rfl⟩
set_option maxHeartbeats 4000000 in
set_option maxRecDepth 100000 in
theorem k_X3_bitOf {l : Launch} {D : va_G} {K : zKs} {IL : List zI} {sh : zSh} {ad : zAd} {S : zSt} {x : Int32} : zMet l yX3_bitOf cX3_bitOf 1 (some .int) { frames := 0, cells := 0, slots := 0, locals := 0 } D K IL sh ad S [.int x] (zEq (some (.int (1 <<< (x &&& 31)))) sh ad (S)) := by
  refine zEnter (own := RX3) (lv0 := [some (.int x)]) (by decide) rfl (by simp [Value.category]) (Nat.le_of_ble_eq_true rfl) rfl ?_
  intro p e s m below meth c A C _ hnm
  refine Zr_iconst C (1) dX3_bitOf_0 rfl ?_
  refine Zr_iload_n C dX3_bitOf_1 rfl ?_
  refine Zr_ishl C dX3_bitOf_2 ?_
  exact Zr_iret C dX3_bitOf_3 (Nat.zero_le _) (Nat.zero_le _) ⟨rfl, rfl, rfl, rfl⟩
set_option maxHeartbeats 4000000 in
set_option maxRecDepth 100000 in
theorem k_X3_allOf {l : Launch} {D : va_G} {K : zKs} {IL : List zI} {sh : zSh} {ad : zAd} {S : zSt} {x : Int32} : zMet l yX3_allOf cX3_allOf 1 (some .int) { frames := 0, cells := 0, slots := 0, locals := 0 } D K IL sh ad S [.int x] (zEq (some (.int (1 <<< (x &&& 31) - 1))) sh ad (S)) := by
  refine zEnter (own := RX3) (lv0 := [some (.int x)]) (by decide) rfl (by simp [Value.category]) (Nat.le_of_ble_eq_true rfl) rfl ?_
  intro p e s m below meth c A C _ hnm
  refine Zr_iconst C (1) dX3_allOf_0 rfl ?_
  refine Zr_iload_n C dX3_allOf_1 rfl ?_
  refine Zr_ishl C dX3_allOf_2 ?_
  refine Zr_iconst C (1) dX3_allOf_3 rfl ?_
  refine Zr_isub C dX3_allOf_4 ?_
  exact Zr_iret C dX3_allOf_5 (Nat.zero_le _) (Nat.zero_le _) ⟨rfl, rfl, rfl, rfl⟩
set_option maxHeartbeats 4000000 in
set_option maxRecDepth 100000 in
theorem k_X3_kindOf {l : Launch} {D : va_G} {K : zKs} {IL : List zI} {sh : zSh} {ad : zAd} {S : zSt} {x : Int32} : zMet l yX3_kindOf cX3_kindOf 1 (some .int) { frames := 0, cells := 0, slots := 0, locals := 0 } D K IL sh ad S [.int x] (zEq (some (.int (x &&& 7))) sh ad (S)) := by
  refine zEnter (own := RX3) (lv0 := [some (.int x)]) (by decide) rfl (by simp [Value.category]) (Nat.le_of_ble_eq_true rfl) rfl ?_
  intro p e s m below meth c A C _ hnm
  refine Zr_iload_n C dX3_kindOf_0 rfl ?_
  refine Zr_bipush C (7) dX3_kindOf_1 rfl ?_
  refine Zr_iand C dX3_kindOf_3 ?_
  exact Zr_iret C dX3_kindOf_4 (Nat.zero_le _) (Nat.zero_le _) ⟨rfl, rfl, rfl, rfl⟩
set_option maxHeartbeats 4000000 in
set_option maxRecDepth 100000 in
theorem k_X3_beginnerOf {l : Launch} {D : va_G} {K : zKs} {IL : List zI} {sh : zSh} {ad : zAd} {S : zSt} {x : Int32} : zMet l yX3_beginnerOf cX3_beginnerOf 1 (some .int) { frames := 0, cells := 0, slots := 0, locals := 0 } D K IL sh ad S [.int x] (zEq (some (.int (x >>> ((3 : Int32) &&& 31) &&& 15))) sh ad (S)) := by
  refine zEnter (own := RX3) (lv0 := [some (.int x)]) (by decide) rfl (by simp [Value.category]) (Nat.le_of_ble_eq_true rfl) rfl ?_
  intro p e s m below meth c A C _ hnm
  refine Zr_iload_n C dX3_beginnerOf_0 rfl ?_
  refine Zr_iconst C (3) dX3_beginnerOf_1 rfl ?_
  refine Zr_ishr C dX3_beginnerOf_2 ?_
  refine Zr_bipush C (15) dX3_beginnerOf_3 rfl ?_
  refine Zr_iand C dX3_beginnerOf_5 ?_
  exact Zr_iret C dX3_beginnerOf_6 (Nat.zero_le _) (Nat.zero_le _) ⟨rfl, rfl, rfl, rfl⟩
set_option maxHeartbeats 4000000 in
set_option maxRecDepth 100000 in
theorem k_X3_numberOf {l : Launch} {D : va_G} {K : zKs} {IL : List zI} {sh : zSh} {ad : zAd} {S : zSt} {x : Int32} : zMet l yX3_numberOf cX3_numberOf 1 (some .int) { frames := 0, cells := 0, slots := 0, locals := 0 } D K IL sh ad S [.int x] (zEq (some (.int (x >>> ((7 : Int32) &&& 31)))) sh ad (S)) := by
  refine zEnter (own := RX3) (lv0 := [some (.int x)]) (by decide) rfl (by simp [Value.category]) (Nat.le_of_ble_eq_true rfl) rfl ?_
  intro p e s m below meth c A C _ hnm
  refine Zr_iload_n C dX3_numberOf_0 rfl ?_
  refine Zr_bipush C (7) dX3_numberOf_1 rfl ?_
  refine Zr_ishr C dX3_numberOf_3 ?_
  exact Zr_iret C dX3_numberOf_4 (Nat.zero_le _) (Nat.zero_le _) ⟨rfl, rfl, rfl, rfl⟩
set_option maxHeartbeats 4000000 in
set_option maxRecDepth 100000 in
theorem k_X3_probeOf {l : Launch} {D : va_G} {K : zKs} {IL : List zI} {sh : zSh} {ad : zAd} {S : zSt} {x y : Int32} : zMet l yX3_probeOf cX3_probeOf 2 (some .int) { frames := 0, cells := 0, slots := 0, locals := 0 } D K IL sh ad S [.int x, .int y] (zEq (some (.int (cPack (6, x, y)))) sh ad (S)) := by
  refine zEnter (own := RX3) (lv0 := [some (.int x), some (.int y)]) (by decide) rfl (by simp [Value.category]) (Nat.le_of_ble_eq_true rfl) rfl ?_
  intro p e s m below meth c A C _ hnm
  refine Zr_iload_n C dX3_probeOf_0 rfl ?_
  refine Zr_bipush C (7) dX3_probeOf_1 rfl ?_
  refine Zr_ishl C dX3_probeOf_3 ?_
  refine Zr_iload_n C dX3_probeOf_4 rfl ?_
  refine Zr_iconst C (3) dX3_probeOf_5 rfl ?_
  refine Zr_ishl C dX3_probeOf_6 ?_
  refine Zr_ior C dX3_probeOf_7 ?_
  refine Zr_bipush C (6) dX3_probeOf_8 rfl ?_
  refine Zr_ior C dX3_probeOf_10 ?_
  exact Zr_iret C dX3_probeOf_11 (Nat.zero_le _) (Nat.zero_le _) ⟨rfl, rfl, rfl, rfl⟩
theorem c_bit1 : ∀ q, q < 32 → (1 : Int32) <<< (nI q &&& 31) = nI (2 ^ q) := by decide +kernel
theorem c_land (a b : Nat) : nI a &&& nI b = nI (a &&& b) := by
  apply Int32.toBitVec_inj.1
  show BitVec.ofNat 32 a &&& BitVec.ofNat 32 b = BitVec.ofNat 32 (a &&& b)
  apply BitVec.eq_of_getLsbD_eq
  intro i hi
  simp [hi]
theorem c_lor (a b : Nat) : nI a ||| nI b = nI (a ||| b) := by
  apply Int32.toBitVec_inj.1
  show BitVec.ofNat 32 a ||| BitVec.ofNat 32 b = BitVec.ofNat 32 (a ||| b)
  apply BitVec.eq_of_getLsbD_eq
  intro i hi
  simp [hi]
theorem c_holds {x q : Nat} (hx : x < 1024) (hq : q < 10) : nI x &&& (1 : Int32) <<< (nI q &&& 31) = 0 ↔ x.testBit q = false := by
  rw [c_bit1 q (by omega), c_land]
  have h1 : x &&& 2 ^ q < 2 ^ 31 := Nat.lt_of_le_of_lt Nat.and_le_left (by omega)
  rw [show (0 : Int32) = nI 0 from rfl, nI_eq h1 (by decide)]
  constructor
  · intro h
    have := congrArg (fun z => z.testBit q) h
    simpa using this
  · intro h
    apply Nat.eq_of_testBit_eq
    intro i
    rw [Nat.testBit_and, Nat.testBit_two_pow]
    by_cases hi : q = i
    · subst hi; simp [h]
    · simp [hi]
set_option maxHeartbeats 4000000 in
set_option maxRecDepth 100000 in
theorem k_X3_holds {l : Launch} {D : va_G} {K : zKs} {IL : List zI} {sh : zSh} {ad : zAd} {S : zSt} {x q : Nat} (hx : x < 1024) (hq : q < 10) : zMet l yX3_holds cX3_holds 2 (some .boolean) { frames := 1, cells := 0, slots := 0, locals := 20 } D K IL sh ad S [.int (nI x), .int (nI q)] (zEq (some (.int (if x.testBit q = true then 1 else 0))) sh ad (S)) := by
  refine zEnter (own := RX3) (lv0 := [some (.int (nI x)), some (.int (nI q))]) (by decide) rfl (by simp [Value.category]) (Nat.le_of_ble_eq_true rfl) rfl ?_
  intro p e s m below meth c A C _ hnm
  refine Zr_iload_n C dX3_holds_0 rfl ?_
  refine Zr_iload_n C dX3_holds_1 rfl ?_
  refine Zr_callS C cw_X3_89 (k_X3_bitOf) rfl (Nat.le_of_ble_eq_true rfl) (Nat.le_of_ble_eq_true rfl) rfl (Nat.le_of_ble_eq_true rfl) dX3_holds_2 ⟨Nat.zero_le _, Nat.zero_le _⟩ ?_
  refine Zr_iand C dX3_holds_5 ?_
  refine Zr_if_eq C 13 dX3_holds_6 (by decide) (fun h6 => ?_) (fun h6 => ?_)
  · refine Zr_iconst C (0) dX3_holds_13 rfl ?_
    exact Zr_zret C dX3_holds_14 (Nat.zero_le _) (Nat.zero_le _) (by first | exact Or.inl rfl | exact Or.inr rfl | assumption) ⟨by first | rw [if_neg (by rw [(c_holds hx hq).mp h6]; decide)] | rw [if_pos ((Bool.not_eq_false _).mp (fun h => h6 ((c_holds hx hq).mpr h)))], rfl, rfl, rfl⟩
  · refine Zr_iconst C (1) dX3_holds_9 rfl ?_
    refine Zr_goto C 14 dX3_holds_10 (by decide) ?_
    exact Zr_zret C dX3_holds_14 (Nat.zero_le _) (Nat.zero_le _) (by first | exact Or.inl rfl | exact Or.inr rfl | assumption) ⟨by first | rw [if_neg (by rw [(c_holds hx hq).mp h6]; decide)] | rw [if_pos ((Bool.not_eq_false _).mp (fun h => h6 ((c_holds hx hq).mpr h)))], rfl, rfl, rfl⟩
set_option maxHeartbeats 4000000 in
set_option maxRecDepth 100000 in
theorem k_X0_placeOf {l : Launch} {D : va_G} {K : zKs} {IL : List zI} {sh : zSh} {ad : zAd} {S : zSt} {r cap b k : Nat} (hm6 : (6, r) ∈ IL) (hs6 : sh (6, r) = .inl (0, [some (7, r), none, none, none])) (hm7 : (7, r) ∈ IL) (hs7 : sh (7, r) = .inr (K.1, cap, none)) (hb : S 6 r 1 = nI b) (hbc : b < cap) (hcap : cap ≤ 2600) (hk : k ≤ 2600) : zMet l yX0_placeOf cX0_placeOf 3 (some .int) { frames := 0, cells := 0, slots := 0, locals := 0 } D K IL sh ad S [.ref (ad (6, r)), .int (nI k)] (zEq (some (.int (nI (cAt b cap k)))) sh ad (S)) := by
  refine zEnter (own := RX0) (lv0 := [some (.ref (ad (6, r))), some (.int (nI k)), none]) (by decide) rfl (by simp [Value.category]) (Nat.le_of_ble_eq_true rfl) rfl ?_
  intro p e s m below meth c A C _ hnm
  refine Zr_aload_n C dX0_placeOf_0 rfl ?_
  refine Zr_getE C gf_X0_36 hm6 rfl hs6 rfl hb dX0_placeOf_1 ?_
  refine Zr_iload_n C dX0_placeOf_4 rfl ?_
  refine Zr_iadd C dX0_placeOf_5 ?_
  refine Zr_topi (y := nI (b + k)) (nI_add _ _) ?_
  refine Zr_istore_n C dX0_placeOf_6 (by decide) ?_
  refine Zr_iload_n C dX0_placeOf_7 rfl ?_
  refine Zr_aload_n C dX0_placeOf_8 rfl ?_
  refine Zr_getR C gf_X0_11 hm6 rfl hs6 rfl (by simp) dX0_placeOf_9 ?_
  refine Zr_alen C 0 hm7 rfl hs7 rfl dX0_placeOf_12 ?_
  refine Zr_icmp_ge C 20 dX0_placeOf_13 (by decide) (fun h13 => ?_) (fun h13 => ?_)
  · refine Zr_iload_n C dX0_placeOf_20 rfl ?_
    refine Zr_aload_n C dX0_placeOf_21 rfl ?_
    refine Zr_getR C gf_X0_11 hm6 rfl hs6 rfl (by simp) dX0_placeOf_22 ?_
    refine Zr_alen C 0 hm7 rfl hs7 rfl dX0_placeOf_25 ?_
    refine Zr_isub C dX0_placeOf_26 ?_
    exact Zr_iret C dX0_placeOf_27 (Nat.zero_le _) (Nat.zero_le _) ⟨by first | (rw [cAt, if_pos (Nat.lt_of_not_le (fun h => h13 (nI_le h (by omega))))]; done) | (rw [cAt, if_neg (Nat.not_lt.mpr ((nI_leI (by omega) (by omega)).mp h13)), pk_sub ((nI_leI (by omega) (by omega)).mp h13)]), rfl, rfl, rfl⟩
  · refine Zr_iload_n C dX0_placeOf_16 rfl ?_
    refine Zr_goto C 27 dX0_placeOf_17 (by decide) ?_
    exact Zr_iret C dX0_placeOf_27 (Nat.zero_le _) (Nat.zero_le _) ⟨by first | (rw [cAt, if_pos (Nat.lt_of_not_le (fun h => h13 (nI_le h (by omega))))]; done) | (rw [cAt, if_neg (Nat.not_lt.mpr ((nI_leI (by omega) (by omega)).mp h13)), pk_sub ((nI_leI (by omega) (by omega)).mp h13)]), rfl, rfl, rfl⟩
theorem cAt_lt {b cap k : Nat} (hb : b < cap) (hk : k ≤ cap) : cAt b cap k < cap := by
  unfold cAt
  split <;> omega
set_option maxHeartbeats 4000000 in
set_option maxRecDepth 100000 in
theorem k_X0_at {l : Launch} {D : va_G} {K : zKs} {IL : List zI} {sh : zSh} {ad : zAd} {S : zSt} {r cap b k : Nat} (hm6 : (6, r) ∈ IL) (hs6 : sh (6, r) = .inl (0, [some (7, r), none, none, none])) (hm7 : (7, r) ∈ IL) (hs7 : sh (7, r) = .inr (K.1, cap, none)) (hb : S 6 r 1 = nI b) (hbc : b < cap) (hcap : cap ≤ 2600) (hk : k ≤ 2600) {v : Int32} (hkc : k ≤ cap) (hv : S 7 r (cAt b cap k) = v) : zMet l yX0_at cX0_at 2 (some .int) { frames := 1, cells := 0, slots := 0, locals := 22 } D K IL sh ad S [.ref (ad (6, r)), .int (nI k)] (zEq (some (.int v)) sh ad (S)) := by
  refine zEnter (own := RX0) (lv0 := [some (.ref (ad (6, r))), some (.int (nI k))]) (by decide) rfl (by simp [Value.category]) (Nat.le_of_ble_eq_true rfl) rfl ?_
  intro p e s m below meth c A C _ hnm
  have hc := cAt_lt hbc hkc
  refine Zr_aload_n C dX0_at_0 rfl ?_
  refine Zr_getR C gf_X0_11 hm6 rfl hs6 rfl (by simp) dX0_at_1 ?_
  refine Zr_aload_n C dX0_at_4 rfl ?_
  refine Zr_iload_n C dX0_at_5 rfl ?_
  refine Zr_callV C cw_X0_15 (k_X0_placeOf hm6 hs6 hm7 hs7 hb hbc hcap hk) hm6 hs6 rfl rfl (Nat.le_of_ble_eq_true rfl) (Nat.le_of_ble_eq_true rfl) rfl (Nat.le_of_ble_eq_true rfl) dX0_at_6 ⟨Nat.zero_le _, Nat.zero_le _⟩ ?_
  refine Zr_ialdN C hm7 rfl hs7 hc (by omega) hv dX0_at_9 ?_
  exact Zr_iret C dX0_at_10 (Nat.zero_le _) (Nat.zero_le _) ⟨rfl, rfl, rfl, rfl⟩
theorem cWf0 {σ : aS} {n i : Nat} (hn : n ≤ 10) : nI (aBits (fun q => σ.1 1 16 (10 * i + q) != 0) n) = 0 ↔ aWf σ n i = 0 := by
  have h := aBits_10 (f := fun q => σ.1 1 16 (10 * i + q) != 0) hn
  show nI _ = nI 0 ↔ _
  rw [nI_eq (by omega) (by decide)]
  exact aBits_zero
set_option maxHeartbeats 4000000 in
set_option maxRecDepth 100000 in
theorem k_X2_isBlocked {l : Launch} {D : va_G} {K : zKs} {n : Nat} {ad : zAd} {ca : Nat → Nat} {S : zSt} {σ : aS} {i : Nat} (hn : n ≤ 10) (hR : cRel n σ S) (hi : i < n) : zMet l yX2_isBlocked cX2_isBlocked 1 (some .boolean) { frames := 0, cells := 0, slots := 0, locals := 0 } D K (cIL n) (cSh K n (cpo n σ.2.2)) (zA ad ca) S [.ref (zA ad ca (4, i))] (zEq (some (.int (if aWf σ n i = 0 then 0 else 1))) (cSh K n (cpo n σ.2.2)) (zA ad ca) (S)) := by
  refine zEnter (own := RX2) (lv0 := [some (.ref (zA ad ca (4, i)))]) (by decide) rfl (by simp [Value.category]) (Nat.le_of_ble_eq_true rfl) rfl ?_
  intro p e s m below meth c A C _ hnm
  refine Zr_aload_n C dX2_isBlocked_0 rfl ?_
  refine Zr_getE C gf_X2_19 (cm4 hi) rfl rfl rfl (hR.w hi).2.2.2.2.2.1 dX2_isBlocked_1 ?_
  refine Zr_if_eq C 11 dX2_isBlocked_4 (by decide) (fun h4 => ?_) (fun h4 => ?_)
  · refine Zr_iconst C (0) dX2_isBlocked_11 rfl ?_
    exact Zr_zret C dX2_isBlocked_12 (Nat.zero_le _) (Nat.zero_le _) (by first | exact Or.inl rfl | exact Or.inr rfl | assumption) ⟨by first | rw [if_pos ((cWf0 hn).mp h4)] | rw [if_neg (fun h => h4 ((cWf0 hn).mpr h))], rfl, rfl, rfl⟩
  · refine Zr_iconst C (1) dX2_isBlocked_7 rfl ?_
    refine Zr_goto C 12 dX2_isBlocked_8 (by decide) ?_
    exact Zr_zret C dX2_isBlocked_12 (Nat.zero_le _) (Nat.zero_le _) (by first | exact Or.inl rfl | exact Or.inr rfl | assumption) ⟨by first | rw [if_pos ((cWf0 hn).mp h4)] | rw [if_neg (fun h => h4 ((cWf0 hn).mpr h))], rfl, rfl, rfl⟩
set_option maxHeartbeats 4000000 in
set_option maxRecDepth 100000 in
theorem k_X2_isFree {l : Launch} {D : va_G} {K : zKs} {n : Nat} {ad : zAd} {ca : Nat → Nat} {S : zSt} {σ : aS} {i : Nat} (hn : n ≤ 10) (hR : cRel n σ S) (hi : i < n) : zMet l yX2_isFree cX2_isFree 1 (some .boolean) { frames := 1, cells := 0, slots := 0, locals := 20 } D K (cIL n) (cSh K n (cpo n σ.2.2)) (zA ad ca) S [.ref (zA ad ca (4, i))] (zEq (some (.int (if aFree σ n i = true then 1 else 0))) (cSh K n (cpo n σ.2.2)) (zA ad ca) (S)) := by
  refine zEnter (own := RX2) (lv0 := [some (.ref (zA ad ca (4, i)))]) (by decide) rfl (by simp [Value.category]) (Nat.le_of_ble_eq_true rfl) rfl ?_
  intro p e s m below meth c A C _ hnm
  by_cases hw : aWf σ n i = 0
  · refine Zr_aload_n C dX2_isFree_0 rfl ?_
    refine Zr_getE C gf_X2_22 (cm4 hi) rfl rfl rfl (hR.w hi).1 dX2_isFree_1 ?_
    refine Zr_if_eq C 18 dX2_isFree_4 (by decide) (fun h4 => ?_) (fun h4 => ?_)
    · refine Zr_iconst C (0) dX2_isFree_18 rfl ?_
      exact Zr_zret C dX2_isFree_19 (Nat.zero_le _) (Nat.zero_le _) (by first | exact Or.inl rfl | exact Or.inr rfl | assumption) ⟨by simp [aFree, hw, h4], rfl, rfl, rfl⟩
    · refine Zr_aload_n C dX2_isFree_7 rfl ?_
      refine Zr_callV C cw_X2_26 (k_X2_isBlocked hn hR hi) (cm4 hi) rfl rfl rfl (Nat.le_of_ble_eq_true rfl) (Nat.le_of_ble_eq_true rfl) rfl (Nat.le_of_ble_eq_true rfl) dX2_isFree_8 ⟨Nat.zero_le _, Nat.zero_le _⟩ ?_
      refine Zr_topi (y := 0) (if_pos hw) ?_
      refine Zr_if_ne C 18 dX2_isFree_11 (by decide) (fun h11 => absurd rfl h11) (fun h11 => ?_)
      refine Zr_iconst C (1) dX2_isFree_14 rfl ?_
      refine Zr_goto C 19 dX2_isFree_15 (by decide) ?_
      exact Zr_zret C dX2_isFree_19 (Nat.zero_le _) (Nat.zero_le _) (by first | exact Or.inl rfl | exact Or.inr rfl | assumption) ⟨by simp [aFree, hw, h4], rfl, rfl, rfl⟩
  · refine Zr_aload_n C dX2_isFree_0 rfl ?_
    refine Zr_getE C gf_X2_22 (cm4 hi) rfl rfl rfl (hR.w hi).1 dX2_isFree_1 ?_
    refine Zr_if_eq C 18 dX2_isFree_4 (by decide) (fun h4 => ?_) (fun h4 => ?_)
    · refine Zr_iconst C (0) dX2_isFree_18 rfl ?_
      exact Zr_zret C dX2_isFree_19 (Nat.zero_le _) (Nat.zero_le _) (by first | exact Or.inl rfl | exact Or.inr rfl | assumption) ⟨by simp [aFree, hw], rfl, rfl, rfl⟩
    · refine Zr_aload_n C dX2_isFree_7 rfl ?_
      refine Zr_callV C cw_X2_26 (k_X2_isBlocked hn hR hi) (cm4 hi) rfl rfl rfl (Nat.le_of_ble_eq_true rfl) (Nat.le_of_ble_eq_true rfl) rfl (Nat.le_of_ble_eq_true rfl) dX2_isFree_8 ⟨Nat.zero_le _, Nat.zero_le _⟩ ?_
      refine Zr_topi (y := 1) (if_neg hw) ?_
      refine Zr_if_ne C 18 dX2_isFree_11 (by decide) (fun h11 => ?_) (fun h11 => absurd h11 (by decide))
      refine Zr_iconst C (0) dX2_isFree_18 rfl ?_
      exact Zr_zret C dX2_isFree_19 (Nat.zero_le _) (Nat.zero_le _) (by first | exact Or.inl rfl | exact Or.inr rfl | assumption) ⟨by simp [aFree, hw], rfl, rfl, rfl⟩
set_option maxHeartbeats 4000000 in
set_option maxRecDepth 100000 in
theorem k_X2_hangsOn {l : Launch} {D : va_G} {K : zKs} {n : Nat} {ad : zAd} {ca : Nat → Nat} {S : zSt} {σ : aS} {i : Nat} (hn : n ≤ 10) (hR : cRel n σ S) (hi : i < n) : zMet l yX2_hangsOn cX2_hangsOn 1 (some .int) { frames := 0, cells := 0, slots := 0, locals := 0 } D K (cIL n) (cSh K n (cpo n σ.2.2)) (zA ad ca) S [.ref (zA ad ca (4, i))] (zEq (some (.int (nI (aBits (fun q => σ.1 1 16 (10 * i + q) != 0) n) &&& (nI (aBits (fun q => σ.1 1 30 (10 * i + q) != 0) n) ^^^ (-1))))) (cSh K n (cpo n σ.2.2)) (zA ad ca) (S)) := by
  refine zEnter (own := RX2) (lv0 := [some (.ref (zA ad ca (4, i)))]) (by decide) rfl (by simp [Value.category]) (Nat.le_of_ble_eq_true rfl) rfl ?_
  intro p e s m below meth c A C _ hnm
  refine Zr_aload_n C dX2_hangsOn_0 rfl ?_
  refine Zr_getE C gf_X2_19 (cm4 hi) rfl rfl rfl (hR.w hi).2.2.2.2.2.1 dX2_hangsOn_1 ?_
  refine Zr_aload_n C dX2_hangsOn_4 rfl ?_
  refine Zr_getE C gf_X2_30 (cm4 hi) rfl rfl rfl (hR.w hi).2.2.2.2.2.2.1 dX2_hangsOn_5 ?_
  refine Zr_iconst C (-1) dX2_hangsOn_8 rfl ?_
  refine Zr_ixor C dX2_hangsOn_9 ?_
  refine Zr_iand C dX2_hangsOn_10 ?_
  exact Zr_iret C dX2_hangsOn_11 (Nat.zero_le _) (Nat.zero_le _) ⟨rfl, rfl, rfl, rfl⟩
set_option maxHeartbeats 4000000 in
set_option maxRecDepth 100000 in
theorem k_X2_noteIfNewer_t {l : Launch} {D : va_G} {K : zKs} {n : Nat} {ad : zAd} {ca : Nat → Nat} {S : zSt} {σ : aS} {i j : Nat} {num : Int32} (hn : n ≤ 10) (hR : cRel n σ S) (hi : i < n) (hj : j < n) (h : σ.1 1 18 (10 * i + j) < num) : zMet l yX2_noteIfNewer cX2_noteIfNewer 3 (some .boolean) { frames := 0, cells := 0, slots := 0, locals := 0 } D K (cIL n) (cSh K n (cpo n σ.2.2)) (zA ad ca) S [.ref (zA ad ca (4, i)), .int (nI j), .int num] (zR (some (.int 1)) (cSh K n (cpo n σ.2.2)) (zA ad ca) (cRel n (aN σ 1 18 (10 * i + j) num))) := by
  refine zEnter (own := RX2) (lv0 := [some (.ref (zA ad ca (4, i))), some (.int (nI j)), some (.int num)]) (by decide) rfl (by simp [Value.category]) (Nat.le_of_ble_eq_true rfl) rfl ?_
  intro p e s m below meth c A C _ hnm
  refine Zr_iload_n C dX2_noteIfNewer_0 rfl ?_
  refine Zr_if_lt C 23 dX2_noteIfNewer_1 (by decide) (fun h1 => absurd h1 (nI_pos (by omega))) (fun h1 => ?_)
  refine Zr_iload_n C dX2_noteIfNewer_4 rfl ?_
  refine Zr_aload_n C dX2_noteIfNewer_5 rfl ?_
  refine Zr_getR C gf_X2_15 (cm4 hi) rfl rfl rfl (by simp) dX2_noteIfNewer_6 ?_
  refine Zr_alen C 0 (cm5 hi) rfl rfl rfl dX2_noteIfNewer_9 ?_
  refine Zr_icmp_ge C 23 dX2_noteIfNewer_10 (by decide) (fun h10 => absurd h10 (nI_ge hj (by omega))) (fun h10 => ?_)
  refine Zr_iload_n C dX2_noteIfNewer_13 rfl ?_
  refine Zr_aload_n C dX2_noteIfNewer_14 rfl ?_
  refine Zr_getR C gf_X2_15 (cm4 hi) rfl rfl rfl (by simp) dX2_noteIfNewer_15 ?_
  refine Zr_iload_n C dX2_noteIfNewer_18 rfl ?_
  refine Zr_ialdN C (cm5 hi) rfl rfl hj (by omega) (hR.2.2.2.2.1 i hi j hj) dX2_noteIfNewer_19 ?_
  refine Zr_icmp_gt C 25 dX2_noteIfNewer_20 (by decide) (fun h20 => ?_) (fun h20 => absurd h h20)
  refine Zr_aload_n C dX2_noteIfNewer_25 rfl ?_
  refine Zr_getR C gf_X2_15 (cm4 hi) rfl rfl rfl (by simp) dX2_noteIfNewer_26 ?_
  refine Zr_iload_n C dX2_noteIfNewer_29 rfl ?_
  refine Zr_iload_n C dX2_noteIfNewer_30 rfl ?_
  refine Zr_iastN C (cm5 hi) rfl rfl hj (by omega) (cRl hR hn hi hj) dX2_noteIfNewer_31 (fun S hR => ?_)
  refine Zr_iconst C (1) dX2_noteIfNewer_32 rfl ?_
  exact Zr_zret C dX2_noteIfNewer_33 (Nat.zero_le _) (Nat.zero_le _) (by first | exact Or.inl rfl | exact Or.inr rfl | assumption) ⟨rfl, rfl, rfl, hR⟩
set_option maxHeartbeats 4000000 in
set_option maxRecDepth 100000 in
theorem k_X2_noteIfNewer_f {l : Launch} {D : va_G} {K : zKs} {n : Nat} {ad : zAd} {ca : Nat → Nat} {S : zSt} {σ : aS} {i j : Nat} {num : Int32} (hn : n ≤ 10) (hR : cRel n σ S) (hi : i < n) (hj : j < n) (h : ¬ σ.1 1 18 (10 * i + j) < num) : zMet l yX2_noteIfNewer cX2_noteIfNewer 3 (some .boolean) { frames := 0, cells := 0, slots := 0, locals := 0 } D K (cIL n) (cSh K n (cpo n σ.2.2)) (zA ad ca) S [.ref (zA ad ca (4, i)), .int (nI j), .int num] (zEq (some (.int 0)) (cSh K n (cpo n σ.2.2)) (zA ad ca) (S)) := by
  refine zEnter (own := RX2) (lv0 := [some (.ref (zA ad ca (4, i))), some (.int (nI j)), some (.int num)]) (by decide) rfl (by simp [Value.category]) (Nat.le_of_ble_eq_true rfl) rfl ?_
  intro p e s m below meth c A C _ hnm
  refine Zr_iload_n C dX2_noteIfNewer_0 rfl ?_
  refine Zr_if_lt C 23 dX2_noteIfNewer_1 (by decide) (fun h1 => absurd h1 (nI_pos (by omega))) (fun h1 => ?_)
  refine Zr_iload_n C dX2_noteIfNewer_4 rfl ?_
  refine Zr_aload_n C dX2_noteIfNewer_5 rfl ?_
  refine Zr_getR C gf_X2_15 (cm4 hi) rfl rfl rfl (by simp) dX2_noteIfNewer_6 ?_
  refine Zr_alen C 0 (cm5 hi) rfl rfl rfl dX2_noteIfNewer_9 ?_
  refine Zr_icmp_ge C 23 dX2_noteIfNewer_10 (by decide) (fun h10 => absurd h10 (nI_ge hj (by omega))) (fun h10 => ?_)
  refine Zr_iload_n C dX2_noteIfNewer_13 rfl ?_
  refine Zr_aload_n C dX2_noteIfNewer_14 rfl ?_
  refine Zr_getR C gf_X2_15 (cm4 hi) rfl rfl rfl (by simp) dX2_noteIfNewer_15 ?_
  refine Zr_iload_n C dX2_noteIfNewer_18 rfl ?_
  refine Zr_ialdN C (cm5 hi) rfl rfl hj (by omega) (hR.2.2.2.2.1 i hi j hj) dX2_noteIfNewer_19 ?_
  refine Zr_icmp_gt C 25 dX2_noteIfNewer_20 (by decide) (fun h20 => absurd h20 h) (fun h20 => ?_)
  refine Zr_iconst C (0) dX2_noteIfNewer_23 rfl ?_
  exact Zr_zret C dX2_noteIfNewer_24 (Nat.zero_le _) (Nat.zero_le _) (by first | exact Or.inl rfl | exact Or.inr rfl | assumption) ⟨rfl, rfl, rfl, rfl⟩
set_option maxHeartbeats 4000000 in
set_option maxRecDepth 100000 in
theorem k_X1_showsEndTo {l : Launch} {D : va_G} {K : zKs} {n : Nat} {ad : zAd} {ca : Nat → Nat} {S : zSt} {σ : aS} {i : Nat} (hn : n ≤ 10) (hR : cRel n σ S) (hi : i < n) : zMet l yX1_showsEndTo cX1_showsEndTo 2 (some .boolean) { frames := 0, cells := 0, slots := 0, locals := 0 } D K (cIL n) (cSh K n (cpo n σ.2.2)) (zA ad ca) S [.ref (zA ad ca (3, 0)), .ref (zA ad ca (4, i))] (zEq (some (.int (if 0 < σ.1 0 0 19 ∧ σ.1 0 0 21 = 0 ∧ σ.1 1 12 i = 0 ∧ σ.1 0 0 20 + σ.1 1 11 i = 0 then 1 else 0))) (cSh K n (cpo n σ.2.2)) (zA ad ca) (S)) := by
  refine zEnter (own := RX1) (lv0 := [some (.ref (zA ad ca (3, 0))), some (.ref (zA ad ca (4, i)))]) (by decide) rfl (by simp [Value.category]) (Nat.le_of_ble_eq_true rfl) rfl ?_
  intro p e s m below meth c A C _ hnm
  by_cases hc : 0 < σ.1 0 0 19 ∧ σ.1 0 0 21 = 0 ∧ σ.1 1 12 i = 0 ∧ σ.1 0 0 20 + σ.1 1 11 i = 0
  · refine Zr_aload_n C dX1_showsEndTo_0 rfl ?_
    refine Zr_getE C gf_X1_15 cm3 rfl rfl rfl hR.2.1.2.2 dX1_showsEndTo_1 ?_
    refine Zr_if_le C 37 dX1_showsEndTo_4 (by decide) (fun h4 => absurd hc.1 (i32_le h4)) (fun h4 => ?_)
    refine Zr_aload_n C dX1_showsEndTo_7 rfl ?_
    refine Zr_getE C gf_X1_18 cm3 rfl rfl rfl hR.2.1.2.1 dX1_showsEndTo_8 ?_
    refine Zr_if_ne C 37 dX1_showsEndTo_11 (by decide) (fun h11 => absurd hc.2.1 h11) (fun h11 => ?_)
    refine Zr_aload_n C dX1_showsEndTo_14 rfl ?_
    refine Zr_getE C gf_X1_22 (cm4 hi) rfl rfl rfl (hR.w hi).2.1 dX1_showsEndTo_15 ?_
    refine Zr_if_ne C 37 dX1_showsEndTo_18 (by decide) (fun h18 => absurd hc.2.2.1 h18) (fun h18 => ?_)
    refine Zr_aload_n C dX1_showsEndTo_21 rfl ?_
    refine Zr_getE C gf_X1_25 cm3 rfl rfl rfl hR.2.1.1 dX1_showsEndTo_22 ?_
    refine Zr_aload_n C dX1_showsEndTo_25 rfl ?_
    refine Zr_getE C gf_X1_28 (cm4 hi) rfl rfl rfl (hR.w hi).2.2.2.2.1 dX1_showsEndTo_26 ?_
    refine Zr_iadd C dX1_showsEndTo_29 ?_
    refine Zr_if_ne C 37 dX1_showsEndTo_30 (by decide) (fun h30 => absurd hc.2.2.2 h30) (fun h30 => ?_)
    refine Zr_iconst C (1) dX1_showsEndTo_33 rfl ?_
    refine Zr_goto C 38 dX1_showsEndTo_34 (by decide) ?_
    exact Zr_zret C dX1_showsEndTo_38 (Nat.zero_le _) (Nat.zero_le _) (by first | exact Or.inl rfl | exact Or.inr rfl | assumption) ⟨by rw [if_pos hc], rfl, rfl, rfl⟩
  · refine Zr_aload_n C dX1_showsEndTo_0 rfl ?_
    refine Zr_getE C gf_X1_15 cm3 rfl rfl rfl hR.2.1.2.2 dX1_showsEndTo_1 ?_
    refine Zr_if_le C 37 dX1_showsEndTo_4 (by decide) (fun h4 => ?_) (fun h4 => ?_)
    · refine Zr_iconst C (0) dX1_showsEndTo_37 rfl ?_
      exact Zr_zret C dX1_showsEndTo_38 (Nat.zero_le _) (Nat.zero_le _) (by first | exact Or.inl rfl | exact Or.inr rfl | assumption) ⟨by rw [if_neg hc], rfl, rfl, rfl⟩
    · refine Zr_aload_n C dX1_showsEndTo_7 rfl ?_
      refine Zr_getE C gf_X1_18 cm3 rfl rfl rfl hR.2.1.2.1 dX1_showsEndTo_8 ?_
      refine Zr_if_ne C 37 dX1_showsEndTo_11 (by decide) (fun h11 => ?_) (fun h11 => ?_)
      · refine Zr_iconst C (0) dX1_showsEndTo_37 rfl ?_
        exact Zr_zret C dX1_showsEndTo_38 (Nat.zero_le _) (Nat.zero_le _) (by first | exact Or.inl rfl | exact Or.inr rfl | assumption) ⟨by rw [if_neg hc], rfl, rfl, rfl⟩
      · refine Zr_aload_n C dX1_showsEndTo_14 rfl ?_
        refine Zr_getE C gf_X1_22 (cm4 hi) rfl rfl rfl (hR.w hi).2.1 dX1_showsEndTo_15 ?_
        refine Zr_if_ne C 37 dX1_showsEndTo_18 (by decide) (fun h18 => ?_) (fun h18 => ?_)
        · refine Zr_iconst C (0) dX1_showsEndTo_37 rfl ?_
          exact Zr_zret C dX1_showsEndTo_38 (Nat.zero_le _) (Nat.zero_le _) (by first | exact Or.inl rfl | exact Or.inr rfl | assumption) ⟨by rw [if_neg hc], rfl, rfl, rfl⟩
        · refine Zr_aload_n C dX1_showsEndTo_21 rfl ?_
          refine Zr_getE C gf_X1_25 cm3 rfl rfl rfl hR.2.1.1 dX1_showsEndTo_22 ?_
          refine Zr_aload_n C dX1_showsEndTo_25 rfl ?_
          refine Zr_getE C gf_X1_28 (cm4 hi) rfl rfl rfl (hR.w hi).2.2.2.2.1 dX1_showsEndTo_26 ?_
          refine Zr_iadd C dX1_showsEndTo_29 ?_
          refine Zr_if_ne C 37 dX1_showsEndTo_30 (by decide) (fun h30 => ?_) (fun h30 => absurd ⟨Int32.not_le.mp h4, h11, h18, h30⟩ hc)
          refine Zr_iconst C (0) dX1_showsEndTo_37 rfl ?_
          exact Zr_zret C dX1_showsEndTo_38 (Nat.zero_le _) (Nat.zero_le _) (by first | exact Or.inl rfl | exact Or.inr rfl | assumption) ⟨by rw [if_neg hc], rfl, rfl, rfl⟩
set_option maxHeartbeats 4000000 in
set_option maxRecDepth 100000 in
theorem k_X1_beginRound {l : Launch} {D : va_G} {K : zKs} {n : Nat} {ad : zAd} {ca : Nat → Nat} {S : zSt} {σ : aS} (hR : cRel n σ S) : zMet l yX1_beginRound cX1_beginRound 1 none { frames := 0, cells := 0, slots := 0, locals := 0 } D K (cIL n) (cSh K n (cpo n σ.2.2)) (zA ad ca) S [.ref (zA ad ca (3, 0))] (zR none (cSh K n (cpo n σ.2.2)) (zA ad ca) (cRel n (aN (aN (aN σ 0 0 19 (σ.1 0 0 19 + 1)) 0 0 21 0) 0 0 20 0))) := by
  refine zEnter (own := RX1) (lv0 := [some (.ref (zA ad ca (3, 0)))]) (by decide) rfl (by simp [Value.category]) (Nat.le_of_ble_eq_true rfl) rfl ?_
  intro p e s m below meth c A C _ hnm
  refine Zr_aload_n C dX1_beginRound_0 rfl ?_
  refine Zr_dup C dX1_beginRound_1 rfl ?_
  refine Zr_getE C gf_X1_15 cm3 rfl rfl rfl hR.2.1.2.2 dX1_beginRound_2 ?_
  refine Zr_iconst C (1) dX1_beginRound_5 rfl ?_
  refine Zr_iadd C dX1_beginRound_6 ?_
  refine Zr_putE C pf_X1_15 cm3 rfl rfl rfl (znI _) (cRt3 hR) dX1_beginRound_7 (fun S hR => ?_)
  refine Zr_aload_n C dX1_beginRound_10 rfl ?_
  refine Zr_iconst C (0) dX1_beginRound_11 rfl ?_
  refine Zr_putE C pf_X1_18 cm3 rfl rfl rfl (znZ (by first | exact Or.inl rfl | exact Or.inr rfl | assumption)) (cRt2 hR) dX1_beginRound_12 (fun S hR => ?_)
  refine Zr_aload_n C dX1_beginRound_15 rfl ?_
  refine Zr_iconst C (0) dX1_beginRound_16 rfl ?_
  refine Zr_putE C pf_X1_25 cm3 rfl rfl rfl (znI _) (cRt1 hR) dX1_beginRound_17 (fun S hR => ?_)
  exact Zr_vret C dX1_beginRound_20 (Nat.zero_le _) (Nat.zero_le _) ⟨rfl, rfl, rfl, hR⟩
set_option maxHeartbeats 4000000 in
set_option maxRecDepth 100000 in
theorem k_X1_collect {l : Launch} {D : va_G} {K : zKs} {n : Nat} {ad : zAd} {ca : Nat → Nat} {S : zSt} {σ : aS} {i : Nat} (hn : n ≤ 10) (hR : cRel n σ S) (hi : i < n) (hb : σ.1 0 0 21 = 0 ∨ σ.1 0 0 21 = 1) : zMet l yX1_collect cX1_collect 2 none { frames := 0, cells := 0, slots := 0, locals := 0 } D K (cIL n) (cSh K n (cpo n σ.2.2)) (zA ad ca) S [.ref (zA ad ca (3, 0)), .ref (zA ad ca (4, i))] (zR none (cSh K n (cpo n σ.2.2)) (zA ad ca) (cRel n (aN (aN (aN σ 0 0 20 (σ.1 0 0 20 + σ.1 1 11 i)) 0 0 21 (if σ.1 0 0 21 ≠ 0 then 1 else if σ.1 1 12 i ≠ 0 then 1 else 0)) 1 12 i 0))) := by
  refine zEnter (own := RX1) (lv0 := [some (.ref (zA ad ca (3, 0))), some (.ref (zA ad ca (4, i)))]) (by decide) rfl (by simp [Value.category]) (Nat.le_of_ble_eq_true rfl) rfl ?_
  intro p e s m below meth c A C _ hnm
  refine Zr_aload_n C dX1_collect_0 rfl ?_
  refine Zr_dup C dX1_collect_1 rfl ?_
  refine Zr_getE C gf_X1_25 cm3 rfl rfl rfl hR.2.1.1 dX1_collect_2 ?_
  refine Zr_aload_n C dX1_collect_5 rfl ?_
  refine Zr_getE C gf_X1_28 (cm4 hi) rfl rfl rfl (hR.w hi).2.2.2.2.1 dX1_collect_6 ?_
  refine Zr_iadd C dX1_collect_9 ?_
  refine Zr_putE C pf_X1_25 cm3 rfl rfl rfl (znI _) (cRt1 hR) dX1_collect_10 (fun S hR => ?_)
  refine Zr_aload_n C dX1_collect_13 rfl ?_
  refine Zr_aload_n C dX1_collect_14 rfl ?_
  refine Zr_getE C gf_X1_18 cm3 rfl rfl rfl hR.2.1.2.1 dX1_collect_15 ?_
  refine Zr_if_ne C 28 dX1_collect_18 (by decide) (fun h18 => ?_) (fun h18 => ?_)
  · have h18 : ¬ σ.1 0 0 21 = 0 := h18
    refine Zr_iconst C (1) dX1_collect_28 rfl ?_
    refine Zr_goto C 33 dX1_collect_29 (by decide) ?_
    refine Zr_putE C pf_X1_18 cm3 rfl rfl rfl (znZ (by first | exact Or.inl rfl | exact Or.inr rfl | assumption)) (cRt2 hR) dX1_collect_33 (fun S hR => ?_)
    refine Zr_aload_n C dX1_collect_36 rfl ?_
    refine Zr_iconst C (0) dX1_collect_37 rfl ?_
    refine Zr_putE C pf_X1_22 (cm4 hi) rfl rfl rfl (znZ (by first | exact Or.inl rfl | exact Or.inr rfl | assumption)) (cRw2 hR) dX1_collect_38 (fun S hR => ?_)
    exact Zr_vret C dX1_collect_41 (Nat.zero_le _) (Nat.zero_le _) ⟨rfl, rfl, rfl, by first | (rw [if_pos h18]; exact hR) | (rw [if_neg (fun h => h h18), if_pos h25]; exact hR) | (rw [if_neg (fun h => h h18), if_neg (fun h => h h25)]; exact hR)⟩
  · have h18 : σ.1 0 0 21 = 0 := h18
    refine Zr_aload_n C dX1_collect_21 rfl ?_
    refine Zr_getE C gf_X1_22 (cm4 hi) rfl rfl rfl (hR.w hi).2.1 dX1_collect_22 ?_
    refine Zr_if_eq C 32 dX1_collect_25 (by decide) (fun h25 => ?_) (fun h25 => ?_)
    · have h25 : σ.1 1 12 i = 0 := h25
      refine Zr_iconst C (0) dX1_collect_32 rfl ?_
      refine Zr_putE C pf_X1_18 cm3 rfl rfl rfl (znZ (by first | exact Or.inl rfl | exact Or.inr rfl | assumption)) (cRt2 hR) dX1_collect_33 (fun S hR => ?_)
      refine Zr_aload_n C dX1_collect_36 rfl ?_
      refine Zr_iconst C (0) dX1_collect_37 rfl ?_
      refine Zr_putE C pf_X1_22 (cm4 hi) rfl rfl rfl (znZ (by first | exact Or.inl rfl | exact Or.inr rfl | assumption)) (cRw2 hR) dX1_collect_38 (fun S hR => ?_)
      exact Zr_vret C dX1_collect_41 (Nat.zero_le _) (Nat.zero_le _) ⟨rfl, rfl, rfl, by first | (rw [if_pos h18]; exact hR) | (rw [if_neg (fun h => h h18), if_pos h25]; exact hR) | (rw [if_neg (fun h => h h18), if_neg (fun h => h h25)]; exact hR)⟩
    · have h25 : ¬ σ.1 1 12 i = 0 := h25
      refine Zr_iconst C (1) dX1_collect_28 rfl ?_
      refine Zr_goto C 33 dX1_collect_29 (by decide) ?_
      refine Zr_putE C pf_X1_18 cm3 rfl rfl rfl (znZ (by first | exact Or.inl rfl | exact Or.inr rfl | assumption)) (cRt2 hR) dX1_collect_33 (fun S hR => ?_)
      refine Zr_aload_n C dX1_collect_36 rfl ?_
      refine Zr_iconst C (0) dX1_collect_37 rfl ?_
      refine Zr_putE C pf_X1_22 (cm4 hi) rfl rfl rfl (znZ (by first | exact Or.inl rfl | exact Or.inr rfl | assumption)) (cRw2 hR) dX1_collect_38 (fun S hR => ?_)
      exact Zr_vret C dX1_collect_41 (Nat.zero_le _) (Nat.zero_le _) ⟨rfl, rfl, rfl, by first | (rw [if_pos h18]; exact hR) | (rw [if_neg (fun h => h h18), if_pos h25]; exact hR) | (rw [if_neg (fun h => h h18), if_neg (fun h => h h25)]; exact hR)⟩
