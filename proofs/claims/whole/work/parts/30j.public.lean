def cBc (x : Int32) : Int32 := (let a := x - ((x.toUInt32 >>> ((1 : Int32).toUInt32 &&& Int32.toUInt32 31)).toInt32 &&& 1431655765)
  let b := (a &&& 858993459) + ((a.toUInt32 >>> ((2 : Int32).toUInt32 &&& Int32.toUInt32 31)).toInt32 &&& 858993459)
  let c := (b + (b.toUInt32 >>> ((4 : Int32).toUInt32 &&& Int32.toUInt32 31)).toInt32) &&& 252645135
  let d := c + (c.toUInt32 >>> ((8 : Int32).toUInt32 &&& Int32.toUInt32 31)).toInt32
  let e := d + (d.toUInt32 >>> ((16 : Int32).toUInt32 &&& Int32.toUInt32 31)).toInt32
  e &&& 63)
def cPop (x : Nat) : Nat := aCnt (fun q => x.testBit q) 10
theorem cBc_ok : ∀ x, x < 1024 → cBc (nI x) = nI (cPop x) := by decide +kernel
theorem cPop_bits {f : Nat → Bool} {n : Nat} (hn : n ≤ 10) : cPop (aBits f n) = aCnt f n := by
  have h1 : ∀ m, n ≤ m → aCnt (fun q => (aBits f n).testBit q) m = aCnt f n := by
    intro m
    induction m with
    | zero =>
      intro h
      have : n = 0 := by omega
      subst this
      rfl
    | succ m ih =>
      intro h
      by_cases hm : n = m + 1
      · subst hm
        apply aCnt_cong
        intro k hk
        rw [aBits_bit]
        simp [hk]
      · simp only [aCnt]
        rw [ih (by omega)]
        have : ¬ m < n := by omega
        simp [aBits_bit, this]
  exact h1 10 hn
theorem aN_r12 (σ : aS) (v w x : Int32) : aN (aN (aN σ 0 0 21 v) 0 0 20 w) 1 12 0 x = aN (aN (aN σ 1 12 0 x) 0 0 21 v) 0 0 20 w := by
  refine Prod.ext ?_ rfl
  funext a b k
  simp only [aN, z3]
  by_cases h : a = 1
  · subst h; simp
  · simp [h]
set_option maxHeartbeats 1000000 in
set_option maxRecDepth 100000 in
theorem k_J6_bitCount_0f7a4 {l : Launch} {D : va_G} {K : zKs} {IL : List zI} {sh : zSh} {ad : zAd} {S : zSt} {x : Nat} (hx : x < 1024) : zMet l yJ6_bitCount_0f7a4 cJ6_bitCount_0f7a4 1 (some .int) { frames := 0, cells := 0, slots := 0, locals := 0 } D K IL sh ad S [.int (nI x)] (zEq (some (.int (nI (cPop x)))) sh ad (S)) := by
  refine zEnter (own := RJ6) (lv0 := [some (.int (nI x))]) (by decide) rfl (by simp [Value.category]) (Nat.le_of_ble_eq_true rfl) rfl ?_
  intro p e s m below meth c A C _ hnm
  refine Zr_iload_n C dJ6_bitCount_0f7a4_0 rfl ?_
  refine Zr_iload_n C dJ6_bitCount_0f7a4_1 rfl ?_
  refine Zr_iconst C (1) dJ6_bitCount_0f7a4_2 rfl ?_
  refine Zr_iushr C dJ6_bitCount_0f7a4_3 ?_
  refine Zr_ldcw C ct_J6_265 dJ6_bitCount_0f7a4_4 ?_
  refine Zr_iand C dJ6_bitCount_0f7a4_7 ?_
  refine Zr_isub C dJ6_bitCount_0f7a4_8 ?_
  refine Zr_istore_n C dJ6_bitCount_0f7a4_9 (by decide) ?_
  refine Zr_iload_n C dJ6_bitCount_0f7a4_10 rfl ?_
  refine Zr_ldcw C ct_J6_266 dJ6_bitCount_0f7a4_11 ?_
  refine Zr_iand C dJ6_bitCount_0f7a4_14 ?_
  refine Zr_iload_n C dJ6_bitCount_0f7a4_15 rfl ?_
  refine Zr_iconst C (2) dJ6_bitCount_0f7a4_16 rfl ?_
  refine Zr_iushr C dJ6_bitCount_0f7a4_17 ?_
  refine Zr_ldcw C ct_J6_266 dJ6_bitCount_0f7a4_18 ?_
  refine Zr_iand C dJ6_bitCount_0f7a4_21 ?_
  refine Zr_iadd C dJ6_bitCount_0f7a4_22 ?_
  refine Zr_istore_n C dJ6_bitCount_0f7a4_23 (by decide) ?_
  refine Zr_iload_n C dJ6_bitCount_0f7a4_24 rfl ?_
  refine Zr_iload_n C dJ6_bitCount_0f7a4_25 rfl ?_
  refine Zr_iconst C (4) dJ6_bitCount_0f7a4_26 rfl ?_
  refine Zr_iushr C dJ6_bitCount_0f7a4_27 ?_
  refine Zr_iadd C dJ6_bitCount_0f7a4_28 ?_
  refine Zr_ldcw C ct_J6_267 dJ6_bitCount_0f7a4_29 ?_
  refine Zr_iand C dJ6_bitCount_0f7a4_32 ?_
  refine Zr_istore_n C dJ6_bitCount_0f7a4_33 (by decide) ?_
  refine Zr_iload_n C dJ6_bitCount_0f7a4_34 rfl ?_
  refine Zr_iload_n C dJ6_bitCount_0f7a4_35 rfl ?_
  refine Zr_bipush C (8) dJ6_bitCount_0f7a4_36 rfl ?_
  refine Zr_iushr C dJ6_bitCount_0f7a4_38 ?_
  refine Zr_iadd C dJ6_bitCount_0f7a4_39 ?_
  refine Zr_istore_n C dJ6_bitCount_0f7a4_40 (by decide) ?_
  refine Zr_iload_n C dJ6_bitCount_0f7a4_41 rfl ?_
  refine Zr_iload_n C dJ6_bitCount_0f7a4_42 rfl ?_
  refine Zr_bipush C (16) dJ6_bitCount_0f7a4_43 rfl ?_
  refine Zr_iushr C dJ6_bitCount_0f7a4_45 ?_
  refine Zr_iadd C dJ6_bitCount_0f7a4_46 ?_
  refine Zr_istore_n C dJ6_bitCount_0f7a4_47 (by decide) ?_
  refine Zr_iload_n C dJ6_bitCount_0f7a4_48 rfl ?_
  refine Zr_bipush C (63) dJ6_bitCount_0f7a4_49 rfl ?_
  refine Zr_iand C dJ6_bitCount_0f7a4_51 ?_
  exact Zr_iret C dJ6_bitCount_0f7a4_52 (Nat.zero_le _) (Nat.zero_le _) ⟨by rw [← cBc_ok x hx]; rfl, rfl, rfl, rfl⟩
set_option maxHeartbeats 1000000 in
set_option maxRecDepth 100000 in
theorem k_X3_probe {l : Launch} {D : va_G} {K : zKs} {n : Nat} {ad : zAd} {ca : Nat → Nat} {S : zSt} {σ : aS} (hO : cOK n σ) (hR : cRel n σ S) {i F : Nat} (hi : i < n) (hF : aLam (fProbe n σ i).2 ≤ F) : zMet l yX3_probe cX3_probe 3 (some .int) { frames := 4, cells := (F - aLam σ), slots := (2 * (F - aLam σ)), locals := 90 } D K (cIL n) (cSh K n (cpo n σ.2.2)) (zA ad ca) S [.ref (zA ad ca (0, 0)), .int (nI i)] (cP K n ad (some (.int (fProbe n σ i).1)) (fProbe n σ i).2) := by
  refine zEnter (own := RX3) (lv0 := [some (.ref (zA ad ca (0, 0))), some (.int (nI i)), none]) (by decide) rfl (by simp [Value.category]) (Nat.le_of_ble_eq_true rfl) rfl ?_
  intro p e s m below meth c A C _ hnm
  have hB := hO.b
  have hn := hO.ten
  obtain ⟨k, hk, ek⟩ := hO.pr i hi
  by_cases hw : aWf σ n i = 0
  · have hl : fProbe n σ i = (-1, σ) := if_neg (fun h => h.1 hw)
    refine Zr_aload_n C dX3_probe_0 rfl ?_
    refine Zr_iload_n C dX3_probe_1 rfl ?_
    refine Zr_callV C cw_X3_54 (k_X3_workerAt_t hB hR hi) cm0 rfl rfl rfl (Nat.le_of_ble_eq_true rfl) (Nat.le_of_ble_eq_true rfl) rfl (Nat.le_of_ble_eq_true rfl) dX3_probe_2 ⟨Nat.zero_le _, Nat.zero_le _⟩ ?_
    refine Zr_astore_n C dX3_probe_5 (by decide) ?_
    refine Zr_aload_n C dX3_probe_6 rfl ?_
    refine Zr_ifnull C dX3_probe_7 ?_
    refine Zr_aload_n C dX3_probe_10 rfl ?_
    refine Zr_callV C cw_X3_104 (k_X2_isBlocked hn hR hi) (cm4 hi) rfl rfl rfl (Nat.le_of_ble_eq_true rfl) (Nat.le_of_ble_eq_true rfl) rfl (Nat.le_of_ble_eq_true rfl) dX3_probe_11 ⟨Nat.zero_le _, Nat.zero_le _⟩ ?_
    refine Zr_topi (y := 0) (if_pos hw) ?_
    refine Zr_if_eq C 26 dX3_probe_14 (by decide) (fun h14 => ?_) (fun h14 => absurd rfl h14)
    refine Zr_iconst C (-1) dX3_probe_26 rfl ?_
    exact Zr_iret C dX3_probe_27 (Nat.zero_le _) (Nat.zero_le _) (by rw [hl]; exact ⟨rfl, rfl, ⟨_, rfl⟩, hR⟩)
  · by_cases h50 : k = 50
    · have hl : fProbe n σ i = (-1, σ) := if_neg (fun h => h.2 (by rw [ek, h50]; rfl))
      refine Zr_aload_n C dX3_probe_0 rfl ?_
      refine Zr_iload_n C dX3_probe_1 rfl ?_
      refine Zr_callV C cw_X3_54 (k_X3_workerAt_t hB hR hi) cm0 rfl rfl rfl (Nat.le_of_ble_eq_true rfl) (Nat.le_of_ble_eq_true rfl) rfl (Nat.le_of_ble_eq_true rfl) dX3_probe_2 ⟨Nat.zero_le _, Nat.zero_le _⟩ ?_
      refine Zr_astore_n C dX3_probe_5 (by decide) ?_
      refine Zr_aload_n C dX3_probe_6 rfl ?_
      refine Zr_ifnull C dX3_probe_7 ?_
      refine Zr_aload_n C dX3_probe_10 rfl ?_
      refine Zr_callV C cw_X3_104 (k_X2_isBlocked hn hR hi) (cm4 hi) rfl rfl rfl (Nat.le_of_ble_eq_true rfl) (Nat.le_of_ble_eq_true rfl) rfl (Nat.le_of_ble_eq_true rfl) dX3_probe_11 ⟨Nat.zero_le _, Nat.zero_le _⟩ ?_
      refine Zr_topi (y := 1) (if_neg hw) ?_
      refine Zr_if_eq C 26 dX3_probe_14 (by decide) (fun h14 => absurd h14 (by decide)) (fun h14 => ?_)
      refine Zr_aload_n C dX3_probe_17 rfl ?_
      refine Zr_getE C gf_X3_120 (cm4 hi) rfl rfl rfl ((hR.w hi).2.2.2.2.2.2.2.2.2.trans ek) dX3_probe_18 ?_
      refine Zr_bipush C (50) dX3_probe_21 rfl ?_
      refine Zr_icmp_lt C 28 dX3_probe_23 (by decide) (fun h23 => absurd h23 (by rw [h50]; decide)) (fun h23 => ?_)
      refine Zr_iconst C (-1) dX3_probe_26 rfl ?_
      exact Zr_iret C dX3_probe_27 (Nat.zero_le _) (Nat.zero_le _) (by rw [hl]; exact ⟨rfl, rfl, ⟨_, rfl⟩, hR⟩)
    · have hl : fProbe n σ i = (σ.1 1 15 i + 1, aAll (aN σ 1 15 i (σ.1 1 15 i + 1)) i (aWaits σ i) n (6, nI i, σ.1 1 15 i + 1)) := if_pos ⟨hw, fun h => h50 ((nI_eq (b := 50) (by omega) (by decide)).mp (ek ▸ h))⟩
      have ek1 : σ.1 1 15 i + 1 = nI (k + 1) := by rw [ek, nI_1]
      rw [ek1] at hl
      have hB2 : aB n (aN σ 1 15 i (nI (k + 1))) := hB.a (fun h => by omega)
      have hwm : aWM n (6, nI i, nI (k + 1)) := Or.inr ⟨rfl, i, hi, rfl, k + 1, by omega, rfl⟩
      refine Zr_aload_n C dX3_probe_0 rfl ?_
      refine Zr_iload_n C dX3_probe_1 rfl ?_
      refine Zr_callV C cw_X3_54 (k_X3_workerAt_t hB hR hi) cm0 rfl rfl rfl (Nat.le_of_ble_eq_true rfl) (Nat.le_of_ble_eq_true rfl) rfl (Nat.le_of_ble_eq_true rfl) dX3_probe_2 ⟨Nat.zero_le _, Nat.zero_le _⟩ ?_
      refine Zr_astore_n C dX3_probe_5 (by decide) ?_
      refine Zr_aload_n C dX3_probe_6 rfl ?_
      refine Zr_ifnull C dX3_probe_7 ?_
      refine Zr_aload_n C dX3_probe_10 rfl ?_
      refine Zr_callV C cw_X3_104 (k_X2_isBlocked hn hR hi) (cm4 hi) rfl rfl rfl (Nat.le_of_ble_eq_true rfl) (Nat.le_of_ble_eq_true rfl) rfl (Nat.le_of_ble_eq_true rfl) dX3_probe_11 ⟨Nat.zero_le _, Nat.zero_le _⟩ ?_
      refine Zr_topi (y := 1) (if_neg hw) ?_
      refine Zr_if_eq C 26 dX3_probe_14 (by decide) (fun h14 => absurd h14 (by decide)) (fun h14 => ?_)
      refine Zr_aload_n C dX3_probe_17 rfl ?_
      refine Zr_getE C gf_X3_120 (cm4 hi) rfl rfl rfl ((hR.w hi).2.2.2.2.2.2.2.2.2.trans ek) dX3_probe_18 ?_
      refine Zr_bipush C (50) dX3_probe_21 rfl ?_
      refine Zr_icmp_lt C 28 dX3_probe_23 (by decide) (fun h23 => ?_) (fun h23 => absurd (nI_lt (b := 50) (by omega) (by decide)) h23)
      refine Zr_aload_n C dX3_probe_28 rfl ?_
      refine Zr_dup C dX3_probe_29 rfl ?_
      refine Zr_getE C gf_X3_120 (cm4 hi) rfl rfl rfl ((hR.w hi).2.2.2.2.2.2.2.2.2.trans ek) dX3_probe_30 ?_
      refine Zr_iconst C (1) dX3_probe_33 rfl ?_
      refine Zr_iadd C dX3_probe_34 ?_
      refine Zr_topi (y := nI (k + 1)) (nI_1 _) ?_
      refine Zr_putE C pf_X3_120 (cm4 hi) rfl rfl rfl (znI _) (cRw10 hR) dX3_probe_35 (fun S hR => ?_)
      refine Zr_aload_n C dX3_probe_38 rfl ?_
      refine Zr_iload_n C dX3_probe_39 rfl ?_
      refine Zr_aload_n C dX3_probe_40 rfl ?_
      refine Zr_getE C gf_X3_92 (cm4 hi) rfl rfl rfl (hR.w hi).2.2.2.2.2.1 dX3_probe_41 ?_
      refine Zr_iload_n C dX3_probe_44 rfl ?_
      refine Zr_aload_n C dX3_probe_45 rfl ?_
      refine Zr_getE C gf_X3_120 (cm4 hi) rfl rfl rfl ((hR.w hi).2.2.2.2.2.2.2.2.2.trans (by simp [aN, z3] : (aN σ 1 15 i (nI (k + 1))).1 1 15 i = nI (k + 1))) dX3_probe_46 ?_
      refine Zr_callS C cw_X3_123 (k_X3_probeOf) rfl (Nat.le_of_ble_eq_true rfl) (Nat.le_of_ble_eq_true rfl) rfl (Nat.le_of_ble_eq_true rfl) dX3_probe_49 ⟨Nat.zero_le _, Nat.zero_le _⟩ ?_
      refine Zr_callVCv C cw_X3_95 (k_X3_putToEach (σ := aN σ 1 15 i (nI (k + 1))) (f := aWaits σ i) (mm := (6, nI i, nI (k + 1))) hB2 hR hi (aBits_10 hn) (by simp [aWaits, (hO.dg i hi).1]) (fun q hq _ => by rw [aBits_bit]; simp [hq, aWaits, aN, z3]) hwm (by rw [hl] at hF; exact hF) hO.len) cm0 rfl rfl rfl (Nat.le_of_ble_eq_true rfl) (Nat.le_of_ble_eq_true rfl) rfl (Nat.le_of_ble_eq_true rfl) dX3_probe_52 ⟨by show 0 + (F - aLam σ) ≤ F - aLam σ; omega, by show 0 + 2 * (F - aLam σ) ≤ 2 * (F - aLam σ); omega⟩ (fun ca S hR => ?_)
      refine Zr_aload_n C dX3_probe_55 rfl ?_
      refine Zr_getE C gf_X3_120 (cm4 hi) rfl rfl rfl ((hR.w hi).2.2.2.2.2.2.2.2.2.trans (by simp [aAll, aN, z3] : (aAll (aN σ 1 15 i (nI (k + 1))) i (aWaits σ i) n (6, nI i, nI (k + 1))).1 1 15 i = nI (k + 1))) dX3_probe_56 ?_
      exact Zr_iret C dX3_probe_59 (by first | exact Nat.zero_le _ | (show 0 + (F - aLam σ) ≤ F - aLam σ; omega)) (by first | exact Nat.zero_le _ | (show 0 + 2 * (F - aLam σ) ≤ 2 * (F - aLam σ); omega)) (by rw [hl]; exact ⟨rfl, rfl, ⟨_, rfl⟩, hR⟩)
set_option maxHeartbeats 1000000 in
set_option maxRecDepth 100000 in
theorem k_X3_probe_f {l : Launch} {D : va_G} {K : zKs} {n : Nat} {ad : zAd} {ca : Nat → Nat} {S : zSt} {σ : aS} (hB : aB n σ) (hR : cRel n σ S) {x : Int32} (hx : aBad n x) : zMet l yX3_probe cX3_probe 3 (some .int) { frames := 4, cells := 0, slots := 0, locals := 90 } D K (cIL n) (cSh K n (cpo n σ.2.2)) (zA ad ca) S [.ref (zA ad ca (0, 0)), .int x] (zEq (some (.int (-1))) (cSh K n (cpo n σ.2.2)) (zA ad ca) (S)) := by
  refine zEnter (own := RX3) (lv0 := [some (.ref (zA ad ca (0, 0))), some (.int x), none]) (by decide) rfl (by simp [Value.category]) (Nat.le_of_ble_eq_true rfl) rfl ?_
  intro p e s m below meth c A C _ hnm
  refine Zr_aload_n C dX3_probe_0 rfl ?_
  refine Zr_iload_n C dX3_probe_1 rfl ?_
  refine Zr_callV C cw_X3_54 (k_X3_workerAt_f hB hR hx) cm0 rfl rfl rfl (Nat.le_of_ble_eq_true rfl) (Nat.le_of_ble_eq_true rfl) rfl (Nat.le_of_ble_eq_true rfl) dX3_probe_2 ⟨Nat.zero_le _, Nat.zero_le _⟩ ?_
  refine Zr_astore_nN C dX3_probe_5 (by decide) ?_
  refine Zr_aload_nN C dX3_probe_6 rfl ?_
  refine Zr_ifnullN C 26 dX3_probe_7 (by decide) ?_
  refine Zr_iconst C (-1) dX3_probe_26 rfl ?_
  exact Zr_iret C dX3_probe_27 (Nat.zero_le _) (Nat.zero_le _) ⟨rfl, rfl, rfl, rfl⟩
set_option maxHeartbeats 1000000 in
set_option maxRecDepth 100000 in
theorem k_X3_pass {l : Launch} {D : va_G} {K : zKs} {n : Nat} {ad : zAd} {ca : Nat → Nat} {S : zSt} {σ : aS} (hO : cOK n σ) (hR : cRel n σ S) {i F : Nat} (hi : i < n) (hF : aLam (fPass n σ i).2 ≤ F) : zMet l yX3_pass cX3_pass 3 (some .int) { frames := 5, cells := (F - aLam σ), slots := (2 * (F - aLam σ)), locals := 111 } D K (cIL n) (cSh K n (cpo n σ.2.2)) (zA ad ca) S [.ref (zA ad ca (0, 0)), .int (nI i)] (cP K n ad (some (.int (fPass n σ i).1)) (fPass n σ i).2) := by
  refine zEnter (own := RX3) (lv0 := [some (.ref (zA ad ca (0, 0))), some (.int (nI i)), none]) (by decide) rfl (by simp [Value.category]) (Nat.le_of_ble_eq_true rfl) rfl ?_
  intro p e s m below meth c A C _ hnm
  have hB := hO.b
  have hn := hO.ten
  have hn2 := hB.2.1
  have hb21 := hB.2.2.2.1 21 (by decide)
  rcases Nat.eq_zero_or_pos i with h0 | hz
  · have hB2 : aB n (aN σ 0 0 3 1) := hB.g (by decide) (fun _ => Or.inr rfl)
    have h0n : 0 < n := by omega
    by_cases hc : 0 < σ.1 0 0 19 ∧ σ.1 0 0 21 = 0 ∧ σ.1 1 12 i = 0 ∧ σ.1 0 0 20 + σ.1 1 11 i = 0
    · have hc0 : 0 < σ.1 0 0 19 ∧ σ.1 0 0 21 = 0 ∧ σ.1 1 12 0 = 0 ∧ σ.1 0 0 20 + σ.1 1 11 0 = 0 := by rw [h0] at hc; exact hc
      refine Zr_aload_n C dX3_pass_0 rfl ?_
      refine Zr_iload_n C dX3_pass_1 rfl ?_
      refine Zr_callV C cw_X3_54 (k_X3_workerAt_t hB hR hi) cm0 rfl rfl rfl (Nat.le_of_ble_eq_true rfl) (Nat.le_of_ble_eq_true rfl) rfl (Nat.le_of_ble_eq_true rfl) dX3_pass_2 ⟨Nat.zero_le _, Nat.zero_le _⟩ ?_
      refine Zr_astore_n C dX3_pass_5 (by decide) ?_
      refine Zr_aload_n C dX3_pass_6 rfl ?_
      refine Zr_ifnull C dX3_pass_7 ?_
      refine Zr_aload_n C dX3_pass_10 rfl ?_
      refine Zr_getR C gf_X3_41 cm0 rfl rfl rfl (by simp) dX3_pass_11 ?_
      refine Zr_get C gf_X3_126 cm3 rfl rfl rfl dX3_pass_14 ?_
      refine Zr_iload_n C dX3_pass_17 rfl ?_
      refine Zr_icmp_ne C 42 dX3_pass_18 (by decide) (fun h18 => ?_) (fun h18 => ?_)
      · have h18z : σ.1 1 13 i = 0 := by have := hR.2.2.1 i hi; rw [if_neg h18] at this; exact this
        refine Zr_iconst C (-1) dX3_pass_42 rfl ?_
        exact Zr_iret C dX3_pass_43 (Nat.zero_le _) (Nat.zero_le _) (by rw [show fPass n σ i = (-1, σ) from if_pos (by first | exact Or.inl h18z | exact Or.inr (Or.inl h25) | exact Or.inr (Or.inr (Or.inl h32)) | exact Or.inr (Or.inr (Or.inr h39)))]; exact ⟨rfl, rfl, ⟨_, rfl⟩, hR⟩)
      · have h13 : σ.1 1 13 i ≠ 0 := by have := hR.2.2.1 i hi; rw [if_pos h18] at this; rw [this]; decide
        refine Zr_aload_n C dX3_pass_21 rfl ?_
        refine Zr_getE C gf_X3_49 (cm4 hi) rfl rfl rfl (hR.w hi).1 dX3_pass_22 ?_
        refine Zr_if_ne C 42 dX3_pass_25 (by decide) (fun h25 => ?_) (fun h25 => ?_)
        · refine Zr_iconst C (-1) dX3_pass_42 rfl ?_
          exact Zr_iret C dX3_pass_43 (Nat.zero_le _) (Nat.zero_le _) (by rw [show fPass n σ i = (-1, σ) from if_pos (by first | exact Or.inl h18z | exact Or.inr (Or.inl h25) | exact Or.inr (Or.inr (Or.inl h32)) | exact Or.inr (Or.inr (Or.inr h39)))]; exact ⟨rfl, rfl, ⟨_, rfl⟩, hR⟩)
        · refine Zr_aload_n C dX3_pass_28 rfl ?_
          refine Zr_getE C gf_X3_45 cm0 rfl rfl rfl hR.1.2.1 dX3_pass_29 ?_
          refine Zr_if_eq C 42 dX3_pass_32 (by decide) (fun h32 => ?_) (fun h32 => ?_)
          · refine Zr_iconst C (-1) dX3_pass_42 rfl ?_
            exact Zr_iret C dX3_pass_43 (Nat.zero_le _) (Nat.zero_le _) (by rw [show fPass n σ i = (-1, σ) from if_pos (by first | exact Or.inl h18z | exact Or.inr (Or.inl h25) | exact Or.inr (Or.inr (Or.inl h32)) | exact Or.inr (Or.inr (Or.inr h39)))]; exact ⟨rfl, rfl, ⟨_, rfl⟩, hR⟩)
          · refine Zr_aload_n C dX3_pass_35 rfl ?_
            refine Zr_getE C gf_X3_129 cm0 rfl rfl rfl hR.1.2.2.2.1 dX3_pass_36 ?_
            refine Zr_if_eq C 44 dX3_pass_39 (by decide) (fun h39 => ?_) (fun h39 => ?_)
            · refine Zr_iload_n C dX3_pass_44 rfl ?_
              refine Zr_if_eq C 66 dX3_pass_45 (by decide) (fun h45 => ?_) (fun h45 => absurd (by rw [h0]; rfl) h45)
              refine Zr_aload_n C dX3_pass_66 rfl ?_
              refine Zr_getR C gf_X3_41 cm0 rfl rfl rfl (by simp) dX3_pass_67 ?_
              refine Zr_aload_n C dX3_pass_70 rfl ?_
              refine Zr_callV C cw_X3_140 (k_X1_showsEndTo hn hR hi) cm3 rfl rfl rfl (Nat.le_of_ble_eq_true rfl) (Nat.le_of_ble_eq_true rfl) rfl (Nat.le_of_ble_eq_true rfl) dX3_pass_71 ⟨Nat.zero_le _, Nat.zero_le _⟩ ?_
              refine Zr_topi (y := 1) (if_pos hc) ?_
              refine Zr_if_eq C 88 dX3_pass_74 (by decide) (fun h74 => absurd h74 (by decide)) (fun h74 => ?_)
              refine Zr_aload_n C dX3_pass_77 rfl ?_
              refine Zr_iconst C (1) dX3_pass_78 rfl ?_
              refine Zr_putE C pf_X3_129 cm0 rfl rfl rfl (znZ (by first | exact Or.inl rfl | exact Or.inr rfl | assumption)) (cRm6 hR) dX3_pass_79 (fun S hR => ?_)
              refine Zr_aload_n C dX3_pass_82 rfl ?_
              refine Zr_callVRv C cw_X3_144 (k_X3_judgeEnd (σ := aN σ 0 0 3 1) hB2 hR hO.q) cm0 rfl rfl rfl (Nat.le_of_ble_eq_true rfl) (Nat.le_of_ble_eq_true rfl) rfl (Nat.le_of_ble_eq_true rfl) dX3_pass_83 ⟨Nat.zero_le _, Nat.zero_le _⟩ (fun S hR => ?_)
              refine Zr_iconst C (2) dX3_pass_86 rfl ?_
              exact Zr_iret C dX3_pass_87 (Nat.zero_le _) (Nat.zero_le _) (by rw [show fPass n σ i = (2, aJudge n (aN σ 0 0 3 1)) from by rw [fPass, if_neg (fun h => h.elim (fun h => h13 h) (fun h => h.elim (fun h => h h25) (fun h => h.elim h32 (fun h => h h39)))), if_neg (fun h => h h0), if_pos hc0]]; exact ⟨rfl, by rw [aJudge_2]; rfl, ⟨_, rfl⟩, hR⟩)
            · refine Zr_iconst C (-1) dX3_pass_42 rfl ?_
              exact Zr_iret C dX3_pass_43 (Nat.zero_le _) (Nat.zero_le _) (by rw [show fPass n σ i = (-1, σ) from if_pos (by first | exact Or.inl h18z | exact Or.inr (Or.inl h25) | exact Or.inr (Or.inr (Or.inl h32)) | exact Or.inr (Or.inr (Or.inr h39)))]; exact ⟨rfl, rfl, ⟨_, rfl⟩, hR⟩)
    · have hc0 : ¬ (0 < σ.1 0 0 19 ∧ σ.1 0 0 21 = 0 ∧ σ.1 1 12 0 = 0 ∧ σ.1 0 0 20 + σ.1 1 11 0 = 0) := by rw [h0] at hc; exact hc
      have hB3 : aB n (aN (aN (aN (aN σ 0 0 19 (σ.1 0 0 19 + 1)) 1 12 0 0) 0 0 21 0) 0 0 20 0) := (((hB.g (by decide) (fun h => by omega)).a (fun _ => Or.inl rfl)).g (by decide) (fun _ => Or.inl rfl)).g (by decide) (fun h => by omega)
      refine Zr_aload_n C dX3_pass_0 rfl ?_
      refine Zr_iload_n C dX3_pass_1 rfl ?_
      refine Zr_callV C cw_X3_54 (k_X3_workerAt_t hB hR hi) cm0 rfl rfl rfl (Nat.le_of_ble_eq_true rfl) (Nat.le_of_ble_eq_true rfl) rfl (Nat.le_of_ble_eq_true rfl) dX3_pass_2 ⟨Nat.zero_le _, Nat.zero_le _⟩ ?_
      refine Zr_astore_n C dX3_pass_5 (by decide) ?_
      refine Zr_aload_n C dX3_pass_6 rfl ?_
      refine Zr_ifnull C dX3_pass_7 ?_
      refine Zr_aload_n C dX3_pass_10 rfl ?_
      refine Zr_getR C gf_X3_41 cm0 rfl rfl rfl (by simp) dX3_pass_11 ?_
      refine Zr_get C gf_X3_126 cm3 rfl rfl rfl dX3_pass_14 ?_
      refine Zr_iload_n C dX3_pass_17 rfl ?_
      refine Zr_icmp_ne C 42 dX3_pass_18 (by decide) (fun h18 => ?_) (fun h18 => ?_)
      · have h18z : σ.1 1 13 i = 0 := by have := hR.2.2.1 i hi; rw [if_neg h18] at this; exact this
        refine Zr_iconst C (-1) dX3_pass_42 rfl ?_
        exact Zr_iret C dX3_pass_43 (by first | exact Nat.zero_le _ | (show 0 + (F - aLam σ) ≤ F - aLam σ; omega)) (by first | exact Nat.zero_le _ | (show 0 + 2 * (F - aLam σ) ≤ 2 * (F - aLam σ); omega)) (by rw [show fPass n σ i = (-1, σ) from if_pos (by first | exact Or.inl h18z | exact Or.inr (Or.inl h25) | exact Or.inr (Or.inr (Or.inl h32)) | exact Or.inr (Or.inr (Or.inr h39)))]; exact ⟨rfl, rfl, ⟨_, rfl⟩, hR⟩)
      · have h13 : σ.1 1 13 i ≠ 0 := by have := hR.2.2.1 i hi; rw [if_pos h18] at this; rw [this]; decide
        refine Zr_aload_n C dX3_pass_21 rfl ?_
        refine Zr_getE C gf_X3_49 (cm4 hi) rfl rfl rfl (hR.w hi).1 dX3_pass_22 ?_
        refine Zr_if_ne C 42 dX3_pass_25 (by decide) (fun h25 => ?_) (fun h25 => ?_)
        · refine Zr_iconst C (-1) dX3_pass_42 rfl ?_
          exact Zr_iret C dX3_pass_43 (by first | exact Nat.zero_le _ | (show 0 + (F - aLam σ) ≤ F - aLam σ; omega)) (by first | exact Nat.zero_le _ | (show 0 + 2 * (F - aLam σ) ≤ 2 * (F - aLam σ); omega)) (by rw [show fPass n σ i = (-1, σ) from if_pos (by first | exact Or.inl h18z | exact Or.inr (Or.inl h25) | exact Or.inr (Or.inr (Or.inl h32)) | exact Or.inr (Or.inr (Or.inr h39)))]; exact ⟨rfl, rfl, ⟨_, rfl⟩, hR⟩)
        · refine Zr_aload_n C dX3_pass_28 rfl ?_
          refine Zr_getE C gf_X3_45 cm0 rfl rfl rfl hR.1.2.1 dX3_pass_29 ?_
          refine Zr_if_eq C 42 dX3_pass_32 (by decide) (fun h32 => ?_) (fun h32 => ?_)
          · refine Zr_iconst C (-1) dX3_pass_42 rfl ?_
            exact Zr_iret C dX3_pass_43 (by first | exact Nat.zero_le _ | (show 0 + (F - aLam σ) ≤ F - aLam σ; omega)) (by first | exact Nat.zero_le _ | (show 0 + 2 * (F - aLam σ) ≤ 2 * (F - aLam σ); omega)) (by rw [show fPass n σ i = (-1, σ) from if_pos (by first | exact Or.inl h18z | exact Or.inr (Or.inl h25) | exact Or.inr (Or.inr (Or.inl h32)) | exact Or.inr (Or.inr (Or.inr h39)))]; exact ⟨rfl, rfl, ⟨_, rfl⟩, hR⟩)
          · refine Zr_aload_n C dX3_pass_35 rfl ?_
            refine Zr_getE C gf_X3_129 cm0 rfl rfl rfl hR.1.2.2.2.1 dX3_pass_36 ?_
            refine Zr_if_eq C 44 dX3_pass_39 (by decide) (fun h39 => ?_) (fun h39 => ?_)
            · refine Zr_iload_n C dX3_pass_44 rfl ?_
              refine Zr_if_eq C 66 dX3_pass_45 (by decide) (fun h45 => ?_) (fun h45 => absurd (by rw [h0]; rfl) h45)
              refine Zr_aload_n C dX3_pass_66 rfl ?_
              refine Zr_getR C gf_X3_41 cm0 rfl rfl rfl (by simp) dX3_pass_67 ?_
              refine Zr_aload_n C dX3_pass_70 rfl ?_
              refine Zr_callV C cw_X3_140 (k_X1_showsEndTo hn hR hi) cm3 rfl rfl rfl (Nat.le_of_ble_eq_true rfl) (Nat.le_of_ble_eq_true rfl) rfl (Nat.le_of_ble_eq_true rfl) dX3_pass_71 ⟨Nat.zero_le _, Nat.zero_le _⟩ ?_
              refine Zr_topi (y := 0) (if_neg hc) ?_
              refine Zr_if_eq C 88 dX3_pass_74 (by decide) (fun h74 => ?_) (fun h74 => absurd rfl h74)
              refine Zr_aload_n C dX3_pass_88 rfl ?_
              refine Zr_getR C gf_X3_41 cm0 rfl rfl rfl (by simp) dX3_pass_89 ?_
              refine Zr_callVRv C cw_X3_147 (k_X1_beginRound hR) cm3 rfl rfl rfl (Nat.le_of_ble_eq_true rfl) (Nat.le_of_ble_eq_true rfl) rfl (Nat.le_of_ble_eq_true rfl) dX3_pass_92 ⟨Nat.zero_le _, Nat.zero_le _⟩ (fun S hR => ?_)
              refine Zr_aload_n C dX3_pass_95 rfl ?_
              refine Zr_iconst C (0) dX3_pass_96 rfl ?_
              refine Zr_putE C pf_X3_150 (cm4 hi) rfl rfl rfl (znZ (by first | exact Or.inl rfl | exact Or.inr rfl | assumption)) (cRw2 hR) dX3_pass_97 (fun S hR => ?_)
              have hR : cRel n (aN (aN (aN (aN σ 0 0 19 (σ.1 0 0 19 + 1)) 1 12 0 0) 0 0 21 0) 0 0 20 0) S := by have h := hR; rw [h0, aN_r12] at h; exact h
              refine Zr_aload_n C dX3_pass_100 rfl ?_
              refine Zr_iconst C (0) dX3_pass_101 rfl ?_
              refine Zr_aload_n C dX3_pass_102 rfl ?_
              refine Zr_getE C gf_X3_18 cm0 rfl rfl rfl (hR.1.1.trans hB3.1) dX3_pass_103 ?_
              refine Zr_iconst C (1) dX3_pass_106 rfl ?_
              refine Zr_isub C dX3_pass_107 ?_
              refine Zr_topi (y := nI (n - 1)) (nI_sub1 (by omega)) ?_
              refine Zr_callVCv C cw_X3_136 (k_X3_giveToken (σ := (aN (aN (aN (aN σ 0 0 19 (σ.1 0 0 19 + 1)) 1 12 0 0) 0 0 21 0) 0 0 20 0)) (i := 0) (j := n - 1) hB3 hR h0n (by omega) (by omega) (cHold hR h0n (by rw [h0] at h13; simpa [aN, z3] using h13)) (hO.len _ (by omega)) (by rw [show fPass n σ i = (1, aPush (aN (aN (aN (aN (aN σ 0 0 19 (σ.1 0 0 19 + 1)) 1 12 0 0) 0 0 21 0) 0 0 20 0) 1 13 0 0) (10 * 0 + (n - 1)) (3, -1, -1)) from by rw [fPass, if_neg (fun h => h.elim (fun h => h13 h) (fun h => h.elim (fun h => h h25) (fun h => h.elim h32 (fun h => h h39)))), if_neg (fun h => h h0), if_neg hc0]] at hF; exact hF)) cm0 rfl rfl rfl (Nat.le_of_ble_eq_true rfl) (Nat.le_of_ble_eq_true rfl) rfl (Nat.le_of_ble_eq_true rfl) dX3_pass_108 ⟨by show 0 + (F - aLam σ) ≤ F - aLam σ; omega, by show 0 + 2 * (F - aLam σ) ≤ 2 * (F - aLam σ); omega⟩ (fun ca S hR => ?_)
              refine Zr_iconst C (1) dX3_pass_111 rfl ?_
              exact Zr_iret C dX3_pass_112 (by first | exact Nat.zero_le _ | (show 0 + (F - aLam σ) ≤ F - aLam σ; omega)) (by first | exact Nat.zero_le _ | (show 0 + 2 * (F - aLam σ) ≤ 2 * (F - aLam σ); omega)) (by rw [show fPass n σ i = (1, aPush (aN (aN (aN (aN (aN σ 0 0 19 (σ.1 0 0 19 + 1)) 1 12 0 0) 0 0 21 0) 0 0 20 0) 1 13 0 0) (10 * 0 + (n - 1)) (3, -1, -1)) from by rw [fPass, if_neg (fun h => h.elim (fun h => h13 h) (fun h => h.elim (fun h => h h25) (fun h => h.elim h32 (fun h => h h39)))), if_neg (fun h => h h0), if_neg hc0]]; exact ⟨rfl, rfl, ⟨_, rfl⟩, hR⟩)
            · refine Zr_iconst C (-1) dX3_pass_42 rfl ?_
              exact Zr_iret C dX3_pass_43 (by first | exact Nat.zero_le _ | (show 0 + (F - aLam σ) ≤ F - aLam σ; omega)) (by first | exact Nat.zero_le _ | (show 0 + 2 * (F - aLam σ) ≤ 2 * (F - aLam σ); omega)) (by rw [show fPass n σ i = (-1, σ) from if_pos (by first | exact Or.inl h18z | exact Or.inr (Or.inl h25) | exact Or.inr (Or.inr (Or.inl h32)) | exact Or.inr (Or.inr (Or.inr h39)))]; exact ⟨rfl, rfl, ⟨_, rfl⟩, hR⟩)
  · have hz2 : i ≠ 0 := by omega
    have hB3 : aB n (aN (aN (aN σ 0 0 20 (σ.1 0 0 20 + σ.1 1 11 i)) 0 0 21 (if σ.1 0 0 21 ≠ 0 then 1 else if σ.1 1 12 i ≠ 0 then 1 else 0)) 1 12 i 0) := ((hB.g (by decide) (fun h => by omega)).g (by decide) (fun _ => by split; exact Or.inr rfl; split; exact Or.inr rfl; exact Or.inl rfl)).a (fun _ => Or.inl rfl)
    refine Zr_aload_n C dX3_pass_0 rfl ?_
    refine Zr_iload_n C dX3_pass_1 rfl ?_
    refine Zr_callV C cw_X3_54 (k_X3_workerAt_t hB hR hi) cm0 rfl rfl rfl (Nat.le_of_ble_eq_true rfl) (Nat.le_of_ble_eq_true rfl) rfl (Nat.le_of_ble_eq_true rfl) dX3_pass_2 ⟨Nat.zero_le _, Nat.zero_le _⟩ ?_
    refine Zr_astore_n C dX3_pass_5 (by decide) ?_
    refine Zr_aload_n C dX3_pass_6 rfl ?_
    refine Zr_ifnull C dX3_pass_7 ?_
    refine Zr_aload_n C dX3_pass_10 rfl ?_
    refine Zr_getR C gf_X3_41 cm0 rfl rfl rfl (by simp) dX3_pass_11 ?_
    refine Zr_get C gf_X3_126 cm3 rfl rfl rfl dX3_pass_14 ?_
    refine Zr_iload_n C dX3_pass_17 rfl ?_
    refine Zr_icmp_ne C 42 dX3_pass_18 (by decide) (fun h18 => ?_) (fun h18 => ?_)
    · have h18z : σ.1 1 13 i = 0 := by have := hR.2.2.1 i hi; rw [if_neg h18] at this; exact this
      refine Zr_iconst C (-1) dX3_pass_42 rfl ?_
      exact Zr_iret C dX3_pass_43 (by first | exact Nat.zero_le _ | (show 0 + (F - aLam σ) ≤ F - aLam σ; omega)) (by first | exact Nat.zero_le _ | (show 0 + 2 * (F - aLam σ) ≤ 2 * (F - aLam σ); omega)) (by rw [show fPass n σ i = (-1, σ) from if_pos (by first | exact Or.inl h18z | exact Or.inr (Or.inl h25) | exact Or.inr (Or.inr (Or.inl h32)) | exact Or.inr (Or.inr (Or.inr h39)))]; exact ⟨rfl, rfl, ⟨_, rfl⟩, hR⟩)
    · have h13 : σ.1 1 13 i ≠ 0 := by have := hR.2.2.1 i hi; rw [if_pos h18] at this; rw [this]; decide
      refine Zr_aload_n C dX3_pass_21 rfl ?_
      refine Zr_getE C gf_X3_49 (cm4 hi) rfl rfl rfl (hR.w hi).1 dX3_pass_22 ?_
      refine Zr_if_ne C 42 dX3_pass_25 (by decide) (fun h25 => ?_) (fun h25 => ?_)
      · refine Zr_iconst C (-1) dX3_pass_42 rfl ?_
        exact Zr_iret C dX3_pass_43 (by first | exact Nat.zero_le _ | (show 0 + (F - aLam σ) ≤ F - aLam σ; omega)) (by first | exact Nat.zero_le _ | (show 0 + 2 * (F - aLam σ) ≤ 2 * (F - aLam σ); omega)) (by rw [show fPass n σ i = (-1, σ) from if_pos (by first | exact Or.inl h18z | exact Or.inr (Or.inl h25) | exact Or.inr (Or.inr (Or.inl h32)) | exact Or.inr (Or.inr (Or.inr h39)))]; exact ⟨rfl, rfl, ⟨_, rfl⟩, hR⟩)
      · refine Zr_aload_n C dX3_pass_28 rfl ?_
        refine Zr_getE C gf_X3_45 cm0 rfl rfl rfl hR.1.2.1 dX3_pass_29 ?_
        refine Zr_if_eq C 42 dX3_pass_32 (by decide) (fun h32 => ?_) (fun h32 => ?_)
        · refine Zr_iconst C (-1) dX3_pass_42 rfl ?_
          exact Zr_iret C dX3_pass_43 (by first | exact Nat.zero_le _ | (show 0 + (F - aLam σ) ≤ F - aLam σ; omega)) (by first | exact Nat.zero_le _ | (show 0 + 2 * (F - aLam σ) ≤ 2 * (F - aLam σ); omega)) (by rw [show fPass n σ i = (-1, σ) from if_pos (by first | exact Or.inl h18z | exact Or.inr (Or.inl h25) | exact Or.inr (Or.inr (Or.inl h32)) | exact Or.inr (Or.inr (Or.inr h39)))]; exact ⟨rfl, rfl, ⟨_, rfl⟩, hR⟩)
        · refine Zr_aload_n C dX3_pass_35 rfl ?_
          refine Zr_getE C gf_X3_129 cm0 rfl rfl rfl hR.1.2.2.2.1 dX3_pass_36 ?_
          refine Zr_if_eq C 44 dX3_pass_39 (by decide) (fun h39 => ?_) (fun h39 => ?_)
          · refine Zr_iload_n C dX3_pass_44 rfl ?_
            refine Zr_if_eq C 66 dX3_pass_45 (by decide) (fun h45 => absurd h45 (nI_ne0 hz (by omega))) (fun h45 => ?_)
            refine Zr_aload_n C dX3_pass_48 rfl ?_
            refine Zr_getR C gf_X3_41 cm0 rfl rfl rfl (by simp) dX3_pass_49 ?_
            refine Zr_aload_n C dX3_pass_52 rfl ?_
            refine Zr_callVRv C cw_X3_132 (k_X1_collect hn hR hi hb21) cm3 rfl rfl rfl (Nat.le_of_ble_eq_true rfl) (Nat.le_of_ble_eq_true rfl) rfl (Nat.le_of_ble_eq_true rfl) dX3_pass_53 ⟨Nat.zero_le _, Nat.zero_le _⟩ (fun S hR => ?_)
            refine Zr_aload_n C dX3_pass_56 rfl ?_
            refine Zr_iload_n C dX3_pass_57 rfl ?_
            refine Zr_iload_n C dX3_pass_58 rfl ?_
            refine Zr_iconst C (1) dX3_pass_59 rfl ?_
            refine Zr_isub C dX3_pass_60 ?_
            refine Zr_topi (y := nI (i - 1)) (nI_sub1 hz) ?_
            refine Zr_callVCv C cw_X3_136 (k_X3_giveToken (σ := (aN (aN (aN σ 0 0 20 (σ.1 0 0 20 + σ.1 1 11 i)) 0 0 21 (if σ.1 0 0 21 ≠ 0 then 1 else if σ.1 1 12 i ≠ 0 then 1 else 0)) 1 12 i 0)) (i := i) (j := i - 1) hB3 hR hi (by omega) (by omega) (cHold hR hi (by simpa [aN, z3] using h13)) (hO.len _ (by omega)) (by rw [show fPass n σ i = (1, aPush (aN (aN (aN (aN σ 0 0 20 (σ.1 0 0 20 + σ.1 1 11 i)) 0 0 21 (if σ.1 0 0 21 ≠ 0 then 1 else if σ.1 1 12 i ≠ 0 then 1 else 0)) 1 12 i 0) 1 13 i 0) (10 * i + (i - 1)) (3, -1, -1)) from by rw [fPass, if_neg (fun h => h.elim (fun h => h13 h) (fun h => h.elim (fun h => h h25) (fun h => h.elim h32 (fun h => h h39)))), if_pos hz2]] at hF; exact hF)) cm0 rfl rfl rfl (Nat.le_of_ble_eq_true rfl) (Nat.le_of_ble_eq_true rfl) rfl (Nat.le_of_ble_eq_true rfl) dX3_pass_61 ⟨by show 0 + (F - aLam σ) ≤ F - aLam σ; omega, by show 0 + 2 * (F - aLam σ) ≤ 2 * (F - aLam σ); omega⟩ (fun ca S hR => ?_)
            refine Zr_iconst C (1) dX3_pass_64 rfl ?_
            exact Zr_iret C dX3_pass_65 (by first | exact Nat.zero_le _ | (show 0 + (F - aLam σ) ≤ F - aLam σ; omega)) (by first | exact Nat.zero_le _ | (show 0 + 2 * (F - aLam σ) ≤ 2 * (F - aLam σ); omega)) (by rw [show fPass n σ i = (1, aPush (aN (aN (aN (aN σ 0 0 20 (σ.1 0 0 20 + σ.1 1 11 i)) 0 0 21 (if σ.1 0 0 21 ≠ 0 then 1 else if σ.1 1 12 i ≠ 0 then 1 else 0)) 1 12 i 0) 1 13 i 0) (10 * i + (i - 1)) (3, -1, -1)) from by rw [fPass, if_neg (fun h => h.elim (fun h => h13 h) (fun h => h.elim (fun h => h h25) (fun h => h.elim h32 (fun h => h h39)))), if_pos hz2]]; exact ⟨rfl, rfl, ⟨_, rfl⟩, hR⟩)
          · refine Zr_iconst C (-1) dX3_pass_42 rfl ?_
            exact Zr_iret C dX3_pass_43 (by first | exact Nat.zero_le _ | (show 0 + (F - aLam σ) ≤ F - aLam σ; omega)) (by first | exact Nat.zero_le _ | (show 0 + 2 * (F - aLam σ) ≤ 2 * (F - aLam σ); omega)) (by rw [show fPass n σ i = (-1, σ) from if_pos (by first | exact Or.inl h18z | exact Or.inr (Or.inl h25) | exact Or.inr (Or.inr (Or.inl h32)) | exact Or.inr (Or.inr (Or.inr h39)))]; exact ⟨rfl, rfl, ⟨_, rfl⟩, hR⟩)
set_option maxHeartbeats 1000000 in
set_option maxRecDepth 100000 in
theorem k_X3_pass_f {l : Launch} {D : va_G} {K : zKs} {n : Nat} {ad : zAd} {ca : Nat → Nat} {S : zSt} {σ : aS} (hB : aB n σ) (hR : cRel n σ S) {x : Int32} (hx : aBad n x) : zMet l yX3_pass cX3_pass 3 (some .int) { frames := 5, cells := 0, slots := 0, locals := 111 } D K (cIL n) (cSh K n (cpo n σ.2.2)) (zA ad ca) S [.ref (zA ad ca (0, 0)), .int x] (zEq (some (.int (-1))) (cSh K n (cpo n σ.2.2)) (zA ad ca) (S)) := by
  refine zEnter (own := RX3) (lv0 := [some (.ref (zA ad ca (0, 0))), some (.int x), none]) (by decide) rfl (by simp [Value.category]) (Nat.le_of_ble_eq_true rfl) rfl ?_
  intro p e s m below meth c A C _ hnm
  refine Zr_aload_n C dX3_pass_0 rfl ?_
  refine Zr_iload_n C dX3_pass_1 rfl ?_
  refine Zr_callV C cw_X3_54 (k_X3_workerAt_f hB hR hx) cm0 rfl rfl rfl (Nat.le_of_ble_eq_true rfl) (Nat.le_of_ble_eq_true rfl) rfl (Nat.le_of_ble_eq_true rfl) dX3_pass_2 ⟨Nat.zero_le _, Nat.zero_le _⟩ ?_
  refine Zr_astore_nN C dX3_pass_5 (by decide) ?_
  refine Zr_aload_nN C dX3_pass_6 rfl ?_
  refine Zr_ifnullN C 42 dX3_pass_7 (by decide) ?_
  refine Zr_iconst C (-1) dX3_pass_42 rfl ?_
  exact Zr_iret C dX3_pass_43 (Nat.zero_le _) (Nat.zero_le _) ⟨rfl, rfl, rfl, rfl⟩
