set_option maxHeartbeats 1000000 in
set_option maxRecDepth 100000 in
theorem k_oneIf_b {l : Launch} {D : va_G} {K : zKs} {IL : List zI} {sh : zSh} {ad : zAd} {S : zSt} {b : Int32} (hb : b = 0 ∨ b = 1) : zMet l yX3_oneIf cX3_oneIf 1 (some .int) { frames := 0, cells := 0, slots := 0, locals := 0 } D K IL sh ad S [.int b] (zEq (some (.int b)) sh ad (S)) := by
  refine zEnter (own := RX3) (lv0 := [some (.int b)]) (by decide) rfl (by simp [Value.category]) (Nat.le_of_ble_eq_true rfl) rfl ?_
  intro p e s m below meth c A C _ hnm
  rcases hb with rfl | rfl
  · refine Zr_iload_n C dX3_oneIf_0 rfl ?_
    refine Zr_if_eq C 8 dX3_oneIf_1 (by decide) (fun h1 => ?_) (fun h1 => absurd rfl h1)
    refine Zr_iconst C (0) dX3_oneIf_8 rfl ?_
    exact Zr_iret C dX3_oneIf_9 (Nat.zero_le _) (Nat.zero_le _) ⟨rfl, rfl, rfl, rfl⟩
  · refine Zr_iload_n C dX3_oneIf_0 rfl ?_
    refine Zr_if_eq C 8 dX3_oneIf_1 (by decide) (fun h1 => absurd h1 (by decide)) (fun h1 => ?_)
    refine Zr_iconst C (1) dX3_oneIf_4 rfl ?_
    refine Zr_goto C 9 dX3_oneIf_5 (by decide) ?_
    exact Zr_iret C dX3_oneIf_9 (Nat.zero_le _) (Nat.zero_le _) ⟨rfl, rfl, rfl, rfl⟩
set_option maxHeartbeats 1000000 in
set_option maxRecDepth 100000 in
theorem k_X3_wrong {l : Launch} {D : va_G} {K : zKs} {n : Nat} {ad : zAd} {ca : Nat → Nat} {S : zSt} {σ : aS} (hR : cRel n σ S) : zMet l yX3_wrong cX3_wrong 1 (some .int) { frames := 0, cells := 0, slots := 0, locals := 0 } D K (cIL n) (cSh K n (cpo n σ.2.2)) (zA ad ca) S [.ref (zA ad ca (0, 0))] (zEq (some (.int (σ.1 0 0 4))) (cSh K n (cpo n σ.2.2)) (zA ad ca) (S)) := by
  refine zEnter (own := RX3) (lv0 := [some (.ref (zA ad ca (0, 0)))]) (by decide) rfl (by simp [Value.category]) (Nat.le_of_ble_eq_true rfl) rfl ?_
  intro p e s m below meth c A C _ hnm
  refine Zr_aload_n C dX3_wrong_0 rfl ?_
  refine Zr_getE C gf_X3_207 cm0 rfl rfl rfl hR.1.2.2.2.2.1 dX3_wrong_1 ?_
  exact Zr_iret C dX3_wrong_4 (Nat.zero_le _) (Nat.zero_le _) ⟨rfl, rfl, rfl, rfl⟩
set_option maxHeartbeats 1000000 in
set_option maxRecDepth 100000 in
theorem k_X3_falsely {l : Launch} {D : va_G} {K : zKs} {n : Nat} {ad : zAd} {ca : Nat → Nat} {S : zSt} {σ : aS} (hR : cRel n σ S) : zMet l yX3_falsely cX3_falsely 1 (some .int) { frames := 0, cells := 0, slots := 0, locals := 0 } D K (cIL n) (cSh K n (cpo n σ.2.2)) (zA ad ca) S [.ref (zA ad ca (0, 0))] (zEq (some (.int (σ.1 0 0 5))) (cSh K n (cpo n σ.2.2)) (zA ad ca) (S)) := by
  refine zEnter (own := RX3) (lv0 := [some (.ref (zA ad ca (0, 0)))]) (by decide) rfl (by simp [Value.category]) (Nat.le_of_ble_eq_true rfl) rfl ?_
  intro p e s m below meth c A C _ hnm
  refine Zr_aload_n C dX3_falsely_0 rfl ?_
  refine Zr_getE C gf_X3_210 cm0 rfl rfl rfl hR.1.2.2.2.2.2.1 dX3_falsely_1 ?_
  exact Zr_iret C dX3_falsely_4 (Nat.zero_le _) (Nat.zero_le _) ⟨rfl, rfl, rfl, rfl⟩
set_option maxHeartbeats 1000000 in
set_option maxRecDepth 100000 in
theorem k_X3_waits {l : Launch} {D : va_G} {K : zKs} {n : Nat} {ad : zAd} {ca : Nat → Nat} {S : zSt} {σ : aS} (hB : aB n σ) (hR : cRel n σ S) {i j : Nat} (hi : i < n) (hj : j < n) : zMet l yX3_waits cX3_waits 4 (some .boolean) { frames := 2, cells := 0, slots := 0, locals := 42 } D K (cIL n) (cSh K n (cpo n σ.2.2)) (zA ad ca) S [.ref (zA ad ca (0, 0)), .int (nI i), .int (nI j)] (zEq (some (.int (σ.1 1 16 (10 * i + j)))) (cSh K n (cpo n σ.2.2)) (zA ad ca) (S)) := by
  refine zEnter (own := RX3) (lv0 := [some (.ref (zA ad ca (0, 0))), some (.int (nI i)), some (.int (nI j)), none]) (by decide) rfl (by simp [Value.category]) (Nat.le_of_ble_eq_true rfl) rfl ?_
  intro p e s m below meth c A C _ hnm
  have hn := hB.2.2.1
  have hb := hB.2.2.2.2 16 (10 * i + j) (by decide)
  have hpb := aBits_10 (f := fun q => σ.1 1 16 (10 * i + q) != 0) hn
  have hpt : (aBits (fun q => σ.1 1 16 (10 * i + q) != 0) n).testBit j = (σ.1 1 16 (10 * i + j) != 0) := by rw [aBits_bit]; simp [hj]
  by_cases hw : σ.1 1 16 (10 * i + j) = 0
  · refine Zr_aload_n C dX3_waits_0 rfl ?_
    refine Zr_iload_n C dX3_waits_1 rfl ?_
    refine Zr_callV C cw_X3_54 (k_X3_workerAt_t hB hR hi) cm0 rfl rfl rfl (Nat.le_of_ble_eq_true rfl) (Nat.le_of_ble_eq_true rfl) rfl (Nat.le_of_ble_eq_true rfl) dX3_waits_2 ⟨Nat.zero_le _, Nat.zero_le _⟩ ?_
    refine Zr_astore_n C dX3_waits_5 (by decide) ?_
    refine Zr_aload_n C dX3_waits_6 rfl ?_
    refine Zr_ifnull C dX3_waits_7 ?_
    refine Zr_aload_n C dX3_waits_10 rfl ?_
    refine Zr_iload_n C dX3_waits_11 rfl ?_
    refine Zr_callV C cw_X3_54 (k_X3_workerAt_t hB hR hj) cm0 rfl rfl rfl (Nat.le_of_ble_eq_true rfl) (Nat.le_of_ble_eq_true rfl) rfl (Nat.le_of_ble_eq_true rfl) dX3_waits_12 ⟨Nat.zero_le _, Nat.zero_le _⟩ ?_
    refine Zr_ifnull C dX3_waits_15 ?_
    refine Zr_aload_n C dX3_waits_18 rfl ?_
    refine Zr_getE C gf_X3_92 (cm4 hi) rfl rfl rfl (hR.w hi).2.2.2.2.2.1 dX3_waits_19 ?_
    refine Zr_iload_n C dX3_waits_22 rfl ?_
    refine Zr_callS C cw_X3_110 (k_X3_holds hpb (by omega)) rfl (Nat.le_of_ble_eq_true rfl) (Nat.le_of_ble_eq_true rfl) rfl (Nat.le_of_ble_eq_true rfl) dX3_waits_23 ⟨Nat.zero_le _, Nat.zero_le _⟩ ?_
    refine Zr_topi (y := 0) (if_neg (by rw [hpt]; simp [hw])) ?_
    refine Zr_if_eq C 33 dX3_waits_26 (by decide) (fun h26 => ?_) (fun h26 => absurd rfl h26)
    refine Zr_iconst C (0) dX3_waits_33 rfl ?_
    exact Zr_zret C dX3_waits_34 (Nat.zero_le _) (Nat.zero_le _) (by first | exact Or.inl rfl | exact Or.inr rfl | assumption) ⟨by rw [hw], rfl, rfl, rfl⟩
  · refine Zr_aload_n C dX3_waits_0 rfl ?_
    refine Zr_iload_n C dX3_waits_1 rfl ?_
    refine Zr_callV C cw_X3_54 (k_X3_workerAt_t hB hR hi) cm0 rfl rfl rfl (Nat.le_of_ble_eq_true rfl) (Nat.le_of_ble_eq_true rfl) rfl (Nat.le_of_ble_eq_true rfl) dX3_waits_2 ⟨Nat.zero_le _, Nat.zero_le _⟩ ?_
    refine Zr_astore_n C dX3_waits_5 (by decide) ?_
    refine Zr_aload_n C dX3_waits_6 rfl ?_
    refine Zr_ifnull C dX3_waits_7 ?_
    refine Zr_aload_n C dX3_waits_10 rfl ?_
    refine Zr_iload_n C dX3_waits_11 rfl ?_
    refine Zr_callV C cw_X3_54 (k_X3_workerAt_t hB hR hj) cm0 rfl rfl rfl (Nat.le_of_ble_eq_true rfl) (Nat.le_of_ble_eq_true rfl) rfl (Nat.le_of_ble_eq_true rfl) dX3_waits_12 ⟨Nat.zero_le _, Nat.zero_le _⟩ ?_
    refine Zr_ifnull C dX3_waits_15 ?_
    refine Zr_aload_n C dX3_waits_18 rfl ?_
    refine Zr_getE C gf_X3_92 (cm4 hi) rfl rfl rfl (hR.w hi).2.2.2.2.2.1 dX3_waits_19 ?_
    refine Zr_iload_n C dX3_waits_22 rfl ?_
    refine Zr_callS C cw_X3_110 (k_X3_holds hpb (by omega)) rfl (Nat.le_of_ble_eq_true rfl) (Nat.le_of_ble_eq_true rfl) rfl (Nat.le_of_ble_eq_true rfl) dX3_waits_23 ⟨Nat.zero_le _, Nat.zero_le _⟩ ?_
    refine Zr_topi (y := 1) (if_pos (by rw [hpt]; simp [hw])) ?_
    refine Zr_if_eq C 33 dX3_waits_26 (by decide) (fun h26 => absurd h26 (by decide)) (fun h26 => ?_)
    refine Zr_iconst C (1) dX3_waits_29 rfl ?_
    refine Zr_goto C 34 dX3_waits_30 (by decide) ?_
    exact Zr_zret C dX3_waits_34 (Nat.zero_le _) (Nat.zero_le _) (by first | exact Or.inl rfl | exact Or.inr rfl | assumption) ⟨by rw [hb.resolve_left hw], rfl, rfl, rfl⟩
set_option maxHeartbeats 1000000 in
set_option maxRecDepth 100000 in
theorem k_X3_waits_f {l : Launch} {D : va_G} {K : zKs} {n : Nat} {ad : zAd} {ca : Nat → Nat} {S : zSt} {σ : aS} (hB : aB n σ) (hR : cRel n σ S) {x y : Int32} (hx : aBad n x ∨ aBad n y) : zMet l yX3_waits cX3_waits 4 (some .boolean) { frames := 2, cells := 0, slots := 0, locals := 42 } D K (cIL n) (cSh K n (cpo n σ.2.2)) (zA ad ca) S [.ref (zA ad ca (0, 0)), .int x, .int y] (zEq (some (.int 0)) (cSh K n (cpo n σ.2.2)) (zA ad ca) (S)) := by
  refine zEnter (own := RX3) (lv0 := [some (.ref (zA ad ca (0, 0))), some (.int x), some (.int y), none]) (by decide) rfl (by simp [Value.category]) (Nat.le_of_ble_eq_true rfl) rfl ?_
  intro p e s m below meth c A C _ hnm
  have hn := hB.2.2.1
  rcases aIx n hn x with h | ⟨i, hi, rfl⟩
  · refine Zr_aload_n C dX3_waits_0 rfl ?_
    refine Zr_iload_n C dX3_waits_1 rfl ?_
    refine Zr_callV C cw_X3_54 (k_X3_workerAt_f hB hR h) cm0 rfl rfl rfl (Nat.le_of_ble_eq_true rfl) (Nat.le_of_ble_eq_true rfl) rfl (Nat.le_of_ble_eq_true rfl) dX3_waits_2 ⟨Nat.zero_le _, Nat.zero_le _⟩ ?_
    refine Zr_astore_nN C dX3_waits_5 (by decide) ?_
    refine Zr_aload_nN C dX3_waits_6 rfl ?_
    refine Zr_ifnullN C 33 dX3_waits_7 (by decide) ?_
    refine Zr_iconst C (0) dX3_waits_33 rfl ?_
    exact Zr_zret C dX3_waits_34 (Nat.zero_le _) (Nat.zero_le _) (by first | exact Or.inl rfl | exact Or.inr rfl | assumption) ⟨rfl, rfl, rfl, rfl⟩
  · refine Zr_aload_n C dX3_waits_0 rfl ?_
    refine Zr_iload_n C dX3_waits_1 rfl ?_
    refine Zr_callV C cw_X3_54 (k_X3_workerAt_t hB hR hi) cm0 rfl rfl rfl (Nat.le_of_ble_eq_true rfl) (Nat.le_of_ble_eq_true rfl) rfl (Nat.le_of_ble_eq_true rfl) dX3_waits_2 ⟨Nat.zero_le _, Nat.zero_le _⟩ ?_
    refine Zr_astore_n C dX3_waits_5 (by decide) ?_
    refine Zr_aload_n C dX3_waits_6 rfl ?_
    refine Zr_ifnull C dX3_waits_7 ?_
    refine Zr_aload_n C dX3_waits_10 rfl ?_
    refine Zr_iload_n C dX3_waits_11 rfl ?_
    refine Zr_callV C cw_X3_54 (k_X3_workerAt_f hB hR (hx.resolve_left (aBad.of hi hn))) cm0 rfl rfl rfl (Nat.le_of_ble_eq_true rfl) (Nat.le_of_ble_eq_true rfl) rfl (Nat.le_of_ble_eq_true rfl) dX3_waits_12 ⟨Nat.zero_le _, Nat.zero_le _⟩ ?_
    refine Zr_ifnullN C 33 dX3_waits_15 (by decide) ?_
    refine Zr_iconst C (0) dX3_waits_33 rfl ?_
    exact Zr_zret C dX3_waits_34 (Nat.zero_le _) (Nat.zero_le _) (by first | exact Or.inl rfl | exact Or.inr rfl | assumption) ⟨rfl, rfl, rfl, rfl⟩
set_option maxHeartbeats 1000000 in
set_option maxRecDepth 100000 in
theorem k_X3_told {l : Launch} {D : va_G} {K : zKs} {n : Nat} {ad : zAd} {ca : Nat → Nat} {S : zSt} {σ : aS} (hB : aB n σ) (hR : cRel n σ S) {i : Nat} {w : Int32} (hi : i < n) : zMet l yX3_told cX3_told 4 (some .int) { frames := 2, cells := 0, slots := 0, locals := 42 } D K (cIL n) (cSh K n (cpo n σ.2.2)) (zA ad ca) S [.ref (zA ad ca (0, 0)), .int (nI i), .int w] (zEq (some (.int (fTold n σ i w))) (cSh K n (cpo n σ.2.2)) (zA ad ca) (S)) := by
  refine zEnter (own := RX3) (lv0 := [some (.ref (zA ad ca (0, 0))), some (.int (nI i)), some (.int w), none]) (by decide) rfl (by simp [Value.category]) (Nat.le_of_ble_eq_true rfl) rfl ?_
  intro p e s m below meth c A C _ hnm
  have hn := hB.2.2.1
  have hb := fun k h => hB.2.2.2.2 k i h
  have hw10 := aBits_10 (f := fun q => σ.1 1 16 (10 * i + q) != 0) hn
  have hp10 := aBits_10 (f := fun q => σ.1 1 17 (10 * i + q) != 0) hn
  have hh := hR.2.2.1 i hi
  by_cases h300 : w = 0
  · subst h300
    refine Zr_aload_n C dX3_told_0 rfl ?_
    refine Zr_iload_n C dX3_told_1 rfl ?_
    refine Zr_callV C cw_X3_54 (k_X3_workerAt_t hB hR hi) cm0 rfl rfl rfl (Nat.le_of_ble_eq_true rfl) (Nat.le_of_ble_eq_true rfl) rfl (Nat.le_of_ble_eq_true rfl) dX3_told_2 ⟨Nat.zero_le _, Nat.zero_le _⟩ ?_
    refine Zr_astore_n C dX3_told_5 (by decide) ?_
    refine Zr_aload_n C dX3_told_6 rfl ?_
    refine Zr_ifnonnull C 12 dX3_told_7 (by decide) ?_
    refine Zr_iload_n C dX3_told_12 rfl ?_
    refine Zr_tableIn C 76 dX3_told_13 (by decide) (by decide) rfl (by decide) ?_
    refine Zr_aload_n C dX3_told_76 rfl ?_
    refine Zr_getE C gf_X3_49 (cm4 hi) rfl rfl rfl (hR.w hi).1 dX3_told_77 ?_
    refine Zr_callS C cw_X3_181 (k_oneIf_b (hb 8 (by decide))) rfl (Nat.le_of_ble_eq_true rfl) (Nat.le_of_ble_eq_true rfl) rfl (Nat.le_of_ble_eq_true rfl) dX3_told_80 ⟨Nat.zero_le _, Nat.zero_le _⟩ ?_
    exact Zr_iret C dX3_told_83 (Nat.zero_le _) (Nat.zero_le _) ⟨rfl, rfl, rfl, rfl⟩
  by_cases h301 : w = 1
  · subst h301
    refine Zr_aload_n C dX3_told_0 rfl ?_
    refine Zr_iload_n C dX3_told_1 rfl ?_
    refine Zr_callV C cw_X3_54 (k_X3_workerAt_t hB hR hi) cm0 rfl rfl rfl (Nat.le_of_ble_eq_true rfl) (Nat.le_of_ble_eq_true rfl) rfl (Nat.le_of_ble_eq_true rfl) dX3_told_2 ⟨Nat.zero_le _, Nat.zero_le _⟩ ?_
    refine Zr_astore_n C dX3_told_5 (by decide) ?_
    refine Zr_aload_n C dX3_told_6 rfl ?_
    refine Zr_ifnonnull C 12 dX3_told_7 (by decide) ?_
    refine Zr_iload_n C dX3_told_12 rfl ?_
    refine Zr_tableIn C 84 dX3_told_13 (by decide) (by decide) rfl (by decide) ?_
    refine Zr_aload_n C dX3_told_84 rfl ?_
    refine Zr_callV C cw_X3_104 (k_X2_isBlocked hn hR hi) (cm4 hi) rfl rfl rfl (Nat.le_of_ble_eq_true rfl) (Nat.le_of_ble_eq_true rfl) rfl (Nat.le_of_ble_eq_true rfl) dX3_told_85 ⟨Nat.zero_le _, Nat.zero_le _⟩ ?_
    refine Zr_callS C cw_X3_181 (k_oneIf_b (by split <;> decide)) rfl (Nat.le_of_ble_eq_true rfl) (Nat.le_of_ble_eq_true rfl) rfl (Nat.le_of_ble_eq_true rfl) dX3_told_88 ⟨Nat.zero_le _, Nat.zero_le _⟩ ?_
    exact Zr_iret C dX3_told_91 (Nat.zero_le _) (Nat.zero_le _) ⟨rfl, rfl, rfl, rfl⟩
  by_cases h302 : w = 2
  · subst h302
    refine Zr_aload_n C dX3_told_0 rfl ?_
    refine Zr_iload_n C dX3_told_1 rfl ?_
    refine Zr_callV C cw_X3_54 (k_X3_workerAt_t hB hR hi) cm0 rfl rfl rfl (Nat.le_of_ble_eq_true rfl) (Nat.le_of_ble_eq_true rfl) rfl (Nat.le_of_ble_eq_true rfl) dX3_told_2 ⟨Nat.zero_le _, Nat.zero_le _⟩ ?_
    refine Zr_astore_n C dX3_told_5 (by decide) ?_
    refine Zr_aload_n C dX3_told_6 rfl ?_
    refine Zr_ifnonnull C 12 dX3_told_7 (by decide) ?_
    refine Zr_iload_n C dX3_told_12 rfl ?_
    refine Zr_tableIn C 92 dX3_told_13 (by decide) (by decide) rfl (by decide) ?_
    refine Zr_aload_n C dX3_told_92 rfl ?_
    refine Zr_iload_n C dX3_told_93 rfl ?_
    refine Zr_aload_n C dX3_told_94 rfl ?_
    refine Zr_callV C cw_X3_185 (k_X3_isInTree hB hR hi) cm0 rfl rfl rfl (Nat.le_of_ble_eq_true rfl) (Nat.le_of_ble_eq_true rfl) rfl (Nat.le_of_ble_eq_true rfl) dX3_told_95 ⟨Nat.zero_le _, Nat.zero_le _⟩ ?_
    refine Zr_callS C cw_X3_181 (k_oneIf_b (by split <;> decide)) rfl (Nat.le_of_ble_eq_true rfl) (Nat.le_of_ble_eq_true rfl) rfl (Nat.le_of_ble_eq_true rfl) dX3_told_98 ⟨Nat.zero_le _, Nat.zero_le _⟩ ?_
    exact Zr_iret C dX3_told_101 (Nat.zero_le _) (Nat.zero_le _) ⟨rfl, rfl, rfl, rfl⟩
  by_cases h303 : w = 3
  · subst h303
    refine Zr_aload_n C dX3_told_0 rfl ?_
    refine Zr_iload_n C dX3_told_1 rfl ?_
    refine Zr_callV C cw_X3_54 (k_X3_workerAt_t hB hR hi) cm0 rfl rfl rfl (Nat.le_of_ble_eq_true rfl) (Nat.le_of_ble_eq_true rfl) rfl (Nat.le_of_ble_eq_true rfl) dX3_told_2 ⟨Nat.zero_le _, Nat.zero_le _⟩ ?_
    refine Zr_astore_n C dX3_told_5 (by decide) ?_
    refine Zr_aload_n C dX3_told_6 rfl ?_
    refine Zr_ifnonnull C 12 dX3_told_7 (by decide) ?_
    refine Zr_iload_n C dX3_told_12 rfl ?_
    refine Zr_tableIn C 102 dX3_told_13 (by decide) (by decide) rfl (by decide) ?_
    refine Zr_aload_n C dX3_told_102 rfl ?_
    refine Zr_getE C gf_X3_189 (cm4 hi) rfl rfl rfl (hR.w hi).2.2.1 dX3_told_103 ?_
    exact Zr_iret C dX3_told_106 (Nat.zero_le _) (Nat.zero_le _) ⟨rfl, rfl, rfl, rfl⟩
  by_cases h304 : w = 4
  · subst h304
    refine Zr_aload_n C dX3_told_0 rfl ?_
    refine Zr_iload_n C dX3_told_1 rfl ?_
    refine Zr_callV C cw_X3_54 (k_X3_workerAt_t hB hR hi) cm0 rfl rfl rfl (Nat.le_of_ble_eq_true rfl) (Nat.le_of_ble_eq_true rfl) rfl (Nat.le_of_ble_eq_true rfl) dX3_told_2 ⟨Nat.zero_le _, Nat.zero_le _⟩ ?_
    refine Zr_astore_n C dX3_told_5 (by decide) ?_
    refine Zr_aload_n C dX3_told_6 rfl ?_
    refine Zr_ifnonnull C 12 dX3_told_7 (by decide) ?_
    refine Zr_iload_n C dX3_told_12 rfl ?_
    refine Zr_tableIn C 107 dX3_told_13 (by decide) (by decide) rfl (by decide) ?_
    refine Zr_aload_n C dX3_told_107 rfl ?_
    refine Zr_getE C gf_X3_71 (cm4 hi) rfl rfl rfl (hR.w hi).2.2.2.1 dX3_told_108 ?_
    exact Zr_iret C dX3_told_111 (Nat.zero_le _) (Nat.zero_le _) ⟨rfl, rfl, rfl, rfl⟩
  by_cases h305 : w = 5
  · subst h305
    refine Zr_aload_n C dX3_told_0 rfl ?_
    refine Zr_iload_n C dX3_told_1 rfl ?_
    refine Zr_callV C cw_X3_54 (k_X3_workerAt_t hB hR hi) cm0 rfl rfl rfl (Nat.le_of_ble_eq_true rfl) (Nat.le_of_ble_eq_true rfl) rfl (Nat.le_of_ble_eq_true rfl) dX3_told_2 ⟨Nat.zero_le _, Nat.zero_le _⟩ ?_
    refine Zr_astore_n C dX3_told_5 (by decide) ?_
    refine Zr_aload_n C dX3_told_6 rfl ?_
    refine Zr_ifnonnull C 12 dX3_told_7 (by decide) ?_
    refine Zr_iload_n C dX3_told_12 rfl ?_
    refine Zr_tableIn C 112 dX3_told_13 (by decide) (by decide) rfl (by decide) ?_
    refine Zr_aload_n C dX3_told_112 rfl ?_
    refine Zr_getE C gf_X3_78 (cm4 hi) rfl rfl rfl (hR.w hi).2.2.2.2.1 dX3_told_113 ?_
    exact Zr_iret C dX3_told_116 (Nat.zero_le _) (Nat.zero_le _) ⟨rfl, rfl, rfl, rfl⟩
  by_cases h306 : w = 6
  · subst h306
    refine Zr_aload_n C dX3_told_0 rfl ?_
    refine Zr_iload_n C dX3_told_1 rfl ?_
    refine Zr_callV C cw_X3_54 (k_X3_workerAt_t hB hR hi) cm0 rfl rfl rfl (Nat.le_of_ble_eq_true rfl) (Nat.le_of_ble_eq_true rfl) rfl (Nat.le_of_ble_eq_true rfl) dX3_told_2 ⟨Nat.zero_le _, Nat.zero_le _⟩ ?_
    refine Zr_astore_n C dX3_told_5 (by decide) ?_
    refine Zr_aload_n C dX3_told_6 rfl ?_
    refine Zr_ifnonnull C 12 dX3_told_7 (by decide) ?_
    refine Zr_iload_n C dX3_told_12 rfl ?_
    refine Zr_tableIn C 117 dX3_told_13 (by decide) (by decide) rfl (by decide) ?_
    refine Zr_aload_n C dX3_told_117 rfl ?_
    refine Zr_getE C gf_X3_150 (cm4 hi) rfl rfl rfl (hR.w hi).2.1 dX3_told_118 ?_
    refine Zr_callS C cw_X3_181 (k_oneIf_b (hb 12 (by decide))) rfl (Nat.le_of_ble_eq_true rfl) (Nat.le_of_ble_eq_true rfl) rfl (Nat.le_of_ble_eq_true rfl) dX3_told_121 ⟨Nat.zero_le _, Nat.zero_le _⟩ ?_
    exact Zr_iret C dX3_told_124 (Nat.zero_le _) (Nat.zero_le _) ⟨rfl, rfl, rfl, rfl⟩
  by_cases h307 : w = 7
  · subst h307
    refine Zr_aload_n C dX3_told_0 rfl ?_
    refine Zr_iload_n C dX3_told_1 rfl ?_
    refine Zr_callV C cw_X3_54 (k_X3_workerAt_t hB hR hi) cm0 rfl rfl rfl (Nat.le_of_ble_eq_true rfl) (Nat.le_of_ble_eq_true rfl) rfl (Nat.le_of_ble_eq_true rfl) dX3_told_2 ⟨Nat.zero_le _, Nat.zero_le _⟩ ?_
    refine Zr_astore_n C dX3_told_5 (by decide) ?_
    refine Zr_aload_n C dX3_told_6 rfl ?_
    refine Zr_ifnonnull C 12 dX3_told_7 (by decide) ?_
    refine Zr_iload_n C dX3_told_12 rfl ?_
    refine Zr_tableIn C 125 dX3_told_13 (by decide) (by decide) rfl (by decide) ?_
    refine Zr_aload_n C dX3_told_125 rfl ?_
    refine Zr_getR C gf_X3_41 cm0 rfl rfl rfl (by simp) dX3_told_126 ?_
    refine Zr_get C gf_X3_126 cm3 rfl rfl rfl dX3_told_129 ?_
    refine Zr_iload_n C dX3_told_132 rfl ?_
    refine Zr_icmp_ne C 140 dX3_told_133 (by decide) (fun h133 => ?_) (fun h133 => ?_)
    · refine Zr_iconst C (0) dX3_told_140 rfl ?_
      refine Zr_callS C cw_X3_181 (k_oneIf_b (by decide)) rfl (Nat.le_of_ble_eq_true rfl) (Nat.le_of_ble_eq_true rfl) rfl (Nat.le_of_ble_eq_true rfl) dX3_told_141 ⟨Nat.zero_le _, Nat.zero_le _⟩ ?_
      exact Zr_iret C dX3_told_144 (Nat.zero_le _) (Nat.zero_le _) ⟨by first | (show _ = some (Value.int (σ.1 1 13 i)); rw [hh, if_neg h133]; done) | (show _ = some (Value.int (σ.1 1 13 i)); rw [hh, if_pos h133]), rfl, rfl, rfl⟩
    · refine Zr_iconst C (1) dX3_told_136 rfl ?_
      refine Zr_goto C 141 dX3_told_137 (by decide) ?_
      refine Zr_callS C cw_X3_181 (k_oneIf_b (by decide)) rfl (Nat.le_of_ble_eq_true rfl) (Nat.le_of_ble_eq_true rfl) rfl (Nat.le_of_ble_eq_true rfl) dX3_told_141 ⟨Nat.zero_le _, Nat.zero_le _⟩ ?_
      exact Zr_iret C dX3_told_144 (Nat.zero_le _) (Nat.zero_le _) ⟨by first | (show _ = some (Value.int (σ.1 1 13 i)); rw [hh, if_neg h133]; done) | (show _ = some (Value.int (σ.1 1 13 i)); rw [hh, if_pos h133]), rfl, rfl, rfl⟩
  by_cases h308 : w = 8
  · subst h308
    refine Zr_aload_n C dX3_told_0 rfl ?_
    refine Zr_iload_n C dX3_told_1 rfl ?_
    refine Zr_callV C cw_X3_54 (k_X3_workerAt_t hB hR hi) cm0 rfl rfl rfl (Nat.le_of_ble_eq_true rfl) (Nat.le_of_ble_eq_true rfl) rfl (Nat.le_of_ble_eq_true rfl) dX3_told_2 ⟨Nat.zero_le _, Nat.zero_le _⟩ ?_
    refine Zr_astore_n C dX3_told_5 (by decide) ?_
    refine Zr_aload_n C dX3_told_6 rfl ?_
    refine Zr_ifnonnull C 12 dX3_told_7 (by decide) ?_
    refine Zr_iload_n C dX3_told_12 rfl ?_
    refine Zr_tableIn C 145 dX3_told_13 (by decide) (by decide) rfl (by decide) ?_
    refine Zr_aload_n C dX3_told_145 rfl ?_
    refine Zr_getE C gf_X3_92 (cm4 hi) rfl rfl rfl (hR.w hi).2.2.2.2.2.1 dX3_told_146 ?_
    refine Zr_callS C cw_X3_99 (k_J6_bitCount_0f7a4 hw10) rfl (Nat.le_of_ble_eq_true rfl) (Nat.le_of_ble_eq_true rfl) rfl (Nat.le_of_ble_eq_true rfl) dX3_told_149 ⟨Nat.zero_le _, Nat.zero_le _⟩ ?_
    exact Zr_iret C dX3_told_152 (Nat.zero_le _) (Nat.zero_le _) ⟨by rw [cPop_bits hn]; rfl, rfl, rfl, rfl⟩
  by_cases h309 : w = 9
  · subst h309
    refine Zr_aload_n C dX3_told_0 rfl ?_
    refine Zr_iload_n C dX3_told_1 rfl ?_
    refine Zr_callV C cw_X3_54 (k_X3_workerAt_t hB hR hi) cm0 rfl rfl rfl (Nat.le_of_ble_eq_true rfl) (Nat.le_of_ble_eq_true rfl) rfl (Nat.le_of_ble_eq_true rfl) dX3_told_2 ⟨Nat.zero_le _, Nat.zero_le _⟩ ?_
    refine Zr_astore_n C dX3_told_5 (by decide) ?_
    refine Zr_aload_n C dX3_told_6 rfl ?_
    refine Zr_ifnonnull C 12 dX3_told_7 (by decide) ?_
    refine Zr_iload_n C dX3_told_12 rfl ?_
    refine Zr_tableIn C 153 dX3_told_13 (by decide) (by decide) rfl (by decide) ?_
    refine Zr_aload_n C dX3_told_153 rfl ?_
    refine Zr_getE C gf_X3_107 (cm4 hi) rfl rfl rfl (hR.w hi).2.2.2.2.2.2.2.1 dX3_told_154 ?_
    refine Zr_callS C cw_X3_99 (k_J6_bitCount_0f7a4 hp10) rfl (Nat.le_of_ble_eq_true rfl) (Nat.le_of_ble_eq_true rfl) rfl (Nat.le_of_ble_eq_true rfl) dX3_told_157 ⟨Nat.zero_le _, Nat.zero_le _⟩ ?_
    exact Zr_iret C dX3_told_160 (Nat.zero_le _) (Nat.zero_le _) ⟨by rw [cPop_bits hn]; rfl, rfl, rfl, rfl⟩
  by_cases h310 : w = 10
  · subst h310
    refine Zr_aload_n C dX3_told_0 rfl ?_
    refine Zr_iload_n C dX3_told_1 rfl ?_
    refine Zr_callV C cw_X3_54 (k_X3_workerAt_t hB hR hi) cm0 rfl rfl rfl (Nat.le_of_ble_eq_true rfl) (Nat.le_of_ble_eq_true rfl) rfl (Nat.le_of_ble_eq_true rfl) dX3_told_2 ⟨Nat.zero_le _, Nat.zero_le _⟩ ?_
    refine Zr_astore_n C dX3_told_5 (by decide) ?_
    refine Zr_aload_n C dX3_told_6 rfl ?_
    refine Zr_ifnonnull C 12 dX3_told_7 (by decide) ?_
    refine Zr_iload_n C dX3_told_12 rfl ?_
    refine Zr_tableIn C 161 dX3_told_13 (by decide) (by decide) rfl (by decide) ?_
    refine Zr_aload_n C dX3_told_161 rfl ?_
    refine Zr_getE C gf_X3_192 (cm4 hi) rfl rfl rfl (hR.w hi).2.2.2.2.2.2.2.2.1 dX3_told_162 ?_
    exact Zr_iret C dX3_told_165 (Nat.zero_le _) (Nat.zero_le _) ⟨rfl, rfl, rfl, rfl⟩
  by_cases h311 : w = 11
  · subst h311
    refine Zr_aload_n C dX3_told_0 rfl ?_
    refine Zr_iload_n C dX3_told_1 rfl ?_
    refine Zr_callV C cw_X3_54 (k_X3_workerAt_t hB hR hi) cm0 rfl rfl rfl (Nat.le_of_ble_eq_true rfl) (Nat.le_of_ble_eq_true rfl) rfl (Nat.le_of_ble_eq_true rfl) dX3_told_2 ⟨Nat.zero_le _, Nat.zero_le _⟩ ?_
    refine Zr_astore_n C dX3_told_5 (by decide) ?_
    refine Zr_aload_n C dX3_told_6 rfl ?_
    refine Zr_ifnonnull C 12 dX3_told_7 (by decide) ?_
    refine Zr_iload_n C dX3_told_12 rfl ?_
    refine Zr_tableIn C 166 dX3_told_13 (by decide) (by decide) rfl (by decide) ?_
    refine Zr_aload_n C dX3_told_166 rfl ?_
    refine Zr_getE C gf_X3_120 (cm4 hi) rfl rfl rfl (hR.w hi).2.2.2.2.2.2.2.2.2 dX3_told_167 ?_
    exact Zr_iret C dX3_told_170 (Nat.zero_le _) (Nat.zero_le _) ⟨rfl, rfl, rfl, rfl⟩
  refine Zr_aload_n C dX3_told_0 rfl ?_
  refine Zr_iload_n C dX3_told_1 rfl ?_
  refine Zr_callV C cw_X3_54 (k_X3_workerAt_t hB hR hi) cm0 rfl rfl rfl (Nat.le_of_ble_eq_true rfl) (Nat.le_of_ble_eq_true rfl) rfl (Nat.le_of_ble_eq_true rfl) dX3_told_2 ⟨Nat.zero_le _, Nat.zero_le _⟩ ?_
  refine Zr_astore_n C dX3_told_5 (by decide) ?_
  refine Zr_aload_n C dX3_told_6 rfl ?_
  refine Zr_ifnonnull C 12 dX3_told_7 (by decide) ?_
  refine Zr_iload_n C dX3_told_12 rfl ?_
  refine Zr_tableOut C 171 dX3_told_13 (w_out 11 (by decide) (fun k hk e => by rcases (show k = 0 ∨ k = 1 ∨ k = 2 ∨ k = 3 ∨ k = 4 ∨ k = 5 ∨ k = 6 ∨ k = 7 ∨ k = 8 ∨ k = 9 ∨ k = 10 ∨ k = 11 by omega) with rfl | rfl | rfl | rfl | rfl | rfl | rfl | rfl | rfl | rfl | rfl | rfl <;> first | exact h300 e | exact h301 e | exact h302 e | exact h303 e | exact h304 e | exact h305 e | exact h306 e | exact h307 e | exact h308 e | exact h309 e | exact h310 e | exact h311 e)) (by decide) ?_
  refine Zr_iconst C (-1) dX3_told_171 rfl ?_
  exact Zr_iret C dX3_told_172 (Nat.zero_le _) (Nat.zero_le _) ⟨by simp [fTold, h300, h301, h302, h303, h304, h305, h306, h307, h308, h309, h310, h311], rfl, rfl, rfl⟩
set_option maxHeartbeats 1000000 in
set_option maxRecDepth 100000 in
theorem k_X3_told_f {l : Launch} {D : va_G} {K : zKs} {n : Nat} {ad : zAd} {ca : Nat → Nat} {S : zSt} {σ : aS} (hB : aB n σ) (hR : cRel n σ S) {x w : Int32} (hx : aBad n x) : zMet l yX3_told cX3_told 4 (some .int) { frames := 2, cells := 0, slots := 0, locals := 42 } D K (cIL n) (cSh K n (cpo n σ.2.2)) (zA ad ca) S [.ref (zA ad ca (0, 0)), .int x, .int w] (zEq (some (.int (-1))) (cSh K n (cpo n σ.2.2)) (zA ad ca) (S)) := by
  refine zEnter (own := RX3) (lv0 := [some (.ref (zA ad ca (0, 0))), some (.int x), some (.int w), none]) (by decide) rfl (by simp [Value.category]) (Nat.le_of_ble_eq_true rfl) rfl ?_
  intro p e s m below meth c A C _ hnm
  refine Zr_aload_n C dX3_told_0 rfl ?_
  refine Zr_iload_n C dX3_told_1 rfl ?_
  refine Zr_callV C cw_X3_54 (k_X3_workerAt_f hB hR hx) cm0 rfl rfl rfl (Nat.le_of_ble_eq_true rfl) (Nat.le_of_ble_eq_true rfl) rfl (Nat.le_of_ble_eq_true rfl) dX3_told_2 ⟨Nat.zero_le _, Nat.zero_le _⟩ ?_
  refine Zr_astore_nN C dX3_told_5 (by decide) ?_
  refine Zr_aload_nN C dX3_told_6 rfl ?_
  refine Zr_ifnonnullN C dX3_told_7 ?_
  refine Zr_iconst C (-1) dX3_told_10 rfl ?_
  exact Zr_iret C dX3_told_11 (Nat.zero_le _) (Nat.zero_le _) ⟨rfl, rfl, rfl, rfl⟩
set_option maxHeartbeats 1000000 in
set_option maxRecDepth 100000 in
theorem k_X3_message {l : Launch} {D : va_G} {K : zKs} {n : Nat} {ad : zAd} {ca : Nat → Nat} {S : zSt} {σ : aS} (hO : cOK n σ) (hR : cRel n σ S) {i j : Nat} {x w : Int32} (hi : i < n) (hj : j < n) (hij : i ≠ j) : zMet l yX3_message cX3_message 7 (some .int) { frames := 2, cells := 0, slots := 0, locals := 43 } D K (cIL n) (cSh K n (cpo n σ.2.2)) (zA ad ca) S [.ref (zA ad ca (0, 0)), .int (nI i), .int (nI j), .int x, .int w] (zEq (some (.int (fMsg (σ.2.1 (10 * i + j)) x w))) (cSh K n (cpo n σ.2.2)) (zA ad ca) (S)) := by
  refine zEnter (own := RX3) (lv0 := [some (.ref (zA ad ca (0, 0))), some (.int (nI i)), some (.int (nI j)), some (.int x), some (.int w), none, none]) (by decide) rfl (by simp [Value.category]) (Nat.le_of_ble_eq_true rfl) rfl ?_
  intro p e s m below meth c A C _ hnm
  have hB := hO.b
  have hn := hO.ten
  have hr := cRow_of hi hj hij
  obtain ⟨b, h1, h2, h3, e1, e2, h4, e3, hg⟩ := hR.r hr
  have hcx := cix_of (n := n) (i := i) hj
  have hcap : cpo n σ.2.2 (i * n + j) = σ.2.2 (10 * i + j) := by rw [cpo, hcx]
  rw [hcx] at h1 h2 h3 e2 h4 e3 hg
  by_cases hx : x < 0 ∨ nI (σ.2.1 (10 * i + j)).length ≤ x
  · refine Zr_aload_n C dX3_message_0 rfl ?_
    refine Zr_iload_n C dX3_message_1 rfl ?_
    refine Zr_iload_n C dX3_message_2 rfl ?_
    refine Zr_callV C cw_X3_58 (k_X3_rowBetween_t hB hR hi hj hij) cm0 rfl rfl rfl (Nat.le_of_ble_eq_true rfl) (Nat.le_of_ble_eq_true rfl) rfl (Nat.le_of_ble_eq_true rfl) dX3_message_3 ⟨Nat.zero_le _, Nat.zero_le _⟩ ?_
    refine Zr_astore C dX3_message_6 (by decide) ?_
    refine Zr_aload C dX3_message_8 rfl ?_
    refine Zr_ifnull C dX3_message_10 ?_
    refine Zr_iload_n C dX3_message_13 rfl ?_
    refine Zr_if_lt C 26 dX3_message_14 (by decide) (fun h14 => ?_) (fun h14 => ?_)
    · refine Zr_iconst C (-1) dX3_message_26 rfl ?_
      exact Zr_iret C dX3_message_27 (Nat.zero_le _) (Nat.zero_le _) ⟨by rw [fMsg_no (by omega) hx], rfl, rfl, rfl⟩
    · refine Zr_iload_n C dX3_message_17 rfl ?_
      refine Zr_aload C dX3_message_18 rfl ?_
      refine Zr_getE C gf_X3_153 (cm6 hr) rfl rfl rfl e2 dX3_message_20 ?_
      refine Zr_icmp_lt C 28 dX3_message_23 (by decide) (fun h23 => absurd (hx.resolve_left h14) (fun h => absurd h23 (i32_le h))) (fun h23 => ?_)
      refine Zr_iconst C (-1) dX3_message_26 rfl ?_
      exact Zr_iret C dX3_message_27 (Nat.zero_le _) (Nat.zero_le _) ⟨by rw [fMsg_no (by omega) hx], rfl, rfl, rfl⟩
  · obtain ⟨k, hk, rfl⟩ := nI_of (fun h => hx (Or.inl h))
    have hkl : k < (σ.2.1 (10 * i + j)).length := by
      rcases Nat.lt_or_ge k (σ.2.1 (10 * i + j)).length with h | h
      · exact h
      · exact absurd (Or.inr (nI_le h (by omega))) hx
    obtain ⟨mm, hm⟩ : ∃ mm, (σ.2.1 (10 * i + j))[k]? = some mm := ⟨_, List.getElem?_eq_getElem hkl⟩
    have hwm := hO.wm (10 * i + j) (by omega) mm (List.mem_of_getElem? hm)
    have ek := cPack_kind hn hwm
    rcases hwm with ⟨hkd, hm2⟩ | ⟨hkd, i6, hi6, hw6, u, hu, hu6⟩
    · have hne : ¬ mm.1 = 6 := by rcases hkd with h | h | h | h | h <;> (rw [h]; decide)
      have ha : mm.2.1 = -1 ∧ mm.2.2 = -1 := by rw [hm2]; exact ⟨rfl, rfl⟩
      refine Zr_aload_n C dX3_message_0 rfl ?_
      refine Zr_iload_n C dX3_message_1 rfl ?_
      refine Zr_iload_n C dX3_message_2 rfl ?_
      refine Zr_callV C cw_X3_58 (k_X3_rowBetween_t hB hR hi hj hij) cm0 rfl rfl rfl (Nat.le_of_ble_eq_true rfl) (Nat.le_of_ble_eq_true rfl) rfl (Nat.le_of_ble_eq_true rfl) dX3_message_3 ⟨Nat.zero_le _, Nat.zero_le _⟩ ?_
      refine Zr_astore C dX3_message_6 (by decide) ?_
      refine Zr_aload C dX3_message_8 rfl ?_
      refine Zr_ifnull C dX3_message_10 ?_
      refine Zr_iload_n C dX3_message_13 rfl ?_
      refine Zr_if_lt C 26 dX3_message_14 (by decide) (fun h14 => absurd h14 (nI_pos hk)) (fun h14 => ?_)
      refine Zr_iload_n C dX3_message_17 rfl ?_
      refine Zr_aload C dX3_message_18 rfl ?_
      refine Zr_getE C gf_X3_153 (cm6 hr) rfl rfl rfl e2 dX3_message_20 ?_
      refine Zr_icmp_lt C 28 dX3_message_23 (by decide) (fun h23 => ?_) (fun h23 => absurd (nI_lt hkl (by omega)) h23)
      refine Zr_aload C dX3_message_28 rfl ?_
      refine Zr_iload_n C dX3_message_30 rfl ?_
      refine Zr_callV C cw_X3_195 (k_X0_at (b := b) (k := k) (v := cPack mm) (cm6 hr) rfl (cm7 hr) rfl e1 (by show b < cpo n σ.2.2 (i * n + j); omega) (by show cpo n σ.2.2 (i * n + j) ≤ _; omega) (by omega) (by show k ≤ cpo n σ.2.2 (i * n + j); omega) (by show S 7 (i * n + j) (cAt b (cpo n σ.2.2 (i * n + j)) k) = _; rw [hcap]; exact hg k mm hm)) (cm6 hr) rfl rfl rfl (Nat.le_of_ble_eq_true rfl) (Nat.le_of_ble_eq_true rfl) rfl (Nat.le_of_ble_eq_true rfl) dX3_message_31 ⟨Nat.zero_le _, Nat.zero_le _⟩ ?_
      refine Zr_istore C dX3_message_34 (by decide) ?_
      refine Zr_iload C dX3_message_36 rfl ?_
      refine Zr_if_ne C 47 dX3_message_38 (by decide) (fun h38 => ?_) (fun h38 => ?_)
      · refine Zr_iload C dX3_message_47 rfl ?_
        refine Zr_callS C cw_X3_163 (k_X3_kindOf) rfl (Nat.le_of_ble_eq_true rfl) (Nat.le_of_ble_eq_true rfl) rfl (Nat.le_of_ble_eq_true rfl) dX3_message_49 ⟨Nat.zero_le _, Nat.zero_le _⟩ ?_
        refine Zr_topi (y := mm.1) ek ?_
        refine Zr_bipush C (6) dX3_message_52 rfl ?_
        refine Zr_icmp_eq C 59 dX3_message_54 (by decide) (fun h54 => absurd h54 hne) (fun h54 => ?_)
        refine Zr_iconst C (-1) dX3_message_57 rfl ?_
        exact Zr_iret C dX3_message_58 (Nat.zero_le _) (Nat.zero_le _) ⟨by rw [fMsg_at hk hm]; simp [*], rfl, rfl, rfl⟩
      · refine Zr_iload C dX3_message_41 rfl ?_
        refine Zr_callS C cw_X3_163 (k_X3_kindOf) rfl (Nat.le_of_ble_eq_true rfl) (Nat.le_of_ble_eq_true rfl) rfl (Nat.le_of_ble_eq_true rfl) dX3_message_43 ⟨Nat.zero_le _, Nat.zero_le _⟩ ?_
        refine Zr_topi (y := mm.1) ek ?_
        exact Zr_iret C dX3_message_46 (Nat.zero_le _) (Nat.zero_le _) ⟨by rw [fMsg_at hk hm]; simp [*], rfl, rfl, rfl⟩
    · have em : mm = (6, nI i6, nI u) := Prod.ext hkd (Prod.ext hw6 hu6)
      obtain ⟨c1, c2, c3⟩ := cPk i6 (by omega) u hu
      rw [← em] at c1 c2 c3
      refine Zr_aload_n C dX3_message_0 rfl ?_
      refine Zr_iload_n C dX3_message_1 rfl ?_
      refine Zr_iload_n C dX3_message_2 rfl ?_
      refine Zr_callV C cw_X3_58 (k_X3_rowBetween_t hB hR hi hj hij) cm0 rfl rfl rfl (Nat.le_of_ble_eq_true rfl) (Nat.le_of_ble_eq_true rfl) rfl (Nat.le_of_ble_eq_true rfl) dX3_message_3 ⟨Nat.zero_le _, Nat.zero_le _⟩ ?_
      refine Zr_astore C dX3_message_6 (by decide) ?_
      refine Zr_aload C dX3_message_8 rfl ?_
      refine Zr_ifnull C dX3_message_10 ?_
      refine Zr_iload_n C dX3_message_13 rfl ?_
      refine Zr_if_lt C 26 dX3_message_14 (by decide) (fun h14 => absurd h14 (nI_pos hk)) (fun h14 => ?_)
      refine Zr_iload_n C dX3_message_17 rfl ?_
      refine Zr_aload C dX3_message_18 rfl ?_
      refine Zr_getE C gf_X3_153 (cm6 hr) rfl rfl rfl e2 dX3_message_20 ?_
      refine Zr_icmp_lt C 28 dX3_message_23 (by decide) (fun h23 => ?_) (fun h23 => absurd (nI_lt hkl (by omega)) h23)
      refine Zr_aload C dX3_message_28 rfl ?_
      refine Zr_iload_n C dX3_message_30 rfl ?_
      refine Zr_callV C cw_X3_195 (k_X0_at (b := b) (k := k) (v := cPack mm) (cm6 hr) rfl (cm7 hr) rfl e1 (by show b < cpo n σ.2.2 (i * n + j); omega) (by show cpo n σ.2.2 (i * n + j) ≤ _; omega) (by omega) (by show k ≤ cpo n σ.2.2 (i * n + j); omega) (by show S 7 (i * n + j) (cAt b (cpo n σ.2.2 (i * n + j)) k) = _; rw [hcap]; exact hg k mm hm)) (cm6 hr) rfl rfl rfl (Nat.le_of_ble_eq_true rfl) (Nat.le_of_ble_eq_true rfl) rfl (Nat.le_of_ble_eq_true rfl) dX3_message_31 ⟨Nat.zero_le _, Nat.zero_le _⟩ ?_
      refine Zr_istore C dX3_message_34 (by decide) ?_
      refine Zr_iload C dX3_message_36 rfl ?_
      refine Zr_if_ne C 47 dX3_message_38 (by decide) (fun h38 => ?_) (fun h38 => ?_)
      · refine Zr_iload C dX3_message_47 rfl ?_
        refine Zr_callS C cw_X3_163 (k_X3_kindOf) rfl (Nat.le_of_ble_eq_true rfl) (Nat.le_of_ble_eq_true rfl) rfl (Nat.le_of_ble_eq_true rfl) dX3_message_49 ⟨Nat.zero_le _, Nat.zero_le _⟩ ?_
        refine Zr_topi (y := mm.1) ek ?_
        refine Zr_bipush C (6) dX3_message_52 rfl ?_
        refine Zr_icmp_eq C 59 dX3_message_54 (by decide) (fun h54 => ?_) (fun h54 => absurd hkd h54)
        refine Zr_iload C dX3_message_59 rfl ?_
        refine Zr_iconst C (1) dX3_message_61 rfl ?_
        refine Zr_icmp_ne C 71 dX3_message_62 (by decide) (fun h62 => ?_) (fun h62 => ?_)
        · refine Zr_iload C dX3_message_71 rfl ?_
          refine Zr_iconst C (2) dX3_message_73 rfl ?_
          refine Zr_icmp_ne C 85 dX3_message_74 (by decide) (fun h74 => ?_) (fun h74 => ?_)
          · refine Zr_iconst C (-1) dX3_message_85 rfl ?_
            exact Zr_iret C dX3_message_86 (Nat.zero_le _) (Nat.zero_le _) ⟨by rw [fMsg_at hk hm, em]; simp [*], rfl, rfl, rfl⟩
          · refine Zr_iload C dX3_message_77 rfl ?_
            refine Zr_callS C cw_X3_201 (k_X3_numberOf) rfl (Nat.le_of_ble_eq_true rfl) (Nat.le_of_ble_eq_true rfl) rfl (Nat.le_of_ble_eq_true rfl) dX3_message_79 ⟨Nat.zero_le _, Nat.zero_le _⟩ ?_
            refine Zr_topi (y := nI u) c3 ?_
            refine Zr_goto C 86 dX3_message_82 (by decide) ?_
            exact Zr_iret C dX3_message_86 (Nat.zero_le _) (Nat.zero_le _) ⟨by rw [fMsg_at hk hm, em]; simp [*], rfl, rfl, rfl⟩
        · refine Zr_iload C dX3_message_65 rfl ?_
          refine Zr_callS C cw_X3_198 (k_X3_beginnerOf) rfl (Nat.le_of_ble_eq_true rfl) (Nat.le_of_ble_eq_true rfl) rfl (Nat.le_of_ble_eq_true rfl) dX3_message_67 ⟨Nat.zero_le _, Nat.zero_le _⟩ ?_
          refine Zr_topi (y := nI i6) c2 ?_
          exact Zr_iret C dX3_message_70 (Nat.zero_le _) (Nat.zero_le _) ⟨by rw [fMsg_at hk hm, em]; simp [*], rfl, rfl, rfl⟩
      · refine Zr_iload C dX3_message_41 rfl ?_
        refine Zr_callS C cw_X3_163 (k_X3_kindOf) rfl (Nat.le_of_ble_eq_true rfl) (Nat.le_of_ble_eq_true rfl) rfl (Nat.le_of_ble_eq_true rfl) dX3_message_43 ⟨Nat.zero_le _, Nat.zero_le _⟩ ?_
        refine Zr_topi (y := mm.1) ek ?_
        exact Zr_iret C dX3_message_46 (Nat.zero_le _) (Nat.zero_le _) ⟨by rw [fMsg_at hk hm, em]; simp [*], rfl, rfl, rfl⟩
set_option maxHeartbeats 1000000 in
set_option maxRecDepth 100000 in
theorem k_X3_message_f {l : Launch} {D : va_G} {K : zKs} {n : Nat} {ad : zAd} {ca : Nat → Nat} {S : zSt} {σ : aS} (hB : aB n σ) (hR : cRel n σ S) {x y z w : Int32} (hx : aBad n x ∨ aBad n y ∨ x = y) : zMet l yX3_message cX3_message 7 (some .int) { frames := 2, cells := 0, slots := 0, locals := 43 } D K (cIL n) (cSh K n (cpo n σ.2.2)) (zA ad ca) S [.ref (zA ad ca (0, 0)), .int x, .int y, .int z, .int w] (zEq (some (.int (-1))) (cSh K n (cpo n σ.2.2)) (zA ad ca) (S)) := by
  refine zEnter (own := RX3) (lv0 := [some (.ref (zA ad ca (0, 0))), some (.int x), some (.int y), some (.int z), some (.int w), none, none]) (by decide) rfl (by simp [Value.category]) (Nat.le_of_ble_eq_true rfl) rfl ?_
  intro p e s m below meth c A C _ hnm
  have hn := hB.2.2.1
  rcases aIx n hn x with h | ⟨i, hi, rfl⟩
  · refine Zr_aload_n C dX3_message_0 rfl ?_
    refine Zr_iload_n C dX3_message_1 rfl ?_
    refine Zr_iload_n C dX3_message_2 rfl ?_
    refine Zr_callV C cw_X3_58 (k_X3_rowBetween_f hB hR (Or.inl h)) cm0 rfl rfl rfl (Nat.le_of_ble_eq_true rfl) (Nat.le_of_ble_eq_true rfl) rfl (Nat.le_of_ble_eq_true rfl) dX3_message_3 ⟨Nat.zero_le _, Nat.zero_le _⟩ ?_
    refine Zr_astoreN C dX3_message_6 (by decide) ?_
    refine Zr_aloadN C dX3_message_8 rfl ?_
    refine Zr_ifnullN C 26 dX3_message_10 (by decide) ?_
    refine Zr_iconst C (-1) dX3_message_26 rfl ?_
    exact Zr_iret C dX3_message_27 (Nat.zero_le _) (Nat.zero_le _) ⟨rfl, rfl, rfl, rfl⟩
  · rcases aIx n hn y with h | ⟨j, hj, rfl⟩
    · refine Zr_aload_n C dX3_message_0 rfl ?_
      refine Zr_iload_n C dX3_message_1 rfl ?_
      refine Zr_iload_n C dX3_message_2 rfl ?_
      refine Zr_callV C cw_X3_58 (k_X3_rowBetween_f hB hR (Or.inr h)) cm0 rfl rfl rfl (Nat.le_of_ble_eq_true rfl) (Nat.le_of_ble_eq_true rfl) rfl (Nat.le_of_ble_eq_true rfl) dX3_message_3 ⟨Nat.zero_le _, Nat.zero_le _⟩ ?_
      refine Zr_astoreN C dX3_message_6 (by decide) ?_
      refine Zr_aloadN C dX3_message_8 rfl ?_
      refine Zr_ifnullN C 26 dX3_message_10 (by decide) ?_
      refine Zr_iconst C (-1) dX3_message_26 rfl ?_
      exact Zr_iret C dX3_message_27 (Nat.zero_le _) (Nat.zero_le _) ⟨rfl, rfl, rfl, rfl⟩
    · have h : nI i = nI j := (hx.resolve_left (aBad.of hi hn)).resolve_left (aBad.of hj hn)
      have hij : i = j := (nI_eq (by omega) (by omega)).mp h
      subst hij
      refine Zr_aload_n C dX3_message_0 rfl ?_
      refine Zr_iload_n C dX3_message_1 rfl ?_
      refine Zr_iload_n C dX3_message_2 rfl ?_
      refine Zr_callV C cw_X3_58 (k_X3_rowBetween_d hB hR hi) cm0 rfl rfl rfl (Nat.le_of_ble_eq_true rfl) (Nat.le_of_ble_eq_true rfl) rfl (Nat.le_of_ble_eq_true rfl) dX3_message_3 ⟨Nat.zero_le _, Nat.zero_le _⟩ ?_
      refine Zr_astoreN C dX3_message_6 (by decide) ?_
      refine Zr_aloadN C dX3_message_8 rfl ?_
      refine Zr_ifnullN C 26 dX3_message_10 (by decide) ?_
      refine Zr_iconst C (-1) dX3_message_26 rfl ?_
      exact Zr_iret C dX3_message_27 (Nat.zero_le _) (Nat.zero_le _) ⟨rfl, rfl, rfl, rfl⟩
set_option maxHeartbeats 1000000 in
set_option maxRecDepth 100000 in
theorem k_X3_count {l : Launch} {D : va_G} {K : zKs} {n : Nat} {ad : zAd} {ca : Nat → Nat} {S : zSt} {σ : aS} (hO : cOK n σ) (hR : cRel n σ S) {w : Int32} : zMet l yX3_count cX3_count 2 (some .int) { frames := 1, cells := 0, slots := 0, locals := 25 } D K (cIL n) (cSh K n (cpo n σ.2.2)) (zA ad ca) S [.ref (zA ad ca (0, 0)), .int w] (zEq (some (.int (fCount σ w))) (cSh K n (cpo n σ.2.2)) (zA ad ca) (S)) := by
  refine zEnter (own := RX3) (lv0 := [some (.ref (zA ad ca (0, 0))), some (.int w)]) (by decide) rfl (by simp [Value.category]) (Nat.le_of_ble_eq_true rfl) rfl ?_
  intro p e s m below meth c A C _ hnm
  have hB := hO.b
  have hn := hO.ten
  have hb := hB.2.2.2.1
  have e6 : cSm n (fun x => (σ.2.1 x).length) (n * n) = aSum (fun r => (σ.2.1 r).length) 100 := cSm_all hn (fun r hr h => by rw [hO.em r hr h]; rfl)
  have e7 : cSm n (fun x => aOf 1 (σ.2.1 x)) (n * n) = aSum (fun r => aOf 1 (σ.2.1 r)) 100 := cSm_all hn (fun r hr h => by rw [hO.em r hr h]; rfl)
  by_cases h300 : w = 0
  · subst h300
    refine Zr_iload_n C dX3_count_0 rfl ?_
    refine Zr_tableIn C 56 dX3_count_1 (by decide) (by decide) rfl (by decide) ?_
    refine Zr_aload_n C dX3_count_56 rfl ?_
    refine Zr_getE C gf_X3_18 cm0 rfl rfl rfl hR.1.1 dX3_count_57 ?_
    exact Zr_iret C dX3_count_60 (Nat.zero_le _) (Nat.zero_le _) ⟨rfl, rfl, rfl, rfl⟩
  by_cases h301 : w = 1
  · subst h301
    refine Zr_iload_n C dX3_count_0 rfl ?_
    refine Zr_tableIn C 61 dX3_count_1 (by decide) (by decide) rfl (by decide) ?_
    refine Zr_aload_n C dX3_count_61 rfl ?_
    refine Zr_getE C gf_X3_213 cm0 rfl rfl rfl hR.1.2.2.1 dX3_count_62 ?_
    refine Zr_callS C cw_X3_181 (k_oneIf_b (hb 2 (by decide))) rfl (Nat.le_of_ble_eq_true rfl) (Nat.le_of_ble_eq_true rfl) rfl (Nat.le_of_ble_eq_true rfl) dX3_count_65 ⟨Nat.zero_le _, Nat.zero_le _⟩ ?_
    exact Zr_iret C dX3_count_68 (Nat.zero_le _) (Nat.zero_le _) ⟨rfl, rfl, rfl, rfl⟩
  by_cases h302 : w = 2
  · subst h302
    refine Zr_iload_n C dX3_count_0 rfl ?_
    refine Zr_tableIn C 69 dX3_count_1 (by decide) (by decide) rfl (by decide) ?_
    refine Zr_aload_n C dX3_count_69 rfl ?_
    refine Zr_getE C gf_X3_129 cm0 rfl rfl rfl hR.1.2.2.2.1 dX3_count_70 ?_
    refine Zr_callS C cw_X3_181 (k_oneIf_b (hb 3 (by decide))) rfl (Nat.le_of_ble_eq_true rfl) (Nat.le_of_ble_eq_true rfl) rfl (Nat.le_of_ble_eq_true rfl) dX3_count_73 ⟨Nat.zero_le _, Nat.zero_le _⟩ ?_
    exact Zr_iret C dX3_count_76 (Nat.zero_le _) (Nat.zero_le _) ⟨rfl, rfl, rfl, rfl⟩
  by_cases h303 : w = 3
  · subst h303
    refine Zr_iload_n C dX3_count_0 rfl ?_
    refine Zr_tableIn C 77 dX3_count_1 (by decide) (by decide) rfl (by decide) ?_
    refine Zr_aload_n C dX3_count_77 rfl ?_
    refine Zr_getR C gf_X3_41 cm0 rfl rfl rfl (by simp) dX3_count_78 ?_
    refine Zr_getE C gf_X3_216 cm3 rfl rfl rfl hR.2.1.2.2 dX3_count_81 ?_
    exact Zr_iret C dX3_count_84 (Nat.zero_le _) (Nat.zero_le _) ⟨rfl, rfl, rfl, rfl⟩
  by_cases h304 : w = 4
  · subst h304
    refine Zr_iload_n C dX3_count_0 rfl ?_
    refine Zr_tableIn C 85 dX3_count_1 (by decide) (by decide) rfl (by decide) ?_
    refine Zr_aload_n C dX3_count_85 rfl ?_
    refine Zr_getR C gf_X3_41 cm0 rfl rfl rfl (by simp) dX3_count_86 ?_
    refine Zr_getE C gf_X3_219 cm3 rfl rfl rfl hR.2.1.1 dX3_count_89 ?_
    exact Zr_iret C dX3_count_92 (Nat.zero_le _) (Nat.zero_le _) ⟨rfl, rfl, rfl, rfl⟩
  by_cases h305 : w = 5
  · subst h305
    refine Zr_iload_n C dX3_count_0 rfl ?_
    refine Zr_tableIn C 93 dX3_count_1 (by decide) (by decide) rfl (by decide) ?_
    refine Zr_aload_n C dX3_count_93 rfl ?_
    refine Zr_getR C gf_X3_41 cm0 rfl rfl rfl (by simp) dX3_count_94 ?_
    refine Zr_getE C gf_X3_222 cm3 rfl rfl rfl hR.2.1.2.1 dX3_count_97 ?_
    refine Zr_callS C cw_X3_181 (k_oneIf_b (hb 21 (by decide))) rfl (Nat.le_of_ble_eq_true rfl) (Nat.le_of_ble_eq_true rfl) rfl (Nat.le_of_ble_eq_true rfl) dX3_count_100 ⟨Nat.zero_le _, Nat.zero_le _⟩ ?_
    exact Zr_iret C dX3_count_103 (Nat.zero_le _) (Nat.zero_le _) ⟨rfl, rfl, rfl, rfl⟩
  by_cases h306 : w = 6
  · subst h306
    refine Zr_iload_n C dX3_count_0 rfl ?_
    refine Zr_tableIn C 104 dX3_count_1 (by decide) (by decide) rfl (by decide) ?_
    refine Zr_aload_n C dX3_count_104 rfl ?_
    refine Zr_callV C cw_X3_223 (k_X3_messagesUnderWay hB hR) cm0 rfl rfl rfl (Nat.le_of_ble_eq_true rfl) (Nat.le_of_ble_eq_true rfl) rfl (Nat.le_of_ble_eq_true rfl) dX3_count_105 ⟨Nat.zero_le _, Nat.zero_le _⟩ ?_
    exact Zr_iret C dX3_count_108 (Nat.zero_le _) (Nat.zero_le _) ⟨by rw [e6]; rfl, rfl, rfl, rfl⟩
  by_cases h307 : w = 7
  · subst h307
    refine Zr_iload_n C dX3_count_0 rfl ?_
    refine Zr_tableIn C 109 dX3_count_1 (by decide) (by decide) rfl (by decide) ?_
    refine Zr_aload_n C dX3_count_109 rfl ?_
    refine Zr_callV C cw_X3_204 (k_X3_worksUnderWay hB hR) cm0 rfl rfl rfl (Nat.le_of_ble_eq_true rfl) (Nat.le_of_ble_eq_true rfl) rfl (Nat.le_of_ble_eq_true rfl) dX3_count_110 ⟨Nat.zero_le _, Nat.zero_le _⟩ ?_
    exact Zr_iret C dX3_count_113 (Nat.zero_le _) (Nat.zero_le _) ⟨by rw [e7]; rfl, rfl, rfl, rfl⟩
  by_cases h308 : w = 8
  · subst h308
    refine Zr_iload_n C dX3_count_0 rfl ?_
    refine Zr_tableIn C 114 dX3_count_1 (by decide) (by decide) rfl (by decide) ?_
    refine Zr_aload_n C dX3_count_114 rfl ?_
    refine Zr_getE C gf_X3_160 cm0 rfl rfl rfl hR.1.2.2.2.2.2.2.2 dX3_count_115 ?_
    exact Zr_iret C dX3_count_118 (Nat.zero_le _) (Nat.zero_le _) ⟨rfl, rfl, rfl, rfl⟩
  by_cases h309 : w = 9
  · subst h309
    refine Zr_iload_n C dX3_count_0 rfl ?_
    refine Zr_tableIn C 119 dX3_count_1 (by decide) (by decide) rfl (by decide) ?_
    refine Zr_aload_n C dX3_count_119 rfl ?_
    refine Zr_getE C gf_X3_226 cm0 rfl rfl rfl hR.1.2.2.2.2.2.2.1 dX3_count_120 ?_
    exact Zr_iret C dX3_count_123 (Nat.zero_le _) (Nat.zero_le _) ⟨rfl, rfl, rfl, rfl⟩
  refine Zr_iload_n C dX3_count_0 rfl ?_
  refine Zr_tableOut C 124 dX3_count_1 (w_out 9 (by decide) (fun k hk e => by rcases (show k = 0 ∨ k = 1 ∨ k = 2 ∨ k = 3 ∨ k = 4 ∨ k = 5 ∨ k = 6 ∨ k = 7 ∨ k = 8 ∨ k = 9 by omega) with rfl | rfl | rfl | rfl | rfl | rfl | rfl | rfl | rfl | rfl <;> first | exact h300 e | exact h301 e | exact h302 e | exact h303 e | exact h304 e | exact h305 e | exact h306 e | exact h307 e | exact h308 e | exact h309 e)) (by decide) ?_
  refine Zr_iconst C (-1) dX3_count_124 rfl ?_
  exact Zr_iret C dX3_count_125 (Nat.zero_le _) (Nat.zero_le _) ⟨by simp [fCount, h300, h301, h302, h303, h304, h305, h306, h307, h308, h309], rfl, rfl, rfl⟩
theorem c_all : ∀ n, n ≤ 10 → (1 : Int32) <<< (nI n &&& 31) - 1 = nI (2 ^ n - 1) := by decide +kernel
theorem c_asks {n i : Nat} {mask : Int32} (hn : n ≤ 10) (hi : i < n) : mask &&& ((1 : Int32) <<< (nI n &&& 31) - 1) &&& ((1 : Int32) <<< (nI i &&& 31) ^^^ (-1)) = nI (aBits (aAsks i mask) n) := by
  have h1 : mask &&& ((1 : Int32) <<< (nI n &&& 31) - 1) = nI (aBits (aBit mask) n) := by
    have hp : 2 ^ n ≤ 2 ^ 10 := Nat.pow_le_pow_right (by decide) hn
    rw [c_all n hn, pk_and mask n (by rw [pk_tn (by omega)])]
    congr 1
    apply Nat.eq_of_testBit_eq
    intro q
    rw [aBits_bit, Nat.testBit_mod_two_pow]
    rfl
  rw [h1, c_clr hn hi]
  congr 1
  apply aBits_cong
  intro q hq
  by_cases hqi : q = i
  · simp [aAsks, hqi]
  · simp [aAsks, hqi]
theorem cRask {n : Nat} {σ : aS} {S : zSt} {i : Nat} {f : Nat → Bool} (h : cRel n σ S) (hn : n ≤ 10) (hi : i < n) (hw : aWf σ n i = 0) : cRel n (aRowSet σ 16 i f n 1) (z3 S 4 i 6 (nI (aBits f n))) := by
  obtain ⟨⟨a1, a2, a3, a4, a5, a6, a7, a8⟩, ⟨b1, b2, b3⟩, hh, hw2, hl, hr⟩ := h
  refine ⟨⟨?_, ?_, ?_, ?_, ?_, ?_, ?_, ?_⟩, ⟨?_, ?_, ?_⟩, fun q hq => ?_, fun q hq => ?_, fun q hq j hj => ?_, fun r hr2 => ?_⟩
  · simp [z3, aRowSet, a1]
  · simp [z3, aRowSet, a2]
  · simp [z3, aRowSet, a3]
  · simp [z3, aRowSet, a4]
  · simp [z3, aRowSet, a5]
  · simp [z3, aRowSet, a6]
  · simp [z3, aRowSet, a7]
  · simp [z3, aRowSet, a8]
  · simp [z3, aRowSet, b1]
  · simp [z3, aRowSet, b2]
  · simp [z3, aRowSet, b3]
  · simpa [z3, aRowSet] using hh q hq
  · obtain ⟨w1, w2, w3, w4, w5, w6, w7, w8, w9, w10⟩ := hw2 q hq
    have hz := aCnt_zero.mp hw
    by_cases hqi : q = i
    · subst hqi
      have e : aBits f n = aBits (fun x => (aRowSet σ 16 q f n 1).1 1 16 (10 * q + x) != 0) n := aBits_cong (fun x hx => by
        have h1 : (10 * q + x) / 10 = q := by omega
        have h2 : (10 * q + x) % 10 = x := by omega
        have h3 := hz x hx
        simp only [aRowSet, h1, h2, hx, true_and]
        cases hf : f x with
        | false => simpa using h3
        | true => simp)
      refine ⟨?_, ?_, ?_, ?_, ?_, ?_, ?_, ?_, ?_, ?_⟩ <;> first | (rw [← e]; simp [z3]; done) | simp [z3, aRowSet, w1, w2, w3, w4, w5, w6, w7, w8, w9, w10]
    · have e : aBits (fun x => (aRowSet σ 16 i f n 1).1 1 16 (10 * q + x) != 0) n = aBits (fun x => σ.1 1 16 (10 * q + x) != 0) n := aBits_cong (fun x hx => by
        have h1 : ¬ (10 * q + x) / 10 = i := by omega
        simp [aRowSet, h1])
      refine ⟨?_, ?_, ?_, ?_, ?_, ?_, ?_, ?_, ?_, ?_⟩ <;> first | (rw [e]; simp [z3, hqi, w6]; done) | simp [z3, aRowSet, hqi, w1, w2, w3, w4, w5, w6, w7, w8, w9, w10]
  · simpa [z3, aRowSet] using hl q hq j hj
  · rw [show (z3 S 4 i 6 (nI (aBits f n))) 6 r = S 6 r from by funext x; simp [z3], show (z3 S 4 i 6 (nI (aBits f n))) 7 r = S 7 r from by funext x; simp [z3]]
    exact hr r hr2
set_option maxHeartbeats 1000000 in
set_option maxRecDepth 100000 in
theorem k_X3_ask {l : Launch} {D : va_G} {K : zKs} {n : Nat} {ad : zAd} {ca : Nat → Nat} {S : zSt} {σ : aS} (hO : cOK n σ) (hR : cRel n σ S) {i F : Nat} {mask : Int32} (hi : i < n) (hF : aLam (fAsk n σ i mask).2 ≤ F) : zMet l yX3_ask cX3_ask 5 (some .int) { frames := 4, cells := (F - aLam σ), slots := (2 * (F - aLam σ)), locals := 90 } D K (cIL n) (cSh K n (cpo n σ.2.2)) (zA ad ca) S [.ref (zA ad ca (0, 0)), .int (nI i), .int mask] (cP K n ad (some (.int (fAsk n σ i mask).1)) (fAsk n σ i mask).2) := by
  refine zEnter (own := RX3) (lv0 := [some (.ref (zA ad ca (0, 0))), some (.int (nI i)), some (.int mask), none, none]) (by decide) rfl (by simp [Value.category]) (Nat.le_of_ble_eq_true rfl) rfl ?_
  intro p e s m below meth c A C _ hnm
  have hB := hO.b
  have hn := hO.ten
  have hf10 := aBits_10 (f := aAsks i mask) hn
  by_cases hf : aFree σ n i = true
  · have hw : aWf σ n i = 0 := by simp [aFree] at hf; exact hf.2
    by_cases hc : aCnt (aAsks i mask) n = 0
    · have hl : fAsk n σ i mask = (-1, σ) := if_neg (fun h => h.2 hc)
      have hz := aBits_zero.mpr hc
      refine Zr_aload_n C dX3_ask_0 rfl ?_
      refine Zr_iload_n C dX3_ask_1 rfl ?_
      refine Zr_callV C cw_X3_54 (k_X3_workerAt_t hB hR hi) cm0 rfl rfl rfl (Nat.le_of_ble_eq_true rfl) (Nat.le_of_ble_eq_true rfl) rfl (Nat.le_of_ble_eq_true rfl) dX3_ask_2 ⟨Nat.zero_le _, Nat.zero_le _⟩ ?_
      refine Zr_astore_n C dX3_ask_5 (by decide) ?_
      refine Zr_aload_n C dX3_ask_6 rfl ?_
      refine Zr_ifnull C dX3_ask_7 ?_
      refine Zr_aload_n C dX3_ask_10 rfl ?_
      refine Zr_callV C cw_X3_62 (k_X2_isFree hn hR hi) (cm4 hi) rfl rfl rfl (Nat.le_of_ble_eq_true rfl) (Nat.le_of_ble_eq_true rfl) rfl (Nat.le_of_ble_eq_true rfl) dX3_ask_11 ⟨Nat.zero_le _, Nat.zero_le _⟩ ?_
      refine Zr_topi (y := 1) (if_pos hf) ?_
      refine Zr_if_ne C 19 dX3_ask_14 (by decide) (fun h14 => ?_) (fun h14 => absurd h14 (by decide))
      refine Zr_iload_n C dX3_ask_19 rfl ?_
      refine Zr_aload_n C dX3_ask_20 rfl ?_
      refine Zr_getE C gf_X3_18 cm0 rfl rfl rfl (hR.1.1.trans hB.1) dX3_ask_21 ?_
      refine Zr_callS C cw_X3_85 (k_X3_allOf) rfl (Nat.le_of_ble_eq_true rfl) (Nat.le_of_ble_eq_true rfl) rfl (Nat.le_of_ble_eq_true rfl) dX3_ask_24 ⟨Nat.zero_le _, Nat.zero_le _⟩ ?_
      refine Zr_iand C dX3_ask_27 ?_
      refine Zr_iload_n C dX3_ask_28 rfl ?_
      refine Zr_callS C cw_X3_89 (k_X3_bitOf) rfl (Nat.le_of_ble_eq_true rfl) (Nat.le_of_ble_eq_true rfl) rfl (Nat.le_of_ble_eq_true rfl) dX3_ask_29 ⟨Nat.zero_le _, Nat.zero_le _⟩ ?_
      refine Zr_iconst C (-1) dX3_ask_32 rfl ?_
      refine Zr_ixor C dX3_ask_33 ?_
      refine Zr_iand C dX3_ask_34 ?_
      refine Zr_topi (y := nI (aBits (aAsks i mask) n)) (c_asks hn hi) ?_
      refine Zr_istore C dX3_ask_35 (by decide) ?_
      refine Zr_iload C dX3_ask_37 rfl ?_
      refine Zr_if_ne C 44 dX3_ask_39 (by decide) (fun h39 => absurd (by rw [hz]; rfl) h39) (fun h39 => ?_)
      refine Zr_iconst C (-1) dX3_ask_42 rfl ?_
      exact Zr_iret C dX3_ask_43 (Nat.zero_le _) (Nat.zero_le _) (by rw [hl]; exact ⟨rfl, rfl, ⟨_, rfl⟩, hR⟩)
    · have hl : fAsk n σ i mask = (nI (aCnt (aAsks i mask) n), aAll (aRowSet σ 16 i (aAsks i mask) n 1) i (aAsks i mask) n (4, -1, -1)) := if_pos ⟨hf, hc⟩
      have hB2 : aB n (aRowSet σ 16 i (aAsks i mask) n 1) := by
        obtain ⟨q1, q2, q3, q4, q5⟩ := hB
        refine ⟨by simp [aRowSet, q1], q2, q3, fun k hk => by simpa [aRowSet] using q4 k hk, fun k x hk => ?_⟩
        simp only [aRowSet]
        split
        · exact Or.inr rfl
        · exact q5 k x hk
      refine Zr_aload_n C dX3_ask_0 rfl ?_
      refine Zr_iload_n C dX3_ask_1 rfl ?_
      refine Zr_callV C cw_X3_54 (k_X3_workerAt_t hB hR hi) cm0 rfl rfl rfl (Nat.le_of_ble_eq_true rfl) (Nat.le_of_ble_eq_true rfl) rfl (Nat.le_of_ble_eq_true rfl) dX3_ask_2 ⟨by first | exact Nat.zero_le _ | (show 0 + (F - aLam σ) ≤ F - aLam σ; omega), by first | exact Nat.zero_le _ | (show 0 + 2 * (F - aLam σ) ≤ 2 * (F - aLam σ); omega)⟩ ?_
      refine Zr_astore_n C dX3_ask_5 (by decide) ?_
      refine Zr_aload_n C dX3_ask_6 rfl ?_
      refine Zr_ifnull C dX3_ask_7 ?_
      refine Zr_aload_n C dX3_ask_10 rfl ?_
      refine Zr_callV C cw_X3_62 (k_X2_isFree hn hR hi) (cm4 hi) rfl rfl rfl (Nat.le_of_ble_eq_true rfl) (Nat.le_of_ble_eq_true rfl) rfl (Nat.le_of_ble_eq_true rfl) dX3_ask_11 ⟨by first | exact Nat.zero_le _ | (show 0 + (F - aLam σ) ≤ F - aLam σ; omega), by first | exact Nat.zero_le _ | (show 0 + 2 * (F - aLam σ) ≤ 2 * (F - aLam σ); omega)⟩ ?_
      refine Zr_topi (y := 1) (if_pos hf) ?_
      refine Zr_if_ne C 19 dX3_ask_14 (by decide) (fun h14 => ?_) (fun h14 => absurd h14 (by decide))
      refine Zr_iload_n C dX3_ask_19 rfl ?_
      refine Zr_aload_n C dX3_ask_20 rfl ?_
      refine Zr_getE C gf_X3_18 cm0 rfl rfl rfl (hR.1.1.trans hB.1) dX3_ask_21 ?_
      refine Zr_callS C cw_X3_85 (k_X3_allOf) rfl (Nat.le_of_ble_eq_true rfl) (Nat.le_of_ble_eq_true rfl) rfl (Nat.le_of_ble_eq_true rfl) dX3_ask_24 ⟨by first | exact Nat.zero_le _ | (show 0 + (F - aLam σ) ≤ F - aLam σ; omega), by first | exact Nat.zero_le _ | (show 0 + 2 * (F - aLam σ) ≤ 2 * (F - aLam σ); omega)⟩ ?_
      refine Zr_iand C dX3_ask_27 ?_
      refine Zr_iload_n C dX3_ask_28 rfl ?_
      refine Zr_callS C cw_X3_89 (k_X3_bitOf) rfl (Nat.le_of_ble_eq_true rfl) (Nat.le_of_ble_eq_true rfl) rfl (Nat.le_of_ble_eq_true rfl) dX3_ask_29 ⟨by first | exact Nat.zero_le _ | (show 0 + (F - aLam σ) ≤ F - aLam σ; omega), by first | exact Nat.zero_le _ | (show 0 + 2 * (F - aLam σ) ≤ 2 * (F - aLam σ); omega)⟩ ?_
      refine Zr_iconst C (-1) dX3_ask_32 rfl ?_
      refine Zr_ixor C dX3_ask_33 ?_
      refine Zr_iand C dX3_ask_34 ?_
      refine Zr_topi (y := nI (aBits (aAsks i mask) n)) (c_asks hn hi) ?_
      refine Zr_istore C dX3_ask_35 (by decide) ?_
      refine Zr_iload C dX3_ask_37 rfl ?_
      refine Zr_if_ne C 44 dX3_ask_39 (by decide) (fun h39 => ?_) (fun h39 => absurd (aBits_zero.mp ((nI_eq (by omega) (by decide)).mp h39)) hc)
      refine Zr_aload_n C dX3_ask_44 rfl ?_
      refine Zr_iload C dX3_ask_45 rfl ?_
      refine Zr_putE C pf_X3_92 (cm4 hi) rfl rfl rfl (znI _) (cRask hR hn hi hw) dX3_ask_47 (fun S hR => ?_)
      refine Zr_aload_n C dX3_ask_50 rfl ?_
      refine Zr_iload_n C dX3_ask_51 rfl ?_
      refine Zr_iload C dX3_ask_52 rfl ?_
      refine Zr_iconst C (4) dX3_ask_54 rfl ?_
      refine Zr_topi (y := cPack (4, -1, -1)) (by decide) ?_
      refine Zr_callVCv C cw_X3_95 (k_X3_putToEach (σ := aRowSet σ 16 i (aAsks i mask) n 1) (f := aAsks i mask) hB2 hR hi hf10 (by simp [aAsks]) (fun q hq _ => by rw [aBits_bit]; simp [hq]) wm4 (by rw [hl] at hF; exact hF) hO.len) cm0 rfl rfl rfl (Nat.le_of_ble_eq_true rfl) (Nat.le_of_ble_eq_true rfl) rfl (Nat.le_of_ble_eq_true rfl) dX3_ask_55 ⟨by show 0 + (F - aLam σ) ≤ F - aLam σ; omega, by show 0 + 2 * (F - aLam σ) ≤ 2 * (F - aLam σ); omega⟩ (fun ca S hR => ?_)
      refine Zr_iload C dX3_ask_58 rfl ?_
      refine Zr_callS C cw_X3_99 (k_J6_bitCount_0f7a4 hf10) rfl (Nat.le_of_ble_eq_true rfl) (Nat.le_of_ble_eq_true rfl) rfl (Nat.le_of_ble_eq_true rfl) dX3_ask_60 ⟨by first | exact Nat.zero_le _ | (show 0 + (F - aLam σ) ≤ F - aLam σ; omega), by first | exact Nat.zero_le _ | (show 0 + 2 * (F - aLam σ) ≤ 2 * (F - aLam σ); omega)⟩ ?_
      refine Zr_topi (y := nI (aCnt (aAsks i mask) n)) (by rw [cPop_bits hn]) ?_
      exact Zr_iret C dX3_ask_63 (by first | exact Nat.zero_le _ | (show 0 + (F - aLam σ) ≤ F - aLam σ; omega)) (by first | exact Nat.zero_le _ | (show 0 + 2 * (F - aLam σ) ≤ 2 * (F - aLam σ); omega)) (by rw [hl]; exact ⟨rfl, rfl, ⟨_, rfl⟩, hR⟩)
  · have hl : fAsk n σ i mask = (-1, σ) := if_neg (fun h => hf h.1)
    refine Zr_aload_n C dX3_ask_0 rfl ?_
    refine Zr_iload_n C dX3_ask_1 rfl ?_
    refine Zr_callV C cw_X3_54 (k_X3_workerAt_t hB hR hi) cm0 rfl rfl rfl (Nat.le_of_ble_eq_true rfl) (Nat.le_of_ble_eq_true rfl) rfl (Nat.le_of_ble_eq_true rfl) dX3_ask_2 ⟨Nat.zero_le _, Nat.zero_le _⟩ ?_
    refine Zr_astore_n C dX3_ask_5 (by decide) ?_
    refine Zr_aload_n C dX3_ask_6 rfl ?_
    refine Zr_ifnull C dX3_ask_7 ?_
    refine Zr_aload_n C dX3_ask_10 rfl ?_
    refine Zr_callV C cw_X3_62 (k_X2_isFree hn hR hi) (cm4 hi) rfl rfl rfl (Nat.le_of_ble_eq_true rfl) (Nat.le_of_ble_eq_true rfl) rfl (Nat.le_of_ble_eq_true rfl) dX3_ask_11 ⟨Nat.zero_le _, Nat.zero_le _⟩ ?_
    refine Zr_topi (y := 0) (if_neg hf) ?_
    refine Zr_if_ne C 19 dX3_ask_14 (by decide) (fun h14 => absurd rfl h14) (fun h14 => ?_)
    refine Zr_iconst C (-1) dX3_ask_17 rfl ?_
    exact Zr_iret C dX3_ask_18 (Nat.zero_le _) (Nat.zero_le _) (by rw [hl]; exact ⟨rfl, rfl, ⟨_, rfl⟩, hR⟩)
set_option maxHeartbeats 1000000 in
set_option maxRecDepth 100000 in
theorem k_X3_ask_f {l : Launch} {D : va_G} {K : zKs} {n : Nat} {ad : zAd} {ca : Nat → Nat} {S : zSt} {σ : aS} (hB : aB n σ) (hR : cRel n σ S) {x y : Int32} (hx : aBad n x) : zMet l yX3_ask cX3_ask 5 (some .int) { frames := 4, cells := 0, slots := 0, locals := 90 } D K (cIL n) (cSh K n (cpo n σ.2.2)) (zA ad ca) S [.ref (zA ad ca (0, 0)), .int x, .int y] (zEq (some (.int (-1))) (cSh K n (cpo n σ.2.2)) (zA ad ca) (S)) := by
  refine zEnter (own := RX3) (lv0 := [some (.ref (zA ad ca (0, 0))), some (.int x), some (.int y), none, none]) (by decide) rfl (by simp [Value.category]) (Nat.le_of_ble_eq_true rfl) rfl ?_
  intro p e s m below meth c A C _ hnm
  refine Zr_aload_n C dX3_ask_0 rfl ?_
  refine Zr_iload_n C dX3_ask_1 rfl ?_
  refine Zr_callV C cw_X3_54 (k_X3_workerAt_f hB hR hx) cm0 rfl rfl rfl (Nat.le_of_ble_eq_true rfl) (Nat.le_of_ble_eq_true rfl) rfl (Nat.le_of_ble_eq_true rfl) dX3_ask_2 ⟨Nat.zero_le _, Nat.zero_le _⟩ ?_
  refine Zr_astore_nN C dX3_ask_5 (by decide) ?_
  refine Zr_aload_nN C dX3_ask_6 rfl ?_
  refine Zr_ifnullN C 17 dX3_ask_7 (by decide) ?_
  refine Zr_iconst C (-1) dX3_ask_17 rfl ?_
  exact Zr_iret C dX3_ask_18 (Nat.zero_le _) (Nat.zero_le _) ⟨rfl, rfl, rfl, rfl⟩
