theorem aQual_8 {σ : aS} {i j : Nat} {v : Int32} (h : j ≠ i) : aQual (aN σ 1 8 i v) j = aQual σ j := by
  simp [aQual, aTree, aN, z3, h]
theorem aAll_at {σ : aS} {i k : Nat} {f : Nat → Bool} {mm : aM} (hk : k < 10) : (aAll σ i f k mm).2.1 (10 * i + k) = σ.2.1 (10 * i + k) := by
  simp only [aAll]
  rw [if_neg]
  rintro ⟨-, h, -⟩
  omega
theorem aAll_N (σ : aS) (a b k : Nat) (v : Int32) (p : Nat) (f : Nat → Bool) (n : Nat) (mm : aM) : aAll (aN σ a b k v) p f n mm = aN (aAll σ p f n mm) a b k v := rfl
theorem aPush_N (σ : aS) (a b k : Nat) (v : Int32) (r : Nat) (mm : aM) : aPush (aN σ a b k v) r mm = aN (aPush σ r mm) a b k v := rfl
theorem aBit_shr {x : Int32} {k : Nat} (hk : k < 32) : (x >>> (nI k &&& 31) &&& 1) = 0 ↔ aBit x k = false := by
  have h1 : ((nI k &&& 31).toBitVec.smod 32).toNat = k := by
    have : ∀ n, n < 32 → ((nI n &&& 31).toBitVec.smod 32).toNat = n := by decide +kernel
    exact this k hk
  have h2 : (x >>> (nI k &&& 31) &&& 1).toBitVec = (x.toBitVec.sshiftRight k) &&& 1#32 := by
    rw [Int32.toBitVec_and, Int32.toBitVec_shiftRight]
    rw [BitVec.sshiftRight_eq', h1]
    rfl
  have h3 : ∀ b : BitVec 32, (b &&& 1#32 = 0#32) ↔ b.getLsbD 0 = false := by
    intro b
    constructor
    · intro h
      have := congrArg (fun z : BitVec 32 => z.getLsbD 0) h
      simpa using this
    · intro h
      apply BitVec.eq_of_getLsbD_eq
      intro i hi
      rw [BitVec.getLsbD_and]
      rcases Nat.eq_zero_or_pos i with rfl | hz
      · rw [h]; simp
      · have : (1#32).getLsbD i = false := by
          rw [BitVec.getLsbD_one]
          simp
          omega
        simp [this]
  constructor
  · intro h
    have h4 := congrArg Int32.toBitVec h
    rw [h2] at h4
    have h5 := (h3 _).mp h4
    rw [BitVec.getLsbD_sshiftRight] at h5
    simpa [hk, aBit, Nat.not_le.mpr hk] using h5
  · intro h
    apply Int32.toBitVec_inj.mp
    rw [h2]
    refine (h3 _).mpr ?_
    rw [BitVec.getLsbD_sshiftRight]
    simpa [hk, aBit, Nat.not_le.mpr hk] using h
set_option maxHeartbeats 4000000 in
set_option maxRecDepth 100000 in
theorem k_X4_start {l : Launch} {D : va_G} {K : zKs} {ad : zAd} {S : zSt} {σ : aS} {n : Nat} (hB : aB n σ) (hR : rRel σ S) : zMet l yX4_start cX4_start 1 (some .boolean) { frames := 0, cells := 0, slots := 0, locals := 0 } D K rIL (rSh K) ad S [.ref (ad (0, 0))] (zR (some (.int (fStart σ).1)) (rSh K) ad (rRel (fStart σ).2)) := by
  refine zEnter (own := RX4) (lv0 := [some (.ref (ad (0, 0)))]) (by decide) rfl (by simp [Value.category]) (Nat.le_of_ble_eq_true rfl) rfl ?_
  intro p e s m below meth c A C _ hnm
  refine Zr_aload_n C dX4_start_0 rfl ?_
  refine Zr_getE C gf_X4_79 qm0 rfl rfl rfl (rg hR) dX4_start_1 ?_
  refine Zr_if_eq C 9 dX4_start_4 (by decide) (fun h4 => ?_) (fun h4 => ?_)
  · refine Zr_aload_n C dX4_start_9 rfl ?_
    refine Zr_iconst C (1) dX4_start_10 rfl ?_
    refine Zr_putE C pf_X4_79 qm0 rfl rfl rfl (znZ (by first | exact Or.inl rfl | exact Or.inr rfl | assumption)) (rRg hR) dX4_start_11 (fun S hR => ?_)
    refine Zr_aload_n C dX4_start_14 rfl ?_
    refine Zr_getR C gf_X4_9 qm0 rfl rfl rfl (by decide) dX4_start_15 ?_
    refine Zr_iconst C (0) dX4_start_18 rfl ?_
    refine Zr_topi (y := nI 0) rfl ?_
    refine Zr_iconst C (1) dX4_start_19 rfl ?_
    refine Zr_zastN C qm_8 rfl rfl (by decide) (by decide) (by first | exact Or.inl rfl | exact Or.inr rfl | assumption) (rRa hR (by decide)) dX4_start_20 (fun S hR => ?_)
    refine Zr_iconst C (1) dX4_start_21 rfl ?_
    exact Zr_zret C dX4_start_22 (Nat.zero_le _) (Nat.zero_le _) (by first | exact Or.inl rfl | exact Or.inr rfl | assumption) (by rw [fStart, if_pos h4]; exact ⟨rfl, rfl, rfl, hR⟩)
  · refine Zr_iconst C (0) dX4_start_7 rfl ?_
    exact Zr_zret C dX4_start_8 (Nat.zero_le _) (Nat.zero_le _) (by first | exact Or.inl rfl | exact Or.inr rfl | assumption) (by rw [fStart, if_neg h4]; exact ⟨rfl, rfl, rfl, hR⟩)
set_option maxHeartbeats 4000000 in
set_option maxRecDepth 100000 in
theorem k_X4_send {l : Launch} {D : va_G} {K : zKs} {ad : zAd} {S : zSt} {σ : aS} {n i j : Nat} (hB : aB n σ) (hR : rRel σ S) (hi : i < n) (hj : j < n) (hij : i ≠ j) (hl : (σ.2.1 (10 * i + j)).length < 640) : zMet l yX4_send cX4_send 3 (some .boolean) { frames := 4, cells := 0, slots := 0, locals := 86 } D K rIL (rSh K) ad S [.ref (ad (0, 0)), .int (nI i), .int (nI j)] (zR (some (.int (fSend n σ i j).1)) (rSh K) ad (rRel (fSend n σ i j).2)) := by
  refine zEnter (own := RX4) (lv0 := [some (.ref (ad (0, 0))), some (.int (nI i)), some (.int (nI j))]) (by decide) rfl (by simp [Value.category]) (Nat.le_of_ble_eq_true rfl) rfl ?_
  intro p e s m below meth c A C _ hnm
  have hn := hB.2.2.1
  have hc : aOf 1 (σ.2.1 (10 * i + j)) ≤ 640 := Nat.le_trans aOf_le (by omega)
  by_cases hf : aFree σ n i = true
  · refine Zr_aload_n C dX4_send_0 rfl ?_
    refine Zr_iload_n C dX4_send_1 rfl ?_
    refine Zr_iload_n C dX4_send_2 rfl ?_
    refine Zr_callV C cw_X4_103 (k_X4_isRow_t hB hR hi hj hij) qm0 rfl rfl rfl (Nat.le_of_ble_eq_true rfl) (Nat.le_of_ble_eq_true rfl) rfl (Nat.le_of_ble_eq_true rfl) dX4_send_3 ⟨Nat.zero_le _, Nat.zero_le _⟩ ?_
    refine Zr_if_eq C 43 dX4_send_6 (by decide) (fun h6 => absurd h6 (by decide)) (fun h6 => ?_)
    refine Zr_aload_n C dX4_send_9 rfl ?_
    refine Zr_iload_n C dX4_send_10 rfl ?_
    refine Zr_callV C cw_X4_107 (k_X4_isFree hB hR hi) qm0 rfl rfl rfl (Nat.le_of_ble_eq_true rfl) (Nat.le_of_ble_eq_true rfl) rfl (Nat.le_of_ble_eq_true rfl) dX4_send_11 ⟨Nat.zero_le _, Nat.zero_le _⟩ ?_
    refine Zr_topi (y := 1) (if_pos hf) ?_
    refine Zr_if_eq C 43 dX4_send_14 (by decide) (fun h14 => absurd h14 (by decide)) (fun h14 => ?_)
    refine Zr_aload_n C dX4_send_17 rfl ?_
    refine Zr_iload_n C dX4_send_18 rfl ?_
    refine Zr_iload_n C dX4_send_19 rfl ?_
    refine Zr_callS C cw_X4_68 (k_X4_row (i := i) (j := j)) rfl (Nat.le_of_ble_eq_true rfl) (Nat.le_of_ble_eq_true rfl) rfl (Nat.le_of_ble_eq_true rfl) dX4_send_20 ⟨Nat.zero_le _, Nat.zero_le _⟩ ?_
    refine Zr_iconst C (1) dX4_send_23 rfl ?_
    refine Zr_callV C cw_X4_86 (k_X4_counted hR (r10 hi hj hn)) qm0 rfl rfl rfl (Nat.le_of_ble_eq_true rfl) (Nat.le_of_ble_eq_true rfl) rfl (Nat.le_of_ble_eq_true rfl) dX4_send_24 ⟨Nat.zero_le _, Nat.zero_le _⟩ ?_
    refine Zr_bipush C (20) dX4_send_27 rfl ?_
    refine Zr_icmp_eq C 43 dX4_send_29 (by decide) (fun h29 => ?_) (fun h29 => ?_)
    · refine Zr_iconst C (0) dX4_send_43 rfl ?_
      exact Zr_zret C dX4_send_44 (Nat.zero_le _) (Nat.zero_le _) (by first | exact Or.inl rfl | exact Or.inr rfl | assumption) (by rw [fSend, if_neg (by first | exact fun h => h.2.1 ((nI_eq (by omega) (by decide)).mp h29) | exact fun h => h.2.2 h40)]; exact ⟨rfl, rfl, rfl, hR⟩)
    · refine Zr_aload_n C dX4_send_32 rfl ?_
      refine Zr_getR C gf_X4_17 qm0 rfl rfl rfl (by decide) dX4_send_33 ?_
      refine Zr_iload_n C dX4_send_36 rfl ?_
      refine Zr_ialdN C qm_10 rfl rfl (by omega) (by decide) (ra hR (by decide)) dX4_send_37 ?_
      refine Zr_bipush C (100) dX4_send_38 rfl ?_
      refine Zr_icmp_ne C 45 dX4_send_40 (by decide) (fun h40 => ?_) (fun h40 => ?_)
      · refine Zr_aload_n C dX4_send_45 rfl ?_
        refine Zr_iload_n C dX4_send_46 rfl ?_
        refine Zr_iload_n C dX4_send_47 rfl ?_
        refine Zr_iconst C (1) dX4_send_48 rfl ?_
        refine Zr_iconst C (-1) dX4_send_49 rfl ?_
        refine Zr_iconst C (-1) dX4_send_50 rfl ?_
        refine Zr_callVRv C cw_X4_92 (k_X4_sends hR (by omega) (by omega) hl) qm0 rfl rfl rfl (Nat.le_of_ble_eq_true rfl) (Nat.le_of_ble_eq_true rfl) rfl (Nat.le_of_ble_eq_true rfl) dX4_send_51 ⟨Nat.zero_le _, Nat.zero_le _⟩ (fun S hR => ?_)
        refine Zr_aload_n C dX4_send_54 rfl ?_
        refine Zr_getR C gf_X4_17 qm0 rfl rfl rfl (by decide) dX4_send_55 ?_
        refine Zr_iload_n C dX4_send_58 rfl ?_
        refine Zr_dup2 C dX4_send_59 rfl rfl ?_
        refine Zr_ialdN C qm_10 rfl rfl (by omega) (by decide) (ra hR (by decide)) dX4_send_60 ?_
        refine Zr_iconst C (1) dX4_send_61 rfl ?_
        refine Zr_iadd C dX4_send_62 ?_
        refine Zr_iastN C qm_10 rfl rfl (by omega) (by decide) (rRa hR (by decide)) dX4_send_63 (fun S hR => ?_)
        refine Zr_aload_n C dX4_send_64 rfl ?_
        refine Zr_getR C gf_X4_20 qm0 rfl rfl rfl (by decide) dX4_send_65 ?_
        refine Zr_iload_n C dX4_send_68 rfl ?_
        refine Zr_dup2 C dX4_send_69 rfl rfl ?_
        refine Zr_ialdN C qm_11 rfl rfl (by omega) (by decide) (ra hR (by decide)) dX4_send_70 ?_
        refine Zr_iconst C (1) dX4_send_71 rfl ?_
        refine Zr_iadd C dX4_send_72 ?_
        refine Zr_iastN C qm_11 rfl rfl (by omega) (by decide) (rRa hR (by decide)) dX4_send_73 (fun S hR => ?_)
        refine Zr_iconst C (1) dX4_send_74 rfl ?_
        exact Zr_zret C dX4_send_75 (Nat.zero_le _) (Nat.zero_le _) (by first | exact Or.inl rfl | exact Or.inr rfl | assumption) (by rw [fSend, if_pos ⟨hf, fun h => h29 (by rw [h]; rfl), h40⟩]; exact ⟨rfl, rfl, rfl, hR⟩)
      · refine Zr_iconst C (0) dX4_send_43 rfl ?_
        exact Zr_zret C dX4_send_44 (Nat.zero_le _) (Nat.zero_le _) (by first | exact Or.inl rfl | exact Or.inr rfl | assumption) (by rw [fSend, if_neg (by first | exact fun h => h.2.1 ((nI_eq (by omega) (by decide)).mp h29) | exact fun h => h.2.2 h40)]; exact ⟨rfl, rfl, rfl, hR⟩)
  · refine Zr_aload_n C dX4_send_0 rfl ?_
    refine Zr_iload_n C dX4_send_1 rfl ?_
    refine Zr_iload_n C dX4_send_2 rfl ?_
    refine Zr_callV C cw_X4_103 (k_X4_isRow_t hB hR hi hj hij) qm0 rfl rfl rfl (Nat.le_of_ble_eq_true rfl) (Nat.le_of_ble_eq_true rfl) rfl (Nat.le_of_ble_eq_true rfl) dX4_send_3 ⟨Nat.zero_le _, Nat.zero_le _⟩ ?_
    refine Zr_if_eq C 43 dX4_send_6 (by decide) (fun h6 => absurd h6 (by decide)) (fun h6 => ?_)
    refine Zr_aload_n C dX4_send_9 rfl ?_
    refine Zr_iload_n C dX4_send_10 rfl ?_
    refine Zr_callV C cw_X4_107 (k_X4_isFree hB hR hi) qm0 rfl rfl rfl (Nat.le_of_ble_eq_true rfl) (Nat.le_of_ble_eq_true rfl) rfl (Nat.le_of_ble_eq_true rfl) dX4_send_11 ⟨Nat.zero_le _, Nat.zero_le _⟩ ?_
    refine Zr_topi (y := 0) (if_neg hf) ?_
    refine Zr_if_eq C 43 dX4_send_14 (by decide) (fun h14 => ?_) (fun h14 => absurd rfl h14)
    refine Zr_iconst C (0) dX4_send_43 rfl ?_
    exact Zr_zret C dX4_send_44 (Nat.zero_le _) (Nat.zero_le _) (by first | exact Or.inl rfl | exact Or.inr rfl | assumption) (by rw [fSend, if_neg (fun h => hf h.1)]; exact ⟨rfl, rfl, rfl, hR⟩)
set_option maxHeartbeats 4000000 in
set_option maxRecDepth 100000 in
theorem k_X4_send_f {l : Launch} {D : va_G} {K : zKs} {ad : zAd} {S : zSt} {σ : aS} {n : Nat} {x y : Int32} (hB : aB n σ) (hR : rRel σ S) (hx : aBad n x ∨ aBad n y ∨ x = y) : zMet l yX4_send cX4_send 3 (some .boolean) { frames := 4, cells := 0, slots := 0, locals := 86 } D K rIL (rSh K) ad S [.ref (ad (0, 0)), .int x, .int y] (zEq (some (.int 0)) (rSh K) ad (S)) := by
  refine zEnter (own := RX4) (lv0 := [some (.ref (ad (0, 0))), some (.int x), some (.int y)]) (by decide) rfl (by simp [Value.category]) (Nat.le_of_ble_eq_true rfl) rfl ?_
  intro p e s m below meth c A C _ hnm
  refine Zr_aload_n C dX4_send_0 rfl ?_
  refine Zr_iload_n C dX4_send_1 rfl ?_
  refine Zr_iload_n C dX4_send_2 rfl ?_
  refine Zr_callV C cw_X4_103 (k_X4_isRow_f hB hR hx) qm0 rfl rfl rfl (Nat.le_of_ble_eq_true rfl) (Nat.le_of_ble_eq_true rfl) rfl (Nat.le_of_ble_eq_true rfl) dX4_send_3 ⟨Nat.zero_le _, Nat.zero_le _⟩ ?_
  refine Zr_if_eq C 43 dX4_send_6 (by decide) (fun h6 => ?_) (fun h6 => absurd rfl h6)
  refine Zr_iconst C (0) dX4_send_43 rfl ?_
  exact Zr_zret C dX4_send_44 (Nat.zero_le _) (Nat.zero_le _) (by first | exact Or.inl rfl | exact Or.inr rfl | assumption) ⟨rfl, rfl, rfl, rfl⟩
set_option maxHeartbeats 4000000 in
set_option maxRecDepth 100000 in
theorem k_X4_rest {l : Launch} {D : va_G} {K : zKs} {ad : zAd} {S : zSt} {σ : aS} {n i : Nat} (hB : aB n σ) (hR : rRel σ S) (hi : i < n) (hset : ∀ k, k < n → aQual σ k = false) (hP : i ≠ 0 → σ.1 1 9 i ≠ -1 → ∃ j, j < n ∧ σ.1 1 9 i = nI j) (hL : ∀ r, r < 100 → (σ.2.1 r).length < 640) : zMet l yX4_rest cX4_rest 2 (some .boolean) { frames := 4, cells := 0, slots := 0, locals := 86 } D K rIL (rSh K) ad S [.ref (ad (0, 0)), .int (nI i)] (zR (some (.int (fRest n σ i).1)) (rSh K) ad (rRel (fRest n σ i).2)) := by
  refine zEnter (own := RX4) (lv0 := [some (.ref (ad (0, 0))), some (.int (nI i))]) (by decide) rfl (by simp [Value.category]) (Nat.le_of_ble_eq_true rfl) rfl ?_
  intro p e s m below meth c A C _ hnm
  have hn := hB.2.2.1
  by_cases hf : aFree σ n i = true
  · have hB2 : aB n (aN σ 1 8 i 0) := hB.a (fun _ => Or.inl rfl)
    have hpar : aQual (aN σ 1 8 i 0) i = true → i ≠ 0 → ∃ j, j < n ∧ (aN σ 1 8 i 0).1 1 9 i = nI j ∧ ((aN σ 1 8 i 0).2.1 (10 * i + j)).length < 640 := by
      intro h1 h2
      have h3 : σ.1 1 9 i ≠ -1 := by simpa [aTree, h2, aN, z3] using (aQual_iff.mp h1).1
      obtain ⟨j, hj, hj2⟩ := hP h2 h3
      exact ⟨j, hj, by simpa [aN, z3] using hj2, hL _ (by omega)⟩
    refine Zr_aload_n C dX4_rest_0 rfl ?_
    refine Zr_iload_n C dX4_rest_1 rfl ?_
    refine Zr_callV C cw_X4_107 (k_X4_isFree hB hR hi) qm0 rfl rfl rfl (Nat.le_of_ble_eq_true rfl) (Nat.le_of_ble_eq_true rfl) rfl (Nat.le_of_ble_eq_true rfl) dX4_rest_2 ⟨Nat.zero_le _, Nat.zero_le _⟩ ?_
    refine Zr_topi (y := 1) (if_pos hf) ?_
    refine Zr_if_ne C 10 dX4_rest_5 (by decide) (fun h5 => ?_) (fun h5 => absurd h5 (by decide))
    refine Zr_aload_n C dX4_rest_10 rfl ?_
    refine Zr_getR C gf_X4_9 qm0 rfl rfl rfl (by decide) dX4_rest_11 ?_
    refine Zr_iload_n C dX4_rest_14 rfl ?_
    refine Zr_iconst C (0) dX4_rest_15 rfl ?_
    refine Zr_zastN C qm_8 rfl rfl (by omega) (by decide) (by first | exact Or.inl rfl | exact Or.inr rfl | assumption) (rRa hR (by decide)) dX4_rest_16 (fun S hR => ?_)
    refine Zr_aload_n C dX4_rest_17 rfl ?_
    refine Zr_callVRv C cw_X4_110 (k_X4_settles (i0 := i) hB2 hR hi (fun k hk hki => by rw [aQual_8 hki]; exact hset k hk) hpar) qm0 rfl rfl rfl (Nat.le_of_ble_eq_true rfl) (Nat.le_of_ble_eq_true rfl) rfl (Nat.le_of_ble_eq_true rfl) dX4_rest_18 ⟨Nat.zero_le _, Nat.zero_le _⟩ (fun S hR => ?_)
    refine Zr_iconst C (1) dX4_rest_21 rfl ?_
    exact Zr_zret C dX4_rest_22 (Nat.zero_le _) (Nat.zero_le _) (by first | exact Or.inl rfl | exact Or.inr rfl | assumption) (by rw [fRest, if_pos hf]; exact ⟨rfl, rfl, rfl, hR⟩)
  · refine Zr_aload_n C dX4_rest_0 rfl ?_
    refine Zr_iload_n C dX4_rest_1 rfl ?_
    refine Zr_callV C cw_X4_107 (k_X4_isFree hB hR hi) qm0 rfl rfl rfl (Nat.le_of_ble_eq_true rfl) (Nat.le_of_ble_eq_true rfl) rfl (Nat.le_of_ble_eq_true rfl) dX4_rest_2 ⟨Nat.zero_le _, Nat.zero_le _⟩ ?_
    refine Zr_topi (y := 0) (if_neg hf) ?_
    refine Zr_if_ne C 10 dX4_rest_5 (by decide) (fun h5 => absurd rfl h5) (fun h5 => ?_)
    refine Zr_iconst C (0) dX4_rest_8 rfl ?_
    exact Zr_zret C dX4_rest_9 (Nat.zero_le _) (Nat.zero_le _) (by first | exact Or.inl rfl | exact Or.inr rfl | assumption) (by rw [fRest, if_neg hf]; exact ⟨rfl, rfl, rfl, hR⟩)
set_option maxHeartbeats 4000000 in
set_option maxRecDepth 100000 in
theorem k_X4_rest_f {l : Launch} {D : va_G} {K : zKs} {ad : zAd} {S : zSt} {σ : aS} {n : Nat} {x : Int32} (hB : aB n σ) (hR : rRel σ S) (hx : aBad n x) : zMet l yX4_rest cX4_rest 2 (some .boolean) { frames := 4, cells := 0, slots := 0, locals := 86 } D K rIL (rSh K) ad S [.ref (ad (0, 0)), .int x] (zEq (some (.int 0)) (rSh K) ad (S)) := by
  refine zEnter (own := RX4) (lv0 := [some (.ref (ad (0, 0))), some (.int x)]) (by decide) rfl (by simp [Value.category]) (Nat.le_of_ble_eq_true rfl) rfl ?_
  intro p e s m below meth c A C _ hnm
  refine Zr_aload_n C dX4_rest_0 rfl ?_
  refine Zr_iload_n C dX4_rest_1 rfl ?_
  refine Zr_callV C cw_X4_107 (k_X4_isFree_f hB hR hx) qm0 rfl rfl rfl (Nat.le_of_ble_eq_true rfl) (Nat.le_of_ble_eq_true rfl) rfl (Nat.le_of_ble_eq_true rfl) dX4_rest_2 ⟨Nat.zero_le _, Nat.zero_le _⟩ ?_
  refine Zr_if_ne C 10 dX4_rest_5 (by decide) (fun h5 => absurd rfl h5) (fun h5 => ?_)
  refine Zr_iconst C (0) dX4_rest_8 rfl ?_
  exact Zr_zret C dX4_rest_9 (Nat.zero_le _) (Nat.zero_le _) (by first | exact Or.inl rfl | exact Or.inr rfl | assumption) ⟨rfl, rfl, rfl, rfl⟩
set_option maxHeartbeats 4000000 in
set_option maxRecDepth 100000 in
theorem k_X4_ask {l : Launch} {D : va_G} {K : zKs} {ad : zAd} {S : zSt} {σ : aS} {n i : Nat} {mask : Int32} (hB : aB n σ) (hR : rRel σ S) (hi : i < n) (hL : ∀ r, r < 100 → (σ.2.1 r).length < 640) : zMet l yX4_ask cX4_ask 5 (some .int) { frames := 4, cells := 0, slots := 0, locals := 86 } D K rIL (rSh K) ad S [.ref (ad (0, 0)), .int (nI i), .int mask] (zR (some (.int (fAsk n σ i mask).1)) (rSh K) ad (rRel (fAsk n σ i mask).2)) := by
  refine zEnter (own := RX4) (lv0 := [some (.ref (ad (0, 0))), some (.int (nI i)), some (.int mask), none, none]) (by decide) rfl (by simp [Value.category]) (Nat.le_of_ble_eq_true rfl) rfl ?_
  intro p e s m below meth c A C _ hnm
  have hn := hB.2.2.1
  by_cases hf : aFree σ n i = true
  · have key : ∀ (d k : Nat) (S : zSt), k + d = n → rRel (aAll (aRowSet σ 16 i (aAsks i mask) k 1) i (aAsks i mask) k (4, -1, -1)) S → Z p l e ({ frames := 4, cells := 0, slots := 0, locals := 86 } : Room) s m ([.ref (ad (0, 0)), .int (nI i), .int mask] : List Value).toArray below meth c D A 5 (MQ below (zQ (zR (some (.int (fAsk n σ i mask).1)) (rSh K) ad (rRel (fAsk n σ i mask).2)) rIL D A) ([.ref (ad (0, 0)), .int (nI i), .int mask] : List Value).toArray s 0 0 A) rIL 0 0 (rSh K) ad S (15) ([some (.ref (ad (0, 0))), some (.int (nI i)), some (.int mask), some (.int (nI (aCnt (aAsks i mask) k))), some (.int (nI k))]) ([]) := by
      intro d
      induction d with
      | zero =>
        intro k S hk hR
        have hk : k = n := by omega
        subst hk
        have hz : aCnt (aAsks i mask) k ≤ k := aCnt_le _ _
        have hnone : aCnt (aAsks i mask) k = 0 → (aAll (aRowSet σ 16 i (aAsks i mask) k 1) i (aAsks i mask) k (4, -1, -1)) = σ := by
          intro h0
          have h1 := aCnt_zero.mp h0
          have e1 : ∀ d, d ≤ k → aRowSet σ 16 i (aAsks i mask) d 1 = σ := by
            intro d
            induction d with
            | zero => intro _; exact aRowSet_0 _ _ _ _ _
            | succ d ihd => intro hd; rw [aRowSet_no (h1 d (by omega))]; exact ihd (by omega)
          have e2 : ∀ d, d ≤ k → aAll σ i (aAsks i mask) d (4, -1, -1) = σ := by
            intro d
            induction d with
            | zero => intro _; exact aAll_0 _ _ _ _
            | succ d ihd => intro hd; rw [aAll_no (h1 d (by omega))]; exact ihd (by omega)
          rw [e1 k (Nat.le_refl _), e2 k (Nat.le_refl _)]
        refine Zr_iload C dX4_ask_15 rfl ?_
        refine Zr_aload_n C dX4_ask_17 rfl ?_
        refine Zr_getE C gf_X4_60 qm0 rfl rfl rfl ((rg hR).trans hB.1) dX4_ask_18 ?_
        refine Zr_icmp_ge C 73 dX4_ask_21 (by decide) (fun h21 => ?_) (fun h21 => absurd (nI_le (Nat.le_refl _) (by omega)) h21)
        refine Zr_iload_n C dX4_ask_73 rfl ?_
        refine Zr_if_ne C 81 dX4_ask_74 (by decide) (fun h74 => ?_) (fun h74 => ?_)
        · refine Zr_iload_n C dX4_ask_81 rfl ?_
          exact Zr_iret C dX4_ask_82 (Nat.zero_le _) (Nat.zero_le _) (by first | (rw [fAsk, if_pos ⟨hf, fun h => h74 (by rw [h]; rfl)⟩]; exact ⟨rfl, rfl, rfl, hR⟩) | (rw [fAsk, if_neg (fun h => h.2 h0)]; rw [hnone h0] at hR; exact ⟨rfl, rfl, rfl, hR⟩))
        · have h0 : aCnt (aAsks i mask) k = 0 := (nI_eq (by omega) (by decide)).mp h74
          refine Zr_iconst C (-1) dX4_ask_77 rfl ?_
          refine Zr_goto C 82 dX4_ask_78 (by decide) ?_
          exact Zr_iret C dX4_ask_82 (Nat.zero_le _) (Nat.zero_le _) (by first | (rw [fAsk, if_pos ⟨hf, fun h => h74 (by rw [h]; rfl)⟩]; exact ⟨rfl, rfl, rfl, hR⟩) | (rw [fAsk, if_neg (fun h => h.2 h0)]; rw [hnone h0] at hR; exact ⟨rfl, rfl, rfl, hR⟩))
      | succ d ih =>
        intro k S hk hR
        have hkl : k < n := by omega
        have hle : (((aAll (aRowSet σ 16 i (aAsks i mask) k 1) i (aAsks i mask) k (4, -1, -1))).2.1 (10 * i + k)).length < 640 := by
          rw [aAll_at (by omega)]
          exact hL _ (by omega)
        refine Zr_iload C dX4_ask_15 rfl ?_
        refine Zr_aload_n C dX4_ask_17 rfl ?_
        refine Zr_getE C gf_X4_60 qm0 rfl rfl rfl ((rg hR).trans hB.1) dX4_ask_18 ?_
        refine Zr_icmp_ge C 73 dX4_ask_21 (by decide) (fun h21 => absurd h21 (nI_ge hkl (by omega))) (fun h21 => ?_)
        refine Zr_iload C dX4_ask_24 rfl ?_
        refine Zr_iload_n C dX4_ask_26 rfl ?_
        refine Zr_icmp_eq C 67 dX4_ask_27 (by decide) (fun h27 => ?_) (fun h27 => ?_)
        · have ha : aAsks i mask k = false := by simp [aAsks, (nI_eq (by omega) (by omega)).mp h27]
          refine Zr_iincE C (1) (nI (k + 1)) dX4_ask_67 (by decide) rfl rfl (nI_1 _) ?_
          refine Zr_goto C 15 dX4_ask_70 (by decide) ?_
          first | exact ih (k + 1) S (by omega) (by rw [aRowSet_yes (by omega) ha, aAll_N, aAll_yes (by omega) ha]; exact hR) | exact (by have e : aCnt (aAsks i mask) (k + 1) = aCnt (aAsks i mask) k := (by simp [aCnt, ha]); have := ih (k + 1) S (by omega) (by rw [aRowSet_no ha, aAll_no ha]; exact hR); rw [e] at this; exact this)
        · refine Zr_iload_n C dX4_ask_30 rfl ?_
          refine Zr_iload C dX4_ask_31 rfl ?_
          refine Zr_ishr C dX4_ask_33 ?_
          refine Zr_iconst C (1) dX4_ask_34 rfl ?_
          refine Zr_iand C dX4_ask_35 ?_
          refine Zr_if_ne C 42 dX4_ask_36 (by decide) (fun h36 => ?_) (fun h36 => ?_)
          · have ha : aAsks i mask k = true := by simp only [aAsks, Bool.and_eq_true, bne_iff_ne, ne_eq]; exact ⟨fun h => h27 (congrArg nI h), (Bool.not_eq_false _).mp (fun h => h36 ((aBit_shr (by omega)).mpr h))⟩
            refine Zr_aload_n C dX4_ask_42 rfl ?_
            refine Zr_iload_n C dX4_ask_43 rfl ?_
            refine Zr_iload C dX4_ask_44 rfl ?_
            refine Zr_iconst C (4) dX4_ask_46 rfl ?_
            refine Zr_iconst C (-1) dX4_ask_47 rfl ?_
            refine Zr_iconst C (-1) dX4_ask_48 rfl ?_
            refine Zr_callVRv C cw_X4_92 (k_X4_sends hR (by omega) (by omega) hle) qm0 rfl rfl rfl (Nat.le_of_ble_eq_true rfl) (Nat.le_of_ble_eq_true rfl) rfl (Nat.le_of_ble_eq_true rfl) dX4_ask_49 ⟨Nat.zero_le _, Nat.zero_le _⟩ (fun S hR => ?_)
            refine Zr_aload_n C dX4_ask_52 rfl ?_
            refine Zr_getR C gf_X4_35 qm0 rfl rfl rfl (by decide) dX4_ask_53 ?_
            refine Zr_iload_n C dX4_ask_56 rfl ?_
            refine Zr_iload C dX4_ask_57 rfl ?_
            refine Zr_callS C cw_X4_68 (k_X4_row (i := i) (j := k)) rfl (Nat.le_of_ble_eq_true rfl) (Nat.le_of_ble_eq_true rfl) rfl (Nat.le_of_ble_eq_true rfl) dX4_ask_59 ⟨Nat.zero_le _, Nat.zero_le _⟩ ?_
            refine Zr_iconst C (1) dX4_ask_62 rfl ?_
            refine Zr_zastN C qm_16 rfl rfl (by omega) (by decide) (by first | exact Or.inl rfl | exact Or.inr rfl | assumption) (rRa hR (by decide)) dX4_ask_63 (fun S hR => ?_)
            refine Zr_iincE C (1) (nI (aCnt (aAsks i mask) (k + 1))) dX4_ask_64 (by decide) rfl rfl (by simp [aCnt, ha, nI_1]) ?_
            refine Zr_iincE C (1) (nI (k + 1)) dX4_ask_67 (by decide) rfl rfl (nI_1 _) ?_
            refine Zr_goto C 15 dX4_ask_70 (by decide) ?_
            first | exact ih (k + 1) S (by omega) (by rw [aRowSet_yes (by omega) ha, aAll_N, aAll_yes (by omega) ha]; exact hR) | exact (by have e : aCnt (aAsks i mask) (k + 1) = aCnt (aAsks i mask) k := (by simp [aCnt, ha]); have := ih (k + 1) S (by omega) (by rw [aRowSet_no ha, aAll_no ha]; exact hR); rw [e] at this; exact this)
          · have ha : aAsks i mask k = false := by simp [aAsks, (aBit_shr (by omega)).mp h36]
            refine Zr_goto C 67 dX4_ask_39 (by decide) ?_
            refine Zr_iincE C (1) (nI (k + 1)) dX4_ask_67 (by decide) rfl rfl (nI_1 _) ?_
            refine Zr_goto C 15 dX4_ask_70 (by decide) ?_
            first | exact ih (k + 1) S (by omega) (by rw [aRowSet_yes (by omega) ha, aAll_N, aAll_yes (by omega) ha]; exact hR) | exact (by have e : aCnt (aAsks i mask) (k + 1) = aCnt (aAsks i mask) k := (by simp [aCnt, ha]); have := ih (k + 1) S (by omega) (by rw [aRowSet_no ha, aAll_no ha]; exact hR); rw [e] at this; exact this)
    refine Zr_aload_n C dX4_ask_0 rfl ?_
    refine Zr_iload_n C dX4_ask_1 rfl ?_
    refine Zr_callV C cw_X4_107 (k_X4_isFree hB hR hi) qm0 rfl rfl rfl (Nat.le_of_ble_eq_true rfl) (Nat.le_of_ble_eq_true rfl) rfl (Nat.le_of_ble_eq_true rfl) dX4_ask_2 ⟨Nat.zero_le _, Nat.zero_le _⟩ ?_
    refine Zr_topi (y := 1) (if_pos hf) ?_
    refine Zr_if_ne C 10 dX4_ask_5 (by decide) (fun h5 => ?_) (fun h5 => absurd h5 (by decide))
    refine Zr_iconst C (0) dX4_ask_10 rfl ?_
    refine Zr_istore_n C dX4_ask_11 (by decide) ?_
    refine Zr_iconst C (0) dX4_ask_12 rfl ?_
    refine Zr_istore C dX4_ask_13 (by decide) ?_
    exact key n 0 S (by omega) (by rw [aRowSet_0, aAll_0]; exact hR)
  · refine Zr_aload_n C dX4_ask_0 rfl ?_
    refine Zr_iload_n C dX4_ask_1 rfl ?_
    refine Zr_callV C cw_X4_107 (k_X4_isFree hB hR hi) qm0 rfl rfl rfl (Nat.le_of_ble_eq_true rfl) (Nat.le_of_ble_eq_true rfl) rfl (Nat.le_of_ble_eq_true rfl) dX4_ask_2 ⟨Nat.zero_le _, Nat.zero_le _⟩ ?_
    refine Zr_topi (y := 0) (if_neg hf) ?_
    refine Zr_if_ne C 10 dX4_ask_5 (by decide) (fun h5 => absurd rfl h5) (fun h5 => ?_)
    refine Zr_iconst C (-1) dX4_ask_8 rfl ?_
    exact Zr_iret C dX4_ask_9 (Nat.zero_le _) (Nat.zero_le _) (by rw [fAsk, if_neg (fun h => hf h.1)]; exact ⟨rfl, rfl, rfl, hR⟩)
set_option maxHeartbeats 4000000 in
set_option maxRecDepth 100000 in
theorem k_X4_ask_f {l : Launch} {D : va_G} {K : zKs} {ad : zAd} {S : zSt} {σ : aS} {n : Nat} {x y : Int32} (hB : aB n σ) (hR : rRel σ S) (hx : aBad n x) : zMet l yX4_ask cX4_ask 5 (some .int) { frames := 4, cells := 0, slots := 0, locals := 86 } D K rIL (rSh K) ad S [.ref (ad (0, 0)), .int x, .int y] (zEq (some (.int (-1))) (rSh K) ad (S)) := by
  refine zEnter (own := RX4) (lv0 := [some (.ref (ad (0, 0))), some (.int x), some (.int y), none, none]) (by decide) rfl (by simp [Value.category]) (Nat.le_of_ble_eq_true rfl) rfl ?_
  intro p e s m below meth c A C _ hnm
  refine Zr_aload_n C dX4_ask_0 rfl ?_
  refine Zr_iload_n C dX4_ask_1 rfl ?_
  refine Zr_callV C cw_X4_107 (k_X4_isFree_f hB hR hx) qm0 rfl rfl rfl (Nat.le_of_ble_eq_true rfl) (Nat.le_of_ble_eq_true rfl) rfl (Nat.le_of_ble_eq_true rfl) dX4_ask_2 ⟨Nat.zero_le _, Nat.zero_le _⟩ ?_
  refine Zr_if_ne C 10 dX4_ask_5 (by decide) (fun h5 => absurd rfl h5) (fun h5 => ?_)
  refine Zr_iconst C (-1) dX4_ask_8 rfl ?_
  exact Zr_iret C dX4_ask_9 (Nat.zero_le _) (Nat.zero_le _) ⟨rfl, rfl, rfl, rfl⟩
set_option maxHeartbeats 4000000 in
set_option maxRecDepth 100000 in
theorem k_X4_answer {l : Launch} {D : va_G} {K : zKs} {ad : zAd} {S : zSt} {σ : aS} {n i j : Nat} (hB : aB n σ) (hR : rRel σ S) (hi : i < n) (hj : j < n) (hij : i ≠ j) (hl : (σ.2.1 (10 * i + j)).length < 640) : zMet l yX4_answer cX4_answer 3 (some .boolean) { frames := 3, cells := 0, slots := 0, locals := 65 } D K rIL (rSh K) ad S [.ref (ad (0, 0)), .int (nI i), .int (nI j)] (zR (some (.int (fAnswer n σ i j).1)) (rSh K) ad (rRel (fAnswer n σ i j).2)) := by
  refine zEnter (own := RX4) (lv0 := [some (.ref (ad (0, 0))), some (.int (nI i)), some (.int (nI j))]) (by decide) rfl (by simp [Value.category]) (Nat.le_of_ble_eq_true rfl) rfl ?_
  intro p e s m below meth c A C _ hnm
  have hn := hB.2.2.1
  by_cases hw : aWf σ n i = 0
  · refine Zr_aload_n C dX4_answer_0 rfl ?_
    refine Zr_iload_n C dX4_answer_1 rfl ?_
    refine Zr_iload_n C dX4_answer_2 rfl ?_
    refine Zr_callV C cw_X4_103 (k_X4_isRow_t hB hR hi hj hij) qm0 rfl rfl rfl (Nat.le_of_ble_eq_true rfl) (Nat.le_of_ble_eq_true rfl) rfl (Nat.le_of_ble_eq_true rfl) dX4_answer_3 ⟨Nat.zero_le _, Nat.zero_le _⟩ ?_
    refine Zr_if_eq C 30 dX4_answer_6 (by decide) (fun h6 => absurd h6 (by decide)) (fun h6 => ?_)
    refine Zr_aload_n C dX4_answer_9 rfl ?_
    refine Zr_iload_n C dX4_answer_10 rfl ?_
    refine Zr_callV C cw_X4_76 (k_X4_isBlocked hB hR hi) qm0 rfl rfl rfl (Nat.le_of_ble_eq_true rfl) (Nat.le_of_ble_eq_true rfl) rfl (Nat.le_of_ble_eq_true rfl) dX4_answer_11 ⟨Nat.zero_le _, Nat.zero_le _⟩ ?_
    refine Zr_topi (y := 0) (if_pos hw) ?_
    refine Zr_if_ne C 30 dX4_answer_14 (by decide) (fun h14 => absurd rfl h14) (fun h14 => ?_)
    refine Zr_aload_n C dX4_answer_17 rfl ?_
    refine Zr_getR C gf_X4_38 qm0 rfl rfl rfl (by decide) dX4_answer_18 ?_
    refine Zr_iload_n C dX4_answer_21 rfl ?_
    refine Zr_iload_n C dX4_answer_22 rfl ?_
    refine Zr_callS C cw_X4_68 (k_X4_row (i := i) (j := j)) rfl (Nat.le_of_ble_eq_true rfl) (Nat.le_of_ble_eq_true rfl) rfl (Nat.le_of_ble_eq_true rfl) dX4_answer_23 ⟨Nat.zero_le _, Nat.zero_le _⟩ ?_
    refine Zr_zaldN C qm_17 rfl rfl (by omega) (by decide) (ra hR (by decide)) dX4_answer_26 ?_
    refine Zr_if_ne C 32 dX4_answer_27 (by decide) (fun h27 => ?_) (fun h27 => ?_)
    · refine Zr_aload_n C dX4_answer_32 rfl ?_
      refine Zr_getR C gf_X4_38 qm0 rfl rfl rfl (by decide) dX4_answer_33 ?_
      refine Zr_iload_n C dX4_answer_36 rfl ?_
      refine Zr_iload_n C dX4_answer_37 rfl ?_
      refine Zr_callS C cw_X4_68 (k_X4_row (i := i) (j := j)) rfl (Nat.le_of_ble_eq_true rfl) (Nat.le_of_ble_eq_true rfl) rfl (Nat.le_of_ble_eq_true rfl) dX4_answer_38 ⟨Nat.zero_le _, Nat.zero_le _⟩ ?_
      refine Zr_iconst C (0) dX4_answer_41 rfl ?_
      refine Zr_zastN C qm_17 rfl rfl (by omega) (by decide) (by first | exact Or.inl rfl | exact Or.inr rfl | assumption) (rRa hR (by decide)) dX4_answer_42 (fun S hR => ?_)
      refine Zr_aload_n C dX4_answer_43 rfl ?_
      refine Zr_iload_n C dX4_answer_44 rfl ?_
      refine Zr_iload_n C dX4_answer_45 rfl ?_
      refine Zr_iconst C (5) dX4_answer_46 rfl ?_
      refine Zr_iconst C (-1) dX4_answer_47 rfl ?_
      refine Zr_iconst C (-1) dX4_answer_48 rfl ?_
      refine Zr_callVRv C cw_X4_92 (k_X4_sends hR (by omega) (by omega) hl) qm0 rfl rfl rfl (Nat.le_of_ble_eq_true rfl) (Nat.le_of_ble_eq_true rfl) rfl (Nat.le_of_ble_eq_true rfl) dX4_answer_49 ⟨Nat.zero_le _, Nat.zero_le _⟩ (fun S hR => ?_)
      refine Zr_iconst C (1) dX4_answer_52 rfl ?_
      exact Zr_zret C dX4_answer_53 (Nat.zero_le _) (Nat.zero_le _) (by first | exact Or.inl rfl | exact Or.inr rfl | assumption) (by rw [fAnswer, if_pos ⟨hw, h27⟩]; exact ⟨rfl, rfl, rfl, rRy (by decide) hR⟩)
    · refine Zr_iconst C (0) dX4_answer_30 rfl ?_
      exact Zr_zret C dX4_answer_31 (Nat.zero_le _) (Nat.zero_le _) (by first | exact Or.inl rfl | exact Or.inr rfl | assumption) (by rw [fAnswer, if_neg (fun h => h.2 h27)]; exact ⟨rfl, rfl, rfl, hR⟩)
  · refine Zr_aload_n C dX4_answer_0 rfl ?_
    refine Zr_iload_n C dX4_answer_1 rfl ?_
    refine Zr_iload_n C dX4_answer_2 rfl ?_
    refine Zr_callV C cw_X4_103 (k_X4_isRow_t hB hR hi hj hij) qm0 rfl rfl rfl (Nat.le_of_ble_eq_true rfl) (Nat.le_of_ble_eq_true rfl) rfl (Nat.le_of_ble_eq_true rfl) dX4_answer_3 ⟨Nat.zero_le _, Nat.zero_le _⟩ ?_
    refine Zr_if_eq C 30 dX4_answer_6 (by decide) (fun h6 => absurd h6 (by decide)) (fun h6 => ?_)
    refine Zr_aload_n C dX4_answer_9 rfl ?_
    refine Zr_iload_n C dX4_answer_10 rfl ?_
    refine Zr_callV C cw_X4_76 (k_X4_isBlocked hB hR hi) qm0 rfl rfl rfl (Nat.le_of_ble_eq_true rfl) (Nat.le_of_ble_eq_true rfl) rfl (Nat.le_of_ble_eq_true rfl) dX4_answer_11 ⟨Nat.zero_le _, Nat.zero_le _⟩ ?_
    refine Zr_topi (y := 1) (if_neg hw) ?_
    refine Zr_if_ne C 30 dX4_answer_14 (by decide) (fun h14 => ?_) (fun h14 => absurd h14 (by decide))
    refine Zr_iconst C (0) dX4_answer_30 rfl ?_
    exact Zr_zret C dX4_answer_31 (Nat.zero_le _) (Nat.zero_le _) (by first | exact Or.inl rfl | exact Or.inr rfl | assumption) (by rw [fAnswer, if_neg (fun h => hw h.1)]; exact ⟨rfl, rfl, rfl, hR⟩)
set_option maxHeartbeats 4000000 in
set_option maxRecDepth 100000 in
theorem k_X4_answer_f {l : Launch} {D : va_G} {K : zKs} {ad : zAd} {S : zSt} {σ : aS} {n : Nat} {x y : Int32} (hB : aB n σ) (hR : rRel σ S) (hx : aBad n x ∨ aBad n y ∨ x = y) : zMet l yX4_answer cX4_answer 3 (some .boolean) { frames := 3, cells := 0, slots := 0, locals := 65 } D K rIL (rSh K) ad S [.ref (ad (0, 0)), .int x, .int y] (zEq (some (.int 0)) (rSh K) ad (S)) := by
  refine zEnter (own := RX4) (lv0 := [some (.ref (ad (0, 0))), some (.int x), some (.int y)]) (by decide) rfl (by simp [Value.category]) (Nat.le_of_ble_eq_true rfl) rfl ?_
  intro p e s m below meth c A C _ hnm
  refine Zr_aload_n C dX4_answer_0 rfl ?_
  refine Zr_iload_n C dX4_answer_1 rfl ?_
  refine Zr_iload_n C dX4_answer_2 rfl ?_
  refine Zr_callV C cw_X4_103 (k_X4_isRow_f hB hR hx) qm0 rfl rfl rfl (Nat.le_of_ble_eq_true rfl) (Nat.le_of_ble_eq_true rfl) rfl (Nat.le_of_ble_eq_true rfl) dX4_answer_3 ⟨Nat.zero_le _, Nat.zero_le _⟩ ?_
  refine Zr_if_eq C 30 dX4_answer_6 (by decide) (fun h6 => ?_) (fun h6 => absurd rfl h6)
  refine Zr_iconst C (0) dX4_answer_30 rfl ?_
  exact Zr_zret C dX4_answer_31 (Nat.zero_le _) (Nat.zero_le _) (by first | exact Or.inl rfl | exact Or.inr rfl | assumption) ⟨rfl, rfl, rfl, rfl⟩
set_option maxHeartbeats 4000000 in
set_option maxRecDepth 100000 in
theorem k_X4_probes {l : Launch} {D : va_G} {K : zKs} {ad : zAd} {S : zSt} {σ : aS} {n i : Nat} {wh nm : Int32} (hB : aB n σ) (hR : rRel σ S) (hi : i < n) (hL : ∀ r, r < 100 → (σ.2.1 r).length < 640) : zMet l yX4_probes cX4_probes 5 none { frames := 2, cells := 0, slots := 0, locals := 48 } D K rIL (rSh K) ad S [.ref (ad (0, 0)), .int (nI i), .int wh, .int nm] (zR none (rSh K) ad (rRel (aAll σ i (aWaits σ i) n (6, wh, nm)))) := by
  refine zEnter (own := RX4) (lv0 := [some (.ref (ad (0, 0))), some (.int (nI i)), some (.int wh), some (.int nm), none]) (by decide) rfl (by simp [Value.category]) (Nat.le_of_ble_eq_true rfl) rfl ?_
  intro p e s m below meth c A C _ hnm
  have hn := hB.2.2.1
  have key : ∀ (d k : Nat) (S : zSt), k + d = n → rRel (aAll σ i (aWaits σ i) k (6, wh, nm)) S → Z p l e ({ frames := 2, cells := 0, slots := 0, locals := 48 } : Room) s m ([.ref (ad (0, 0)), .int (nI i), .int wh, .int nm] : List Value).toArray below meth c D A 5 (MQ below (zQ (zR none (rSh K) ad (rRel (aAll σ i (aWaits σ i) n (6, wh, nm)))) rIL D A) ([.ref (ad (0, 0)), .int (nI i), .int wh, .int nm] : List Value).toArray s 0 0 A) rIL 0 0 (rSh K) ad S (3) ([some (.ref (ad (0, 0))), some (.int (nI i)), some (.int wh), some (.int nm), some (.int (nI k))]) ([]) := by
    intro d
    induction d with
    | zero =>
      intro k S hk hR
      have hk : k = n := by omega
      subst hk
      refine Zr_iload C dX4_probes_3 rfl ?_
      refine Zr_aload_n C dX4_probes_5 rfl ?_
      refine Zr_getE C gf_X4_60 qm0 rfl rfl rfl ((rg hR).trans hB.1) dX4_probes_6 ?_
      refine Zr_icmp_ge C 43 dX4_probes_9 (by decide) (fun h9 => ?_) (fun h9 => absurd (nI_le (Nat.le_refl _) (by omega)) h9)
      exact Zr_vret C dX4_probes_43 (Nat.zero_le _) (Nat.zero_le _) ⟨rfl, rfl, rfl, hR⟩
    | succ d ih =>
      intro k S hk hR
      have hkl : k < n := by omega
      have hle : (((aAll σ i (aWaits σ i) k (6, wh, nm))).2.1 (10 * i + k)).length < 640 := by
        rw [aAll_at (by omega)]
        exact hL _ (by omega)
      refine Zr_iload C dX4_probes_3 rfl ?_
      refine Zr_aload_n C dX4_probes_5 rfl ?_
      refine Zr_getE C gf_X4_60 qm0 rfl rfl rfl ((rg hR).trans hB.1) dX4_probes_6 ?_
      refine Zr_icmp_ge C 43 dX4_probes_9 (by decide) (fun h9 => absurd h9 (nI_ge hkl (by omega))) (fun h9 => ?_)
      refine Zr_aload_n C dX4_probes_12 rfl ?_
      refine Zr_getR C gf_X4_35 qm0 rfl rfl rfl (by decide) dX4_probes_13 ?_
      refine Zr_iload_n C dX4_probes_16 rfl ?_
      refine Zr_iload C dX4_probes_17 rfl ?_
      refine Zr_callS C cw_X4_68 (k_X4_row (i := i) (j := k)) rfl (Nat.le_of_ble_eq_true rfl) (Nat.le_of_ble_eq_true rfl) rfl (Nat.le_of_ble_eq_true rfl) dX4_probes_19 ⟨Nat.zero_le _, Nat.zero_le _⟩ ?_
      refine Zr_zaldN C qm_16 rfl rfl (by omega) (by decide) (ra hR (by decide)) dX4_probes_22 ?_
      refine Zr_if_eq C 37 dX4_probes_23 (by decide) (fun h23 => ?_) (fun h23 => ?_)
      · have ha : aWaits σ i k = false := by simpa [aWaits, aAll] using h23
        refine Zr_iincE C (1) (nI (k + 1)) dX4_probes_37 (by decide) rfl rfl (nI_1 _) ?_
        refine Zr_goto C 3 dX4_probes_40 (by decide) ?_
        first | exact ih (k + 1) S (by omega) (by rw [aAll_yes (by omega) ha]; exact hR) | exact ih (k + 1) S (by omega) (by rw [aAll_no ha]; exact hR)
      · have ha : aWaits σ i k = true := by simpa [aWaits, aAll] using h23
        refine Zr_aload_n C dX4_probes_26 rfl ?_
        refine Zr_iload_n C dX4_probes_27 rfl ?_
        refine Zr_iload C dX4_probes_28 rfl ?_
        refine Zr_bipush C (6) dX4_probes_30 rfl ?_
        refine Zr_iload_n C dX4_probes_32 rfl ?_
        refine Zr_iload_n C dX4_probes_33 rfl ?_
        refine Zr_callVRv C cw_X4_92 (k_X4_sends hR (by omega) (by omega) hle) qm0 rfl rfl rfl (Nat.le_of_ble_eq_true rfl) (Nat.le_of_ble_eq_true rfl) rfl (Nat.le_of_ble_eq_true rfl) dX4_probes_34 ⟨Nat.zero_le _, Nat.zero_le _⟩ (fun S hR => ?_)
        refine Zr_iincE C (1) (nI (k + 1)) dX4_probes_37 (by decide) rfl rfl (nI_1 _) ?_
        refine Zr_goto C 3 dX4_probes_40 (by decide) ?_
        first | exact ih (k + 1) S (by omega) (by rw [aAll_yes (by omega) ha]; exact hR) | exact ih (k + 1) S (by omega) (by rw [aAll_no ha]; exact hR)
  refine Zr_iconst C (0) dX4_probes_0 rfl ?_
  refine Zr_istore C dX4_probes_1 (by decide) ?_
  exact key n 0 S (by omega) (by rw [aAll_0]; exact hR)
set_option maxHeartbeats 4000000 in
set_option maxRecDepth 100000 in
theorem k_X4_probe {l : Launch} {D : va_G} {K : zKs} {ad : zAd} {S : zSt} {σ : aS} {n i : Nat} (hB : aB n σ) (hR : rRel σ S) (hi : i < n) (hL : ∀ r, r < 100 → (σ.2.1 r).length < 640) : zMet l yX4_probe cX4_probe 2 (some .int) { frames := 3, cells := 0, slots := 0, locals := 72 } D K rIL (rSh K) ad S [.ref (ad (0, 0)), .int (nI i)] (zR (some (.int (fProbe n σ i).1)) (rSh K) ad (rRel (fProbe n σ i).2)) := by
  refine zEnter (own := RX4) (lv0 := [some (.ref (ad (0, 0))), some (.int (nI i))]) (by decide) rfl (by simp [Value.category]) (Nat.le_of_ble_eq_true rfl) rfl ?_
  intro p e s m below meth c A C _ hnm
  have hn := hB.2.2.1
  by_cases hw : aWf σ n i = 0
  · refine Zr_aload_n C dX4_probe_0 rfl ?_
    refine Zr_iload_n C dX4_probe_1 rfl ?_
    refine Zr_callV C cw_X4_64 (k_X4_isOne_t hB hR hi) qm0 rfl rfl rfl (Nat.le_of_ble_eq_true rfl) (Nat.le_of_ble_eq_true rfl) rfl (Nat.le_of_ble_eq_true rfl) dX4_probe_2 ⟨Nat.zero_le _, Nat.zero_le _⟩ ?_
    refine Zr_if_eq C 27 dX4_probe_5 (by decide) (fun h5 => absurd h5 (by decide)) (fun h5 => ?_)
    refine Zr_aload_n C dX4_probe_8 rfl ?_
    refine Zr_iload_n C dX4_probe_9 rfl ?_
    refine Zr_callV C cw_X4_76 (k_X4_isBlocked hB hR hi) qm0 rfl rfl rfl (Nat.le_of_ble_eq_true rfl) (Nat.le_of_ble_eq_true rfl) rfl (Nat.le_of_ble_eq_true rfl) dX4_probe_10 ⟨Nat.zero_le _, Nat.zero_le _⟩ ?_
    refine Zr_topi (y := 0) (if_pos hw) ?_
    refine Zr_if_eq C 27 dX4_probe_13 (by decide) (fun h13 => ?_) (fun h13 => absurd rfl h13)
    refine Zr_iconst C (-1) dX4_probe_27 rfl ?_
    exact Zr_iret C dX4_probe_28 (Nat.zero_le _) (Nat.zero_le _) (by rw [fProbe, if_neg (fun h => h.1 hw)]; exact ⟨rfl, rfl, rfl, hR⟩)
  · have hB2 : aB n (aN σ 1 15 i (σ.1 1 15 i + 1)) := hB.a (fun h => by omega)
    refine Zr_aload_n C dX4_probe_0 rfl ?_
    refine Zr_iload_n C dX4_probe_1 rfl ?_
    refine Zr_callV C cw_X4_64 (k_X4_isOne_t hB hR hi) qm0 rfl rfl rfl (Nat.le_of_ble_eq_true rfl) (Nat.le_of_ble_eq_true rfl) rfl (Nat.le_of_ble_eq_true rfl) dX4_probe_2 ⟨Nat.zero_le _, Nat.zero_le _⟩ ?_
    refine Zr_if_eq C 27 dX4_probe_5 (by decide) (fun h5 => absurd h5 (by decide)) (fun h5 => ?_)
    refine Zr_aload_n C dX4_probe_8 rfl ?_
    refine Zr_iload_n C dX4_probe_9 rfl ?_
    refine Zr_callV C cw_X4_76 (k_X4_isBlocked hB hR hi) qm0 rfl rfl rfl (Nat.le_of_ble_eq_true rfl) (Nat.le_of_ble_eq_true rfl) rfl (Nat.le_of_ble_eq_true rfl) dX4_probe_10 ⟨Nat.zero_le _, Nat.zero_le _⟩ ?_
    refine Zr_topi (y := 1) (if_neg hw) ?_
    refine Zr_if_eq C 27 dX4_probe_13 (by decide) (fun h13 => absurd h13 (by decide)) (fun h13 => ?_)
    refine Zr_aload_n C dX4_probe_16 rfl ?_
    refine Zr_getR C gf_X4_32 qm0 rfl rfl rfl (by decide) dX4_probe_17 ?_
    refine Zr_iload_n C dX4_probe_20 rfl ?_
    refine Zr_ialdN C qm_15 rfl rfl (by omega) (by decide) (ra hR (by decide)) dX4_probe_21 ?_
    refine Zr_bipush C (50) dX4_probe_22 rfl ?_
    refine Zr_icmp_ne C 29 dX4_probe_24 (by decide) (fun h24 => ?_) (fun h24 => ?_)
    · refine Zr_aload_n C dX4_probe_29 rfl ?_
      refine Zr_getR C gf_X4_32 qm0 rfl rfl rfl (by decide) dX4_probe_30 ?_
      refine Zr_iload_n C dX4_probe_33 rfl ?_
      refine Zr_dup2 C dX4_probe_34 rfl rfl ?_
      refine Zr_ialdN C qm_15 rfl rfl (by omega) (by decide) (ra hR (by decide)) dX4_probe_35 ?_
      refine Zr_iconst C (1) dX4_probe_36 rfl ?_
      refine Zr_iadd C dX4_probe_37 ?_
      refine Zr_iastN C qm_15 rfl rfl (by omega) (by decide) (rRa hR (by decide)) dX4_probe_38 (fun S hR => ?_)
      refine Zr_aload_n C dX4_probe_39 rfl ?_
      refine Zr_iload_n C dX4_probe_40 rfl ?_
      refine Zr_iload_n C dX4_probe_41 rfl ?_
      refine Zr_aload_n C dX4_probe_42 rfl ?_
      refine Zr_getR C gf_X4_32 qm0 rfl rfl rfl (by decide) dX4_probe_43 ?_
      refine Zr_iload_n C dX4_probe_46 rfl ?_
      refine Zr_ialdN C qm_15 rfl rfl (by omega) (by decide) ((ra hR (by decide)).trans (by simp [aN, z3]; rfl)) dX4_probe_47 ?_
      refine Zr_callVRv C cw_X4_113 (k_X4_probes hB2 hR hi hL) qm0 rfl rfl rfl (Nat.le_of_ble_eq_true rfl) (Nat.le_of_ble_eq_true rfl) rfl (Nat.le_of_ble_eq_true rfl) dX4_probe_48 ⟨Nat.zero_le _, Nat.zero_le _⟩ (fun S hR => ?_)
      refine Zr_aload_n C dX4_probe_51 rfl ?_
      refine Zr_getR C gf_X4_32 qm0 rfl rfl rfl (by decide) dX4_probe_52 ?_
      refine Zr_iload_n C dX4_probe_55 rfl ?_
      refine Zr_ialdN C qm_15 rfl rfl (by omega) (by decide) ((ra hR (by decide)).trans (by simp [aAll, aN, z3]; rfl)) dX4_probe_56 ?_
      exact Zr_iret C dX4_probe_57 (Nat.zero_le _) (Nat.zero_le _) (by rw [fProbe, if_pos ⟨hw, h24⟩]; exact ⟨rfl, rfl, rfl, hR⟩)
    · refine Zr_iconst C (-1) dX4_probe_27 rfl ?_
      exact Zr_iret C dX4_probe_28 (Nat.zero_le _) (Nat.zero_le _) (by rw [fProbe, if_neg (fun h => h.2 h24)]; exact ⟨rfl, rfl, rfl, hR⟩)
set_option maxHeartbeats 4000000 in
set_option maxRecDepth 100000 in
theorem k_X4_probe_f {l : Launch} {D : va_G} {K : zKs} {ad : zAd} {S : zSt} {σ : aS} {n : Nat} {x : Int32} (hB : aB n σ) (hR : rRel σ S) (hx : aBad n x) : zMet l yX4_probe cX4_probe 2 (some .int) { frames := 3, cells := 0, slots := 0, locals := 72 } D K rIL (rSh K) ad S [.ref (ad (0, 0)), .int x] (zEq (some (.int (-1))) (rSh K) ad (S)) := by
  refine zEnter (own := RX4) (lv0 := [some (.ref (ad (0, 0))), some (.int x)]) (by decide) rfl (by simp [Value.category]) (Nat.le_of_ble_eq_true rfl) rfl ?_
  intro p e s m below meth c A C _ hnm
  refine Zr_aload_n C dX4_probe_0 rfl ?_
  refine Zr_iload_n C dX4_probe_1 rfl ?_
  refine Zr_callV C cw_X4_64 (k_X4_isOne_f hB hR hx) qm0 rfl rfl rfl (Nat.le_of_ble_eq_true rfl) (Nat.le_of_ble_eq_true rfl) rfl (Nat.le_of_ble_eq_true rfl) dX4_probe_2 ⟨Nat.zero_le _, Nat.zero_le _⟩ ?_
  refine Zr_if_eq C 27 dX4_probe_5 (by decide) (fun h5 => ?_) (fun h5 => absurd rfl h5)
  refine Zr_iconst C (-1) dX4_probe_27 rfl ?_
  exact Zr_iret C dX4_probe_28 (Nat.zero_le _) (Nat.zero_le _) ⟨rfl, rfl, rfl, rfl⟩
