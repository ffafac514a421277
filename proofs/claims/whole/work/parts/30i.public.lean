theorem aSum_cong {f g : Nat → Nat} : ∀ {n : Nat}, (∀ k, k < n → f k = g k) → aSum f n = aSum g n
  | 0, _ => rfl
  | n + 1, h => by
    simp only [aSum]
    rw [aSum_cong (fun k hk => h k (by omega)), h n (by omega)]
theorem aSum_split (f : Nat → Nat) (a : Nat) : ∀ b, aSum f (a + b) = aSum f a + aSum (fun k => f (a + k)) b
  | 0 => rfl
  | b + 1 => by
    show aSum f (a + b) + f (a + b) = _
    rw [aSum_split f a b]
    simp only [aSum]
    omega
theorem aSum_grid (f : Nat → Nat) (b : Nat) : ∀ a, aSum f (a * b) = aSum (fun p => aSum (fun q => f (p * b + q)) b) a
  | 0 => by simp [aSum]
  | a + 1 => by
    rw [Nat.succ_mul, aSum_split, aSum_grid f b a]
    rfl
theorem aSum_cut {f : Nat → Nat} {n m : Nat} (h : n ≤ m) (hz : ∀ k, n ≤ k → k < m → f k = 0) : aSum f m = aSum f n := by
  obtain ⟨d, rfl⟩ : ∃ d, m = n + d := ⟨m - n, by omega⟩
  rw [aSum_split]
  have : aSum (fun k => f (n + k)) d = 0 := aSum_zero.mpr (fun k hk => hz (n + k) (by omega) (by omega))
  omega
theorem cSm_all {f : Nat → Nat} {n : Nat} (hn : n ≤ 10) (hz : ∀ r, r < 100 → ¬ (r / 10 < n ∧ r % 10 < n ∧ r / 10 ≠ r % 10) → f r = 0) : cSm n f (n * n) = aSum f 100 := by
  rw [cSm, aSum_grid, show (100 : Nat) = 10 * 10 from rfl, aSum_grid]
  rw [aSum_cut (f := fun p => aSum (fun q => f (p * 10 + q)) 10) (n := n) (m := 10) hn (fun p hp hp10 => aSum_zero.mpr (fun q hq => hz _ (by omega) (by omega)))]
  apply aSum_cong
  intro p hp
  rw [aSum_cut (f := fun q => f (p * 10 + q)) (n := n) (m := 10) hn (fun q hq hq10 => hz _ (by omega) (by omega))]
  apply aSum_cong
  intro q hq
  rw [(cDiv hq).1, (cDiv hq).2, cix_of hq]
  split
  · rename_i h
    exact (hz _ (by omega) (by omega)).symm
  · rw [Nat.mul_comm]
/-- what the class counts on -/
def cOK (n : Nat) (σ : aS) : Prop := aSafe n σ ∧ (∀ r, r < 100 → ∀ m ∈ σ.2.1 r, aWM n m) ∧ (∀ r, r < 100 → aOf 1 (σ.2.1 r) ≤ 20) ∧ (∀ i, i < n → ∃ k, k ≤ 100 ∧ σ.1 1 10 i = nI k) ∧ (∀ i, i < n → ∃ k, k ≤ 50 ∧ σ.1 1 15 i = nI k) ∧ cRp n σ ∧ (∀ i, i < n → σ.1 1 16 (10 * i + i) = 0 ∧ σ.1 1 17 (10 * i + i) = 0) ∧ ((∃ r m, r < 100 ∧ r % 10 = 0 ∧ m ∈ σ.2.1 r ∧ m.1 = 1) → aTree σ 0 = true) ∧ ((∃ r m, r < 100 ∧ m ∈ σ.2.1 r ∧ m.1 = 3) → ∀ i, i < n → σ.1 1 13 i = 0) ∧ ∀ r, r < 100 → ¬ (r / 10 < n ∧ r % 10 < n ∧ r / 10 ≠ r % 10) → σ.2.1 r = []
section
variable {n : Nat} {σ : aS}
theorem cOK.safe (h : cOK n σ) : aSafe n σ := h.1
theorem cOK.b (h : cOK n σ) : aB n σ := h.1.1
theorem cOK.ten (h : cOK n σ) : n ≤ 10 := h.1.1.2.2.1
theorem cOK.len (h : cOK n σ) : ∀ r, r < 100 → (σ.2.1 r).length < 640 := fun r hr => Nat.lt_of_le_of_lt (h.1.2.2.2.1 r hr) (by decide)
theorem cOK.wm (h : cOK n σ) : ∀ r, r < 100 → ∀ m ∈ σ.2.1 r, aWM n m := h.2.1
theorem cOK.w20 (h : cOK n σ) : ∀ r, r < 100 → aOf 1 (σ.2.1 r) ≤ 20 := h.2.2.1
theorem cOK.ow (h : cOK n σ) : ∀ i, i < n → ∃ k, k ≤ 100 ∧ σ.1 1 10 i = nI k := h.2.2.2.1
theorem cOK.pr (h : cOK n σ) : ∀ i, i < n → ∃ k, k ≤ 50 ∧ σ.1 1 15 i = nI k := h.2.2.2.2.1
theorem cOK.rp (h : cOK n σ) : cRp n σ := h.2.2.2.2.2.1
theorem cOK.dg (h : cOK n σ) : ∀ i, i < n → σ.1 1 16 (10 * i + i) = 0 ∧ σ.1 1 17 (10 * i + i) = 0 := h.2.2.2.2.2.2.1
theorem cOK.rt (h : cOK n σ) : (∃ r m, r < 100 ∧ r % 10 = 0 ∧ m ∈ σ.2.1 r ∧ m.1 = 1) → aTree σ 0 = true := h.2.2.2.2.2.2.2.1
theorem cOK.tk (h : cOK n σ) : (∃ r m, r < 100 ∧ m ∈ σ.2.1 r ∧ m.1 = 3) → ∀ i, i < n → σ.1 1 13 i = 0 := h.2.2.2.2.2.2.2.2.1
theorem cOK.em (h : cOK n σ) : ∀ r, r < 100 → ¬ (r / 10 < n ∧ r % 10 < n ∧ r / 10 ≠ r % 10) → σ.2.1 r = [] := h.2.2.2.2.2.2.2.2.2
theorem cOK.q (h : cOK n σ) : cQ n σ := ⟨fun i hi => by
  have := h.ten
  rw [h.em (10 * i + i) (by omega) (by omega)]
  rfl, h.len⟩
theorem cOK.ow0 (h : cOK n σ) {i : Nat} (hi : i < n) : ¬ σ.1 1 10 i < 0 := by
  obtain ⟨k, hk, e⟩ := h.ow i hi
  rw [e]
  exact nI_pos (by omega)
theorem cOK.par (h : cOK n σ) {i : Nat} (hi : i < n) (h0 : i ≠ 0) (ht : aTree σ i = true) : ∃ j, j < n ∧ j ≠ i ∧ σ.1 1 9 i = nI j := h.1.2.2.1 i hi h0 (by simpa [aTree, h0] using ht)
end
theorem cHold {n : Nat} {σ : aS} {S : zSt} (h : cRel n σ S) {i : Nat} (hi : i < n) (h1 : σ.1 1 13 i ≠ 0) : S 3 0 0 = nI i := by
  have := h.2.2.1 i hi
  by_cases hs : S 3 0 0 = nI i
  · exact hs
  · rw [if_neg hs] at this
    exact absurd this h1
theorem c_set {f : Nat → Bool} {n j : Nat} (hn : n ≤ 10) (hj : j < n) : nI (aBits f n) ||| (1 : Int32) <<< (nI j &&& 31) = nI (aBits (fun q => if q = j then true else f q) n) := by
  rw [c_bit1 j (by omega), c_lor]
  congr 1
  apply Nat.eq_of_testBit_eq
  intro i
  rw [Nat.testBit_or, aBits_bit, aBits_bit, Nat.testBit_two_pow]
  by_cases hij : i = j
  · subst hij; simp [hj]
  · have : ¬ j = i := fun h => hij h.symm
    simp [hij, this]
theorem c_clr {f : Nat → Bool} {n j : Nat} (hn : n ≤ 10) (hj : j < n) : nI (aBits f n) &&& ((1 : Int32) <<< (nI j &&& 31) ^^^ (-1)) = nI (aBits (fun q => if q = j then false else f q) n) := by
  have h1 : nI (2 ^ j) = nI (aBits (fun q => decide (q = j)) n) := by
    congr 1
    apply Nat.eq_of_testBit_eq
    intro i
    rw [aBits_bit, Nat.testBit_two_pow]
    by_cases hij : i = j
    · subst hij; simp [hj]
    · have : ¬ j = i := fun h => hij h.symm
      simp [hij, this]
  rw [c_bit1 j (by omega), h1, c_hang hn]
  congr 1
  apply aBits_cong
  intro q hq
  by_cases hqj : q = j
  · simp [hqj]
  · simp [hqj]
theorem c_bits1 {σ : aS} {b i j n : Nat} {v : Int32} (hv : v ≠ 0) : aBits (fun q => if q = j then true else σ.1 1 b (10 * i + q) != 0) n = aBits (fun q => (aN σ 1 b (10 * i + j) v).1 1 b (10 * i + q) != 0) n := by
  apply aBits_cong
  intro q hq
  by_cases hqj : q = j
  · subst hqj; simp [aN, z3, hv]
  · simp [aN, z3, hqj]
theorem c_bits0 {σ : aS} {b i j n : Nat} : aBits (fun q => if q = j then false else σ.1 1 b (10 * i + q) != 0) n = aBits (fun q => (aN σ 1 b (10 * i + j) 0).1 1 b (10 * i + q) != 0) n := by
  apply aBits_cong
  intro q hq
  by_cases hqj : q = j
  · subst hqj; simp [aN, z3]
  · simp [aN, z3, hqj]
set_option maxHeartbeats 1000000 in
set_option maxRecDepth 100000 in
theorem k_X3_start {l : Launch} {D : va_G} {K : zKs} {n : Nat} {ad : zAd} {ca : Nat → Nat} {S : zSt} {σ : aS} (hO : cOK n σ) (hR : cRel n σ S) : zMet l yX3_start cX3_start 1 (some .boolean) { frames := 0, cells := 0, slots := 0, locals := 0 } D K (cIL n) (cSh K n (cpo n σ.2.2)) (zA ad ca) S [.ref (zA ad ca (0, 0))] (cP K n ad (some (.int (fStart σ).1)) (fStart σ).2) := by
  refine zEnter (own := RX3) (lv0 := [some (.ref (zA ad ca (0, 0)))]) (by decide) rfl (by simp [Value.category]) (Nat.le_of_ble_eq_true rfl) rfl ?_
  intro p e s m below meth c A C _ hnm
  have hB := hO.b
  have h0n : 0 < n := by have := hB.2.1; omega
  have hn := hO.ten
  refine Zr_aload_n C dX3_start_0 rfl ?_
  refine Zr_getE C gf_X3_45 cm0 rfl rfl rfl hR.1.2.1 dX3_start_1 ?_
  refine Zr_if_eq C 9 dX3_start_4 (by decide) (fun h4 => ?_) (fun h4 => ?_)
  · refine Zr_aload_n C dX3_start_9 rfl ?_
    refine Zr_iconst C (1) dX3_start_10 rfl ?_
    refine Zr_putE C pf_X3_45 cm0 rfl rfl rfl (znZ (by first | exact Or.inl rfl | exact Or.inr rfl | assumption)) (cRm4 hR) dX3_start_11 (fun S hR => ?_)
    refine Zr_aload_n C dX3_start_14 rfl ?_
    refine Zr_getR C gf_X3_26 cm0 rfl rfl rfl (by simp) dX3_start_15 ?_
    refine Zr_iconst C (0) dX3_start_18 rfl ?_
    refine Zr_topi (y := nI 0) rfl ?_
    refine Zr_aaldS C 2 cm1 rfl rfl rfl h0n (by omega) rfl dX3_start_19 ?_
    refine Zr_iconst C (1) dX3_start_20 rfl ?_
    refine Zr_putE C pf_X3_49 (cm4 h0n) rfl rfl rfl (znZ (by first | exact Or.inl rfl | exact Or.inr rfl | assumption)) (cRw1 hR) dX3_start_21 (fun S hR => ?_)
    refine Zr_iconst C (1) dX3_start_24 rfl ?_
    exact Zr_zret C dX3_start_25 (Nat.zero_le _) (Nat.zero_le _) (by first | exact Or.inl rfl | exact Or.inr rfl | assumption) (by rw [fStart, if_pos h4]; exact ⟨rfl, rfl, ⟨_, rfl⟩, hR⟩)
  · refine Zr_iconst C (0) dX3_start_7 rfl ?_
    exact Zr_zret C dX3_start_8 (Nat.zero_le _) (Nat.zero_le _) (by first | exact Or.inl rfl | exact Or.inr rfl | assumption) (by rw [fStart, if_neg h4]; exact ⟨rfl, rfl, ⟨_, rfl⟩, hR⟩)
set_option maxHeartbeats 1000000 in
set_option maxRecDepth 100000 in
theorem k_X3_send {l : Launch} {D : va_G} {K : zKs} {n : Nat} {ad : zAd} {ca : Nat → Nat} {S : zSt} {σ : aS} (hO : cOK n σ) (hR : cRel n σ S) {i j F : Nat} (hi : i < n) (hj : j < n) (hij : i ≠ j) (hF : aLam (fSend n σ i j).2 ≤ F) : zMet l yX3_send cX3_send 5 (some .boolean) { frames := 3, cells := (F - aLam σ), slots := (2 * (F - aLam σ)), locals := 65 } D K (cIL n) (cSh K n (cpo n σ.2.2)) (zA ad ca) S [.ref (zA ad ca (0, 0)), .int (nI i), .int (nI j)] (cP K n ad (some (.int (fSend n σ i j).1)) (fSend n σ i j).2) := by
  refine zEnter (own := RX3) (lv0 := [some (.ref (zA ad ca (0, 0))), some (.int (nI i)), some (.int (nI j)), none, none]) (by decide) rfl (by simp [Value.category]) (Nat.le_of_ble_eq_true rfl) rfl ?_
  intro p e s m below meth c A C _ hnm
  have hB := hO.b
  have hn := hO.ten
  have hr := cRow_of hi hj hij
  have hw20 := hO.w20 (10 * i + j) (by omega)
  obtain ⟨k, hk, ek⟩ := hO.ow i hi
  have hv : S 6 (i * n + j) 3 = nI (aOf 1 (σ.2.1 (10 * i + j))) := by
    obtain ⟨b, hb⟩ := hR.r hr
    rw [cix_of hj] at hb
    exact hb.2.2.2.2.2.2.1
  by_cases hc : aFree σ n i = true ∧ aOf 1 (σ.2.1 (10 * i + j)) ≠ 20 ∧ σ.1 1 10 i ≠ 100
  · have hl : fSend n σ i j = (1, aN (aN (aPush σ (10 * i + j) (1, -1, -1)) 1 10 i (σ.1 1 10 i + 1)) 1 11 i (σ.1 1 11 i + 1)) := if_pos hc
    have hk100 : k ≠ 100 := fun h => hc.2.2 (by rw [ek, h]; rfl)
    refine Zr_aload_n C dX3_send_0 rfl ?_
    refine Zr_iload_n C dX3_send_1 rfl ?_
    refine Zr_callV C cw_X3_54 (k_X3_workerAt_t hB hR hi) cm0 rfl rfl rfl (Nat.le_of_ble_eq_true rfl) (Nat.le_of_ble_eq_true rfl) rfl (Nat.le_of_ble_eq_true rfl) dX3_send_2 ⟨Nat.zero_le _, Nat.zero_le _⟩ ?_
    refine Zr_astore_n C dX3_send_5 (by decide) ?_
    refine Zr_aload_n C dX3_send_6 rfl ?_
    refine Zr_iload_n C dX3_send_7 rfl ?_
    refine Zr_iload_n C dX3_send_8 rfl ?_
    refine Zr_callV C cw_X3_58 (k_X3_rowBetween_t hB hR hi hj hij) cm0 rfl rfl rfl (Nat.le_of_ble_eq_true rfl) (Nat.le_of_ble_eq_true rfl) rfl (Nat.le_of_ble_eq_true rfl) dX3_send_9 ⟨Nat.zero_le _, Nat.zero_le _⟩ ?_
    refine Zr_astore C dX3_send_12 (by decide) ?_
    refine Zr_aload_n C dX3_send_14 rfl ?_
    refine Zr_ifnull C dX3_send_15 ?_
    refine Zr_aload C dX3_send_18 rfl ?_
    refine Zr_ifnull C dX3_send_20 ?_
    refine Zr_aload_n C dX3_send_23 rfl ?_
    refine Zr_callV C cw_X3_62 (k_X2_isFree hn hR hi) (cm4 hi) rfl rfl rfl (Nat.le_of_ble_eq_true rfl) (Nat.le_of_ble_eq_true rfl) rfl (Nat.le_of_ble_eq_true rfl) dX3_send_24 ⟨Nat.zero_le _, Nat.zero_le _⟩ ?_
    refine Zr_topi (y := 1) (if_pos hc.1) ?_
    refine Zr_if_ne C 32 dX3_send_27 (by decide) (fun h27 => ?_) (fun h27 => absurd h27 (by decide))
    refine Zr_aload C dX3_send_32 rfl ?_
    refine Zr_getE C gf_X3_66 (cm6 hr) rfl rfl rfl hv dX3_send_34 ?_
    refine Zr_bipush C (20) dX3_send_37 rfl ?_
    refine Zr_icmp_ge C 51 dX3_send_39 (by decide) (fun h39 => absurd h39 (nI_ge (b := 20) (by have := hc.2.1; omega) (by decide))) (fun h39 => ?_)
    refine Zr_aload_n C dX3_send_42 rfl ?_
    refine Zr_getE C gf_X3_71 (cm4 hi) rfl rfl rfl ((hR.w hi).2.2.2.1.trans ek) dX3_send_43 ?_
    refine Zr_bipush C (100) dX3_send_46 rfl ?_
    refine Zr_icmp_lt C 53 dX3_send_48 (by decide) (fun h48 => ?_) (fun h48 => absurd (nI_lt (b := 100) (by omega) (by decide)) h48)
    refine Zr_aload C dX3_send_53 rfl ?_
    refine Zr_iconst C (1) dX3_send_55 rfl ?_
    refine Zr_topi (y := cPack (1, -1, -1)) (by decide) ?_
    refine Zr_callVCv C cw_X3_74 (k_app hn hR hi hj hij wm1 (by rw [hl] at hF; exact hF) (hO.len _ (by omega))) (cm6 hr) rfl rfl rfl (Nat.le_of_ble_eq_true rfl) (Nat.le_of_ble_eq_true rfl) rfl (Nat.le_of_ble_eq_true rfl) dX3_send_56 ⟨by show 0 + (F - aLam σ) ≤ F - aLam σ; omega, by show 0 + 2 * (F - aLam σ) ≤ 2 * (F - aLam σ); omega⟩ (fun ca S hR => ?_)
    refine Zr_aload_n C dX3_send_59 rfl ?_
    refine Zr_dup C dX3_send_60 rfl ?_
    refine Zr_getE C gf_X3_71 (cm4 hi) rfl rfl rfl (hR.w hi).2.2.2.1 dX3_send_61 ?_
    refine Zr_iconst C (1) dX3_send_64 rfl ?_
    refine Zr_iadd C dX3_send_65 ?_
    refine Zr_putE C pf_X3_71 (cm4 hi) rfl rfl rfl (znI _) (cRw4 hR) dX3_send_66 (fun S hR => ?_)
    refine Zr_aload_n C dX3_send_69 rfl ?_
    refine Zr_dup C dX3_send_70 rfl ?_
    refine Zr_getE C gf_X3_78 (cm4 hi) rfl rfl rfl (hR.w hi).2.2.2.2.1 dX3_send_71 ?_
    refine Zr_iconst C (1) dX3_send_74 rfl ?_
    refine Zr_iadd C dX3_send_75 ?_
    refine Zr_putE C pf_X3_78 (cm4 hi) rfl rfl rfl (znI _) (cRw5 hR) dX3_send_76 (fun S hR => ?_)
    refine Zr_iconst C (1) dX3_send_79 rfl ?_
    exact Zr_zret C dX3_send_80 (by show 0 + (F - aLam σ) ≤ F - aLam σ; omega) (by show 0 + 2 * (F - aLam σ) ≤ 2 * (F - aLam σ); omega) (by first | exact Or.inl rfl | exact Or.inr rfl | assumption) (by rw [hl]; exact ⟨rfl, rfl, ⟨_, rfl⟩, hR⟩)
  · have hl : fSend n σ i j = (0, σ) := if_neg hc
    by_cases hf : aFree σ n i = true
    · refine Zr_aload_n C dX3_send_0 rfl ?_
      refine Zr_iload_n C dX3_send_1 rfl ?_
      refine Zr_callV C cw_X3_54 (k_X3_workerAt_t hB hR hi) cm0 rfl rfl rfl (Nat.le_of_ble_eq_true rfl) (Nat.le_of_ble_eq_true rfl) rfl (Nat.le_of_ble_eq_true rfl) dX3_send_2 ⟨Nat.zero_le _, Nat.zero_le _⟩ ?_
      refine Zr_astore_n C dX3_send_5 (by decide) ?_
      refine Zr_aload_n C dX3_send_6 rfl ?_
      refine Zr_iload_n C dX3_send_7 rfl ?_
      refine Zr_iload_n C dX3_send_8 rfl ?_
      refine Zr_callV C cw_X3_58 (k_X3_rowBetween_t hB hR hi hj hij) cm0 rfl rfl rfl (Nat.le_of_ble_eq_true rfl) (Nat.le_of_ble_eq_true rfl) rfl (Nat.le_of_ble_eq_true rfl) dX3_send_9 ⟨Nat.zero_le _, Nat.zero_le _⟩ ?_
      refine Zr_astore C dX3_send_12 (by decide) ?_
      refine Zr_aload_n C dX3_send_14 rfl ?_
      refine Zr_ifnull C dX3_send_15 ?_
      refine Zr_aload C dX3_send_18 rfl ?_
      refine Zr_ifnull C dX3_send_20 ?_
      refine Zr_aload_n C dX3_send_23 rfl ?_
      refine Zr_callV C cw_X3_62 (k_X2_isFree hn hR hi) (cm4 hi) rfl rfl rfl (Nat.le_of_ble_eq_true rfl) (Nat.le_of_ble_eq_true rfl) rfl (Nat.le_of_ble_eq_true rfl) dX3_send_24 ⟨Nat.zero_le _, Nat.zero_le _⟩ ?_
      refine Zr_topi (y := 1) (if_pos hf) ?_
      refine Zr_if_ne C 32 dX3_send_27 (by decide) (fun h27 => ?_) (fun h27 => absurd h27 (by decide))
      refine Zr_aload C dX3_send_32 rfl ?_
      refine Zr_getE C gf_X3_66 (cm6 hr) rfl rfl rfl hv dX3_send_34 ?_
      refine Zr_bipush C (20) dX3_send_37 rfl ?_
      refine Zr_icmp_ge C 51 dX3_send_39 (by decide) (fun h39 => ?_) (fun h39 => ?_)
      · refine Zr_iconst C (0) dX3_send_51 rfl ?_
        exact Zr_zret C dX3_send_52 (Nat.zero_le _) (Nat.zero_le _) (by first | exact Or.inl rfl | exact Or.inr rfl | assumption) (by rw [hl]; exact ⟨rfl, rfl, ⟨_, rfl⟩, hR⟩)
      · refine Zr_aload_n C dX3_send_42 rfl ?_
        refine Zr_getE C gf_X3_71 (cm4 hi) rfl rfl rfl ((hR.w hi).2.2.2.1.trans ek) dX3_send_43 ?_
        refine Zr_bipush C (100) dX3_send_46 rfl ?_
        refine Zr_icmp_lt C 53 dX3_send_48 (by decide) (fun h48 => absurd ⟨hf, fun h => h39 (by rw [h]; decide), fun h => by rw [ek] at h; have h2 := (nI_eq (b := 100) (by omega) (by decide)).mp h; rw [h2] at h48; exact absurd h48 (by decide)⟩ hc) (fun h48 => ?_)
        refine Zr_iconst C (0) dX3_send_51 rfl ?_
        exact Zr_zret C dX3_send_52 (Nat.zero_le _) (Nat.zero_le _) (by first | exact Or.inl rfl | exact Or.inr rfl | assumption) (by rw [hl]; exact ⟨rfl, rfl, ⟨_, rfl⟩, hR⟩)
    · refine Zr_aload_n C dX3_send_0 rfl ?_
      refine Zr_iload_n C dX3_send_1 rfl ?_
      refine Zr_callV C cw_X3_54 (k_X3_workerAt_t hB hR hi) cm0 rfl rfl rfl (Nat.le_of_ble_eq_true rfl) (Nat.le_of_ble_eq_true rfl) rfl (Nat.le_of_ble_eq_true rfl) dX3_send_2 ⟨Nat.zero_le _, Nat.zero_le _⟩ ?_
      refine Zr_astore_n C dX3_send_5 (by decide) ?_
      refine Zr_aload_n C dX3_send_6 rfl ?_
      refine Zr_iload_n C dX3_send_7 rfl ?_
      refine Zr_iload_n C dX3_send_8 rfl ?_
      refine Zr_callV C cw_X3_58 (k_X3_rowBetween_t hB hR hi hj hij) cm0 rfl rfl rfl (Nat.le_of_ble_eq_true rfl) (Nat.le_of_ble_eq_true rfl) rfl (Nat.le_of_ble_eq_true rfl) dX3_send_9 ⟨Nat.zero_le _, Nat.zero_le _⟩ ?_
      refine Zr_astore C dX3_send_12 (by decide) ?_
      refine Zr_aload_n C dX3_send_14 rfl ?_
      refine Zr_ifnull C dX3_send_15 ?_
      refine Zr_aload C dX3_send_18 rfl ?_
      refine Zr_ifnull C dX3_send_20 ?_
      refine Zr_aload_n C dX3_send_23 rfl ?_
      refine Zr_callV C cw_X3_62 (k_X2_isFree hn hR hi) (cm4 hi) rfl rfl rfl (Nat.le_of_ble_eq_true rfl) (Nat.le_of_ble_eq_true rfl) rfl (Nat.le_of_ble_eq_true rfl) dX3_send_24 ⟨Nat.zero_le _, Nat.zero_le _⟩ ?_
      refine Zr_topi (y := 0) (if_neg hf) ?_
      refine Zr_if_ne C 32 dX3_send_27 (by decide) (fun h27 => absurd rfl h27) (fun h27 => ?_)
      refine Zr_iconst C (0) dX3_send_30 rfl ?_
      exact Zr_zret C dX3_send_31 (Nat.zero_le _) (Nat.zero_le _) (by first | exact Or.inl rfl | exact Or.inr rfl | assumption) (by rw [hl]; exact ⟨rfl, rfl, ⟨_, rfl⟩, hR⟩)
set_option maxHeartbeats 1000000 in
set_option maxRecDepth 100000 in
theorem k_X3_send_f {l : Launch} {D : va_G} {K : zKs} {n : Nat} {ad : zAd} {ca : Nat → Nat} {S : zSt} {σ : aS} (hB : aB n σ) (hR : cRel n σ S) {x y : Int32} (hx : aBad n x ∨ aBad n y ∨ x = y) : zMet l yX3_send cX3_send 5 (some .boolean) { frames := 3, cells := 0, slots := 0, locals := 65 } D K (cIL n) (cSh K n (cpo n σ.2.2)) (zA ad ca) S [.ref (zA ad ca (0, 0)), .int x, .int y] (zEq (some (.int 0)) (cSh K n (cpo n σ.2.2)) (zA ad ca) (S)) := by
  refine zEnter (own := RX3) (lv0 := [some (.ref (zA ad ca (0, 0))), some (.int x), some (.int y), none, none]) (by decide) rfl (by simp [Value.category]) (Nat.le_of_ble_eq_true rfl) rfl ?_
  intro p e s m below meth c A C _ hnm
  have hn := hB.2.2.1
  rcases aIx n hn x with h | ⟨i, hi, rfl⟩
  · refine Zr_aload_n C dX3_send_0 rfl ?_
    refine Zr_iload_n C dX3_send_1 rfl ?_
    refine Zr_callV C cw_X3_54 (k_X3_workerAt_f hB hR h) cm0 rfl rfl rfl (Nat.le_of_ble_eq_true rfl) (Nat.le_of_ble_eq_true rfl) rfl (Nat.le_of_ble_eq_true rfl) dX3_send_2 ⟨Nat.zero_le _, Nat.zero_le _⟩ ?_
    refine Zr_astore_nN C dX3_send_5 (by decide) ?_
    refine Zr_aload_n C dX3_send_6 rfl ?_
    refine Zr_iload_n C dX3_send_7 rfl ?_
    refine Zr_iload_n C dX3_send_8 rfl ?_
    refine Zr_callV C cw_X3_58 (k_X3_rowBetween_f hB hR (Or.inl h)) cm0 rfl rfl rfl (Nat.le_of_ble_eq_true rfl) (Nat.le_of_ble_eq_true rfl) rfl (Nat.le_of_ble_eq_true rfl) dX3_send_9 ⟨Nat.zero_le _, Nat.zero_le _⟩ ?_
    refine Zr_astoreN C dX3_send_12 (by decide) ?_
    refine Zr_aload_nN C dX3_send_14 rfl ?_
    refine Zr_ifnullN C 30 dX3_send_15 (by decide) ?_
    refine Zr_iconst C (0) dX3_send_30 rfl ?_
    exact Zr_zret C dX3_send_31 (Nat.zero_le _) (Nat.zero_le _) (by first | exact Or.inl rfl | exact Or.inr rfl | assumption) ⟨rfl, rfl, rfl, rfl⟩
  · rcases aIx n hn y with h | ⟨j, hj, rfl⟩
    · refine Zr_aload_n C dX3_send_0 rfl ?_
      refine Zr_iload_n C dX3_send_1 rfl ?_
      refine Zr_callV C cw_X3_54 (k_X3_workerAt_t hB hR hi) cm0 rfl rfl rfl (Nat.le_of_ble_eq_true rfl) (Nat.le_of_ble_eq_true rfl) rfl (Nat.le_of_ble_eq_true rfl) dX3_send_2 ⟨Nat.zero_le _, Nat.zero_le _⟩ ?_
      refine Zr_astore_n C dX3_send_5 (by decide) ?_
      refine Zr_aload_n C dX3_send_6 rfl ?_
      refine Zr_iload_n C dX3_send_7 rfl ?_
      refine Zr_iload_n C dX3_send_8 rfl ?_
      refine Zr_callV C cw_X3_58 (k_X3_rowBetween_f hB hR (Or.inr h)) cm0 rfl rfl rfl (Nat.le_of_ble_eq_true rfl) (Nat.le_of_ble_eq_true rfl) rfl (Nat.le_of_ble_eq_true rfl) dX3_send_9 ⟨Nat.zero_le _, Nat.zero_le _⟩ ?_
      refine Zr_astoreN C dX3_send_12 (by decide) ?_
      refine Zr_aload_n C dX3_send_14 rfl ?_
      refine Zr_ifnull C dX3_send_15 ?_
      refine Zr_aloadN C dX3_send_18 rfl ?_
      refine Zr_ifnullN C 30 dX3_send_20 (by decide) ?_
      refine Zr_iconst C (0) dX3_send_30 rfl ?_
      exact Zr_zret C dX3_send_31 (Nat.zero_le _) (Nat.zero_le _) (by first | exact Or.inl rfl | exact Or.inr rfl | assumption) ⟨rfl, rfl, rfl, rfl⟩
    · have h : nI i = nI j := (hx.resolve_left (aBad.of hi hn)).resolve_left (aBad.of hj hn)
      have hij : i = j := (nI_eq (by omega) (by omega)).mp h
      subst hij
      refine Zr_aload_n C dX3_send_0 rfl ?_
      refine Zr_iload_n C dX3_send_1 rfl ?_
      refine Zr_callV C cw_X3_54 (k_X3_workerAt_t hB hR hi) cm0 rfl rfl rfl (Nat.le_of_ble_eq_true rfl) (Nat.le_of_ble_eq_true rfl) rfl (Nat.le_of_ble_eq_true rfl) dX3_send_2 ⟨Nat.zero_le _, Nat.zero_le _⟩ ?_
      refine Zr_astore_n C dX3_send_5 (by decide) ?_
      refine Zr_aload_n C dX3_send_6 rfl ?_
      refine Zr_iload_n C dX3_send_7 rfl ?_
      refine Zr_iload_n C dX3_send_8 rfl ?_
      refine Zr_callV C cw_X3_58 (k_X3_rowBetween_d hB hR hi) cm0 rfl rfl rfl (Nat.le_of_ble_eq_true rfl) (Nat.le_of_ble_eq_true rfl) rfl (Nat.le_of_ble_eq_true rfl) dX3_send_9 ⟨Nat.zero_le _, Nat.zero_le _⟩ ?_
      refine Zr_astoreN C dX3_send_12 (by decide) ?_
      refine Zr_aload_n C dX3_send_14 rfl ?_
      refine Zr_ifnull C dX3_send_15 ?_
      refine Zr_aloadN C dX3_send_18 rfl ?_
      refine Zr_ifnullN C 30 dX3_send_20 (by decide) ?_
      refine Zr_iconst C (0) dX3_send_30 rfl ?_
      exact Zr_zret C dX3_send_31 (Nat.zero_le _) (Nat.zero_le _) (by first | exact Or.inl rfl | exact Or.inr rfl | assumption) ⟨rfl, rfl, rfl, rfl⟩
set_option maxHeartbeats 1000000 in
set_option maxRecDepth 100000 in
theorem k_X3_rest {l : Launch} {D : va_G} {K : zKs} {n : Nat} {ad : zAd} {ca : Nat → Nat} {S : zSt} {σ : aS} (hO : cOK n σ) (hR : cRel n σ S) {i F : Nat} (hi : i < n) (hF : aLam (fRest n σ i).2 ≤ F) : zMet l yX3_rest cX3_rest 3 (some .boolean) { frames := 5, cells := (F - aLam σ), slots := (2 * (F - aLam σ)), locals := 111 } D K (cIL n) (cSh K n (cpo n σ.2.2)) (zA ad ca) S [.ref (zA ad ca (0, 0)), .int (nI i)] (cP K n ad (some (.int (fRest n σ i).1)) (fRest n σ i).2) := by
  refine zEnter (own := RX3) (lv0 := [some (.ref (zA ad ca (0, 0))), some (.int (nI i)), none]) (by decide) rfl (by simp [Value.category]) (Nat.le_of_ble_eq_true rfl) rfl ?_
  intro p e s m below meth c A C _ hnm
  have hB := hO.b
  have hn := hO.ten
  by_cases hf : aFree σ n i = true
  · have hl : fRest n σ i = (1, aLeave n (aN σ 1 8 i 0) i) := if_pos hf
    have hB2 : aB n (aN σ 1 8 i 0) := hB.a (fun _ => Or.inl rfl)
    have hpar : aQual (aN σ 1 8 i 0) i = true → i ≠ 0 → ∃ j, j < n ∧ j ≠ i ∧ (aN σ 1 8 i 0).1 1 9 i = nI j := by
      intro h1 h2
      have h3 : aTree σ i = true := by simpa [aTree, h2, aN, z3] using (aQual_iff.mp h1).1
      obtain ⟨j, hj, hji, hj2⟩ := hO.par hi h2 h3
      exact ⟨j, hj, hji, by simpa [aN, z3] using hj2⟩
    refine Zr_aload_n C dX3_rest_0 rfl ?_
    refine Zr_iload_n C dX3_rest_1 rfl ?_
    refine Zr_callV C cw_X3_54 (k_X3_workerAt_t hB hR hi) cm0 rfl rfl rfl (Nat.le_of_ble_eq_true rfl) (Nat.le_of_ble_eq_true rfl) rfl (Nat.le_of_ble_eq_true rfl) dX3_rest_2 ⟨Nat.zero_le _, Nat.zero_le _⟩ ?_
    refine Zr_astore_n C dX3_rest_5 (by decide) ?_
    refine Zr_aload_n C dX3_rest_6 rfl ?_
    refine Zr_ifnull C dX3_rest_7 ?_
    refine Zr_aload_n C dX3_rest_10 rfl ?_
    refine Zr_callV C cw_X3_62 (k_X2_isFree hn hR hi) (cm4 hi) rfl rfl rfl (Nat.le_of_ble_eq_true rfl) (Nat.le_of_ble_eq_true rfl) rfl (Nat.le_of_ble_eq_true rfl) dX3_rest_11 ⟨Nat.zero_le _, Nat.zero_le _⟩ ?_
    refine Zr_topi (y := 1) (if_pos hf) ?_
    refine Zr_if_ne C 19 dX3_rest_14 (by decide) (fun h14 => ?_) (fun h14 => absurd h14 (by decide))
    refine Zr_aload_n C dX3_rest_19 rfl ?_
    refine Zr_iconst C (0) dX3_rest_20 rfl ?_
    refine Zr_putE C pf_X3_49 (cm4 hi) rfl rfl rfl (znZ (by first | exact Or.inl rfl | exact Or.inr rfl | assumption)) (cRw1 hR) dX3_rest_21 (fun S hR => ?_)
    refine Zr_aload_n C dX3_rest_24 rfl ?_
    refine Zr_iload_n C dX3_rest_25 rfl ?_
    refine Zr_aload_n C dX3_rest_26 rfl ?_
    refine Zr_callVCv C cw_X3_81 (k_X3_leaveTreeIfDone (σ := aN σ 1 8 i 0) hB2 hR hi hO.q (by simpa [aN, z3] using hO.ow0 hi) hpar (by rw [hl] at hF; exact hF)) cm0 rfl rfl rfl (Nat.le_of_ble_eq_true rfl) (Nat.le_of_ble_eq_true rfl) rfl (Nat.le_of_ble_eq_true rfl) dX3_rest_27 ⟨by show 0 + (F - aLam σ) ≤ F - aLam σ; omega, by show 0 + 2 * (F - aLam σ) ≤ 2 * (F - aLam σ); omega⟩ (fun ca S hR => ?_)
    refine Zr_iconst C (1) dX3_rest_30 rfl ?_
    exact Zr_zret C dX3_rest_31 (by show 0 + (F - aLam σ) ≤ F - aLam σ; omega) (by show 0 + 2 * (F - aLam σ) ≤ 2 * (F - aLam σ); omega) (by first | exact Or.inl rfl | exact Or.inr rfl | assumption) (by rw [hl]; exact ⟨rfl, rfl, ⟨_, rfl⟩, hR⟩)
  · have hl : fRest n σ i = (0, σ) := if_neg hf
    refine Zr_aload_n C dX3_rest_0 rfl ?_
    refine Zr_iload_n C dX3_rest_1 rfl ?_
    refine Zr_callV C cw_X3_54 (k_X3_workerAt_t hB hR hi) cm0 rfl rfl rfl (Nat.le_of_ble_eq_true rfl) (Nat.le_of_ble_eq_true rfl) rfl (Nat.le_of_ble_eq_true rfl) dX3_rest_2 ⟨Nat.zero_le _, Nat.zero_le _⟩ ?_
    refine Zr_astore_n C dX3_rest_5 (by decide) ?_
    refine Zr_aload_n C dX3_rest_6 rfl ?_
    refine Zr_ifnull C dX3_rest_7 ?_
    refine Zr_aload_n C dX3_rest_10 rfl ?_
    refine Zr_callV C cw_X3_62 (k_X2_isFree hn hR hi) (cm4 hi) rfl rfl rfl (Nat.le_of_ble_eq_true rfl) (Nat.le_of_ble_eq_true rfl) rfl (Nat.le_of_ble_eq_true rfl) dX3_rest_11 ⟨Nat.zero_le _, Nat.zero_le _⟩ ?_
    refine Zr_topi (y := 0) (if_neg hf) ?_
    refine Zr_if_ne C 19 dX3_rest_14 (by decide) (fun h14 => absurd rfl h14) (fun h14 => ?_)
    refine Zr_iconst C (0) dX3_rest_17 rfl ?_
    exact Zr_zret C dX3_rest_18 (Nat.zero_le _) (Nat.zero_le _) (by first | exact Or.inl rfl | exact Or.inr rfl | assumption) (by rw [hl]; exact ⟨rfl, rfl, ⟨_, rfl⟩, hR⟩)
set_option maxHeartbeats 1000000 in
set_option maxRecDepth 100000 in
theorem k_X3_rest_f {l : Launch} {D : va_G} {K : zKs} {n : Nat} {ad : zAd} {ca : Nat → Nat} {S : zSt} {σ : aS} (hB : aB n σ) (hR : cRel n σ S) {x : Int32} (hx : aBad n x) : zMet l yX3_rest cX3_rest 3 (some .boolean) { frames := 5, cells := 0, slots := 0, locals := 111 } D K (cIL n) (cSh K n (cpo n σ.2.2)) (zA ad ca) S [.ref (zA ad ca (0, 0)), .int x] (zEq (some (.int 0)) (cSh K n (cpo n σ.2.2)) (zA ad ca) (S)) := by
  refine zEnter (own := RX3) (lv0 := [some (.ref (zA ad ca (0, 0))), some (.int x), none]) (by decide) rfl (by simp [Value.category]) (Nat.le_of_ble_eq_true rfl) rfl ?_
  intro p e s m below meth c A C _ hnm
  refine Zr_aload_n C dX3_rest_0 rfl ?_
  refine Zr_iload_n C dX3_rest_1 rfl ?_
  refine Zr_callV C cw_X3_54 (k_X3_workerAt_f hB hR hx) cm0 rfl rfl rfl (Nat.le_of_ble_eq_true rfl) (Nat.le_of_ble_eq_true rfl) rfl (Nat.le_of_ble_eq_true rfl) dX3_rest_2 ⟨Nat.zero_le _, Nat.zero_le _⟩ ?_
  refine Zr_astore_nN C dX3_rest_5 (by decide) ?_
  refine Zr_aload_nN C dX3_rest_6 rfl ?_
  refine Zr_ifnullN C 17 dX3_rest_7 (by decide) ?_
  refine Zr_iconst C (0) dX3_rest_17 rfl ?_
  exact Zr_zret C dX3_rest_18 (Nat.zero_le _) (Nat.zero_le _) (by first | exact Or.inl rfl | exact Or.inr rfl | assumption) ⟨rfl, rfl, rfl, rfl⟩
set_option maxHeartbeats 1000000 in
set_option maxRecDepth 100000 in
theorem k_X3_answer {l : Launch} {D : va_G} {K : zKs} {n : Nat} {ad : zAd} {ca : Nat → Nat} {S : zSt} {σ : aS} (hO : cOK n σ) (hR : cRel n σ S) {i j F : Nat} (hi : i < n) (hj : j < n) (hij : i ≠ j) (hF : aLam (fAnswer n σ i j).2 ≤ F) : zMet l yX3_answer cX3_answer 5 (some .boolean) { frames := 4, cells := (F - aLam σ), slots := (2 * (F - aLam σ)), locals := 89 } D K (cIL n) (cSh K n (cpo n σ.2.2)) (zA ad ca) S [.ref (zA ad ca (0, 0)), .int (nI i), .int (nI j)] (cP K n ad (some (.int (fAnswer n σ i j).1)) (fAnswer n σ i j).2) := by
  refine zEnter (own := RX3) (lv0 := [some (.ref (zA ad ca (0, 0))), some (.int (nI i)), some (.int (nI j)), none, none]) (by decide) rfl (by simp [Value.category]) (Nat.le_of_ble_eq_true rfl) rfl ?_
  intro p e s m below meth c A C _ hnm
  have hB := hO.b
  have hn := hO.ten
  have hpb := aBits_10 (f := fun q => σ.1 1 17 (10 * i + q) != 0) hn
  have hpt : (aBits (fun q => σ.1 1 17 (10 * i + q) != 0) n).testBit j = (σ.1 1 17 (10 * i + j) != 0) := by rw [aBits_bit]; simp [hj]
  by_cases hw : aWf σ n i = 0
  · by_cases hpd : σ.1 1 17 (10 * i + j) = 0
    · have hl : fAnswer n σ i j = (0, σ) := if_neg (fun h => h.2 hpd)
      refine Zr_aload_n C dX3_answer_0 rfl ?_
      refine Zr_iload_n C dX3_answer_1 rfl ?_
      refine Zr_callV C cw_X3_54 (k_X3_workerAt_t hB hR hi) cm0 rfl rfl rfl (Nat.le_of_ble_eq_true rfl) (Nat.le_of_ble_eq_true rfl) rfl (Nat.le_of_ble_eq_true rfl) dX3_answer_2 ⟨Nat.zero_le _, Nat.zero_le _⟩ ?_
      refine Zr_astore_n C dX3_answer_5 (by decide) ?_
      refine Zr_aload_n C dX3_answer_6 rfl ?_
      refine Zr_iload_n C dX3_answer_7 rfl ?_
      refine Zr_callV C cw_X3_54 (k_X3_workerAt_t hB hR hj) cm0 rfl rfl rfl (Nat.le_of_ble_eq_true rfl) (Nat.le_of_ble_eq_true rfl) rfl (Nat.le_of_ble_eq_true rfl) dX3_answer_8 ⟨Nat.zero_le _, Nat.zero_le _⟩ ?_
      refine Zr_astore C dX3_answer_11 (by decide) ?_
      refine Zr_aload_n C dX3_answer_13 rfl ?_
      refine Zr_ifnull C dX3_answer_14 ?_
      refine Zr_aload C dX3_answer_17 rfl ?_
      refine Zr_ifnonnull C 24 dX3_answer_19 (by decide) ?_
      refine Zr_aload_n C dX3_answer_24 rfl ?_
      refine Zr_callV C cw_X3_104 (k_X2_isBlocked hn hR hi) (cm4 hi) rfl rfl rfl (Nat.le_of_ble_eq_true rfl) (Nat.le_of_ble_eq_true rfl) rfl (Nat.le_of_ble_eq_true rfl) dX3_answer_25 ⟨Nat.zero_le _, Nat.zero_le _⟩ ?_
      refine Zr_topi (y := 0) (if_pos hw) ?_
      refine Zr_if_ne C 42 dX3_answer_28 (by decide) (fun h28 => absurd rfl h28) (fun h28 => ?_)
      refine Zr_aload_n C dX3_answer_31 rfl ?_
      refine Zr_getE C gf_X3_107 (cm4 hi) rfl rfl rfl (hR.w hi).2.2.2.2.2.2.2.1 dX3_answer_32 ?_
      refine Zr_iload_n C dX3_answer_35 rfl ?_
      refine Zr_callS C cw_X3_110 (k_X3_holds hpb (by omega)) rfl (Nat.le_of_ble_eq_true rfl) (Nat.le_of_ble_eq_true rfl) rfl (Nat.le_of_ble_eq_true rfl) dX3_answer_36 ⟨Nat.zero_le _, Nat.zero_le _⟩ ?_
      refine Zr_topi (y := 0) (if_neg (by rw [hpt]; simp [hpd])) ?_
      refine Zr_if_ne C 44 dX3_answer_39 (by decide) (fun h39 => absurd rfl h39) (fun h39 => ?_)
      refine Zr_iconst C (0) dX3_answer_42 rfl ?_
      exact Zr_zret C dX3_answer_43 (Nat.zero_le _) (Nat.zero_le _) (by first | exact Or.inl rfl | exact Or.inr rfl | assumption) (by rw [hl]; exact ⟨rfl, rfl, ⟨_, rfl⟩, hR⟩)
    · have hl : fAnswer n σ i j = (1, aPush (aN (aN σ 1 17 (10 * i + j) 0) 1 30 (10 * j + i) 1) (10 * i + j) (5, -1, -1)) := if_pos ⟨hw, hpd⟩
      have hB2 : aB n (aN (aN σ 1 17 (10 * i + j) 0) 1 30 (10 * j + i) 1) := (hB.a (fun _ => Or.inl rfl)).a (fun h => by omega)
      refine Zr_aload_n C dX3_answer_0 rfl ?_
      refine Zr_iload_n C dX3_answer_1 rfl ?_
      refine Zr_callV C cw_X3_54 (k_X3_workerAt_t hB hR hi) cm0 rfl rfl rfl (Nat.le_of_ble_eq_true rfl) (Nat.le_of_ble_eq_true rfl) rfl (Nat.le_of_ble_eq_true rfl) dX3_answer_2 ⟨Nat.zero_le _, Nat.zero_le _⟩ ?_
      refine Zr_astore_n C dX3_answer_5 (by decide) ?_
      refine Zr_aload_n C dX3_answer_6 rfl ?_
      refine Zr_iload_n C dX3_answer_7 rfl ?_
      refine Zr_callV C cw_X3_54 (k_X3_workerAt_t hB hR hj) cm0 rfl rfl rfl (Nat.le_of_ble_eq_true rfl) (Nat.le_of_ble_eq_true rfl) rfl (Nat.le_of_ble_eq_true rfl) dX3_answer_8 ⟨Nat.zero_le _, Nat.zero_le _⟩ ?_
      refine Zr_astore C dX3_answer_11 (by decide) ?_
      refine Zr_aload_n C dX3_answer_13 rfl ?_
      refine Zr_ifnull C dX3_answer_14 ?_
      refine Zr_aload C dX3_answer_17 rfl ?_
      refine Zr_ifnonnull C 24 dX3_answer_19 (by decide) ?_
      refine Zr_aload_n C dX3_answer_24 rfl ?_
      refine Zr_callV C cw_X3_104 (k_X2_isBlocked hn hR hi) (cm4 hi) rfl rfl rfl (Nat.le_of_ble_eq_true rfl) (Nat.le_of_ble_eq_true rfl) rfl (Nat.le_of_ble_eq_true rfl) dX3_answer_25 ⟨Nat.zero_le _, Nat.zero_le _⟩ ?_
      refine Zr_topi (y := 0) (if_pos hw) ?_
      refine Zr_if_ne C 42 dX3_answer_28 (by decide) (fun h28 => absurd rfl h28) (fun h28 => ?_)
      refine Zr_aload_n C dX3_answer_31 rfl ?_
      refine Zr_getE C gf_X3_107 (cm4 hi) rfl rfl rfl (hR.w hi).2.2.2.2.2.2.2.1 dX3_answer_32 ?_
      refine Zr_iload_n C dX3_answer_35 rfl ?_
      refine Zr_callS C cw_X3_110 (k_X3_holds hpb (by omega)) rfl (Nat.le_of_ble_eq_true rfl) (Nat.le_of_ble_eq_true rfl) rfl (Nat.le_of_ble_eq_true rfl) dX3_answer_36 ⟨Nat.zero_le _, Nat.zero_le _⟩ ?_
      refine Zr_topi (y := 1) (if_pos (by rw [hpt]; simp [hpd])) ?_
      refine Zr_if_ne C 44 dX3_answer_39 (by decide) (fun h39 => ?_) (fun h39 => absurd h39 (by decide))
      refine Zr_aload_n C dX3_answer_44 rfl ?_
      refine Zr_dup C dX3_answer_45 rfl ?_
      refine Zr_getE C gf_X3_107 (cm4 hi) rfl rfl rfl (hR.w hi).2.2.2.2.2.2.2.1 dX3_answer_46 ?_
      refine Zr_iload_n C dX3_answer_49 rfl ?_
      refine Zr_callS C cw_X3_89 (k_X3_bitOf) rfl (Nat.le_of_ble_eq_true rfl) (Nat.le_of_ble_eq_true rfl) rfl (Nat.le_of_ble_eq_true rfl) dX3_answer_50 ⟨Nat.zero_le _, Nat.zero_le _⟩ ?_
      refine Zr_iconst C (-1) dX3_answer_53 rfl ?_
      refine Zr_ixor C dX3_answer_54 ?_
      refine Zr_iand C dX3_answer_55 ?_
      refine Zr_putE C pf_X3_107 (cm4 hi) rfl rfl rfl (znI _) (cRw8 (v := 0) hR hn hi hj (by rw [c_clr hn hj, c_bits0])) dX3_answer_56 (fun S hR => ?_)
      refine Zr_aload C dX3_answer_59 rfl ?_
      refine Zr_dup C dX3_answer_61 rfl ?_
      refine Zr_getE C gf_X3_114 (cm4 hj) rfl rfl rfl (hR.w hj).2.2.2.2.2.2.1 dX3_answer_62 ?_
      refine Zr_iload_n C dX3_answer_65 rfl ?_
      refine Zr_callS C cw_X3_89 (k_X3_bitOf) rfl (Nat.le_of_ble_eq_true rfl) (Nat.le_of_ble_eq_true rfl) rfl (Nat.le_of_ble_eq_true rfl) dX3_answer_66 ⟨Nat.zero_le _, Nat.zero_le _⟩ ?_
      refine Zr_ior C dX3_answer_69 ?_
      refine Zr_putE C pf_X3_114 (cm4 hj) rfl rfl rfl (znI _) (cRw7 (v := 1) hR hn hj hi (by rw [c_set hn hi, c_bits1 (v := 1) (by decide)])) dX3_answer_70 (fun S hR => ?_)
      refine Zr_aload_n C dX3_answer_73 rfl ?_
      refine Zr_iload_n C dX3_answer_74 rfl ?_
      refine Zr_iload_n C dX3_answer_75 rfl ?_
      refine Zr_iconst C (5) dX3_answer_76 rfl ?_
      refine Zr_topi (y := cPack (5, -1, -1)) (by decide) ?_
      refine Zr_callVCv C cw_X3_117 (k_X3_put (σ := (aN (aN σ 1 17 (10 * i + j) 0) 1 30 (10 * j + i) 1)) hB2 hR hi hj hij wm5 (by rw [hl] at hF; exact hF) (hO.len _ (by omega))) cm0 rfl rfl rfl (Nat.le_of_ble_eq_true rfl) (Nat.le_of_ble_eq_true rfl) rfl (Nat.le_of_ble_eq_true rfl) dX3_answer_77 ⟨by show 0 + (F - aLam σ) ≤ F - aLam σ; omega, by show 0 + 2 * (F - aLam σ) ≤ 2 * (F - aLam σ); omega⟩ (fun ca S hR => ?_)
      refine Zr_iconst C (1) dX3_answer_80 rfl ?_
      exact Zr_zret C dX3_answer_81 (by show 0 + (F - aLam σ) ≤ F - aLam σ; omega) (by show 0 + 2 * (F - aLam σ) ≤ 2 * (F - aLam σ); omega) (by first | exact Or.inl rfl | exact Or.inr rfl | assumption) (by rw [hl]; exact ⟨rfl, rfl, ⟨_, rfl⟩, hR⟩)
  · have hl : fAnswer n σ i j = (0, σ) := if_neg (fun h => hw h.1)
    refine Zr_aload_n C dX3_answer_0 rfl ?_
    refine Zr_iload_n C dX3_answer_1 rfl ?_
    refine Zr_callV C cw_X3_54 (k_X3_workerAt_t hB hR hi) cm0 rfl rfl rfl (Nat.le_of_ble_eq_true rfl) (Nat.le_of_ble_eq_true rfl) rfl (Nat.le_of_ble_eq_true rfl) dX3_answer_2 ⟨Nat.zero_le _, Nat.zero_le _⟩ ?_
    refine Zr_astore_n C dX3_answer_5 (by decide) ?_
    refine Zr_aload_n C dX3_answer_6 rfl ?_
    refine Zr_iload_n C dX3_answer_7 rfl ?_
    refine Zr_callV C cw_X3_54 (k_X3_workerAt_t hB hR hj) cm0 rfl rfl rfl (Nat.le_of_ble_eq_true rfl) (Nat.le_of_ble_eq_true rfl) rfl (Nat.le_of_ble_eq_true rfl) dX3_answer_8 ⟨Nat.zero_le _, Nat.zero_le _⟩ ?_
    refine Zr_astore C dX3_answer_11 (by decide) ?_
    refine Zr_aload_n C dX3_answer_13 rfl ?_
    refine Zr_ifnull C dX3_answer_14 ?_
    refine Zr_aload C dX3_answer_17 rfl ?_
    refine Zr_ifnonnull C 24 dX3_answer_19 (by decide) ?_
    refine Zr_aload_n C dX3_answer_24 rfl ?_
    refine Zr_callV C cw_X3_104 (k_X2_isBlocked hn hR hi) (cm4 hi) rfl rfl rfl (Nat.le_of_ble_eq_true rfl) (Nat.le_of_ble_eq_true rfl) rfl (Nat.le_of_ble_eq_true rfl) dX3_answer_25 ⟨Nat.zero_le _, Nat.zero_le _⟩ ?_
    refine Zr_topi (y := 1) (if_neg hw) ?_
    refine Zr_if_ne C 42 dX3_answer_28 (by decide) (fun h28 => ?_) (fun h28 => absurd h28 (by decide))
    refine Zr_iconst C (0) dX3_answer_42 rfl ?_
    exact Zr_zret C dX3_answer_43 (Nat.zero_le _) (Nat.zero_le _) (by first | exact Or.inl rfl | exact Or.inr rfl | assumption) (by rw [hl]; exact ⟨rfl, rfl, ⟨_, rfl⟩, hR⟩)
set_option maxHeartbeats 1000000 in
set_option maxRecDepth 100000 in
theorem k_X3_answer_f {l : Launch} {D : va_G} {K : zKs} {n : Nat} {ad : zAd} {ca : Nat → Nat} {S : zSt} {σ : aS} (hO : cOK n σ) (hR : cRel n σ S) {x y : Int32} (hx : aBad n x ∨ aBad n y ∨ x = y) : zMet l yX3_answer cX3_answer 5 (some .boolean) { frames := 4, cells := 0, slots := 0, locals := 89 } D K (cIL n) (cSh K n (cpo n σ.2.2)) (zA ad ca) S [.ref (zA ad ca (0, 0)), .int x, .int y] (zEq (some (.int 0)) (cSh K n (cpo n σ.2.2)) (zA ad ca) (S)) := by
  refine zEnter (own := RX3) (lv0 := [some (.ref (zA ad ca (0, 0))), some (.int x), some (.int y), none, none]) (by decide) rfl (by simp [Value.category]) (Nat.le_of_ble_eq_true rfl) rfl ?_
  intro p e s m below meth c A C _ hnm
  have hB := hO.b
  have hn := hO.ten
  rcases aIx n hn x with h | ⟨i, hi, rfl⟩
  · rcases aIx n hn y with h2 | ⟨j, hj, rfl⟩
    · refine Zr_aload_n C dX3_answer_0 rfl ?_
      refine Zr_iload_n C dX3_answer_1 rfl ?_
      refine Zr_callV C cw_X3_54 (k_X3_workerAt_f hB hR h) cm0 rfl rfl rfl (Nat.le_of_ble_eq_true rfl) (Nat.le_of_ble_eq_true rfl) rfl (Nat.le_of_ble_eq_true rfl) dX3_answer_2 ⟨Nat.zero_le _, Nat.zero_le _⟩ ?_
      refine Zr_astore_nN C dX3_answer_5 (by decide) ?_
      refine Zr_aload_n C dX3_answer_6 rfl ?_
      refine Zr_iload_n C dX3_answer_7 rfl ?_
      refine Zr_callV C cw_X3_54 (k_X3_workerAt_f hB hR h2) cm0 rfl rfl rfl (Nat.le_of_ble_eq_true rfl) (Nat.le_of_ble_eq_true rfl) rfl (Nat.le_of_ble_eq_true rfl) dX3_answer_8 ⟨Nat.zero_le _, Nat.zero_le _⟩ ?_
      refine Zr_astoreN C dX3_answer_11 (by decide) ?_
      refine Zr_aload_nN C dX3_answer_13 rfl ?_
      refine Zr_ifnullN C 22 dX3_answer_14 (by decide) ?_
      refine Zr_iconst C (0) dX3_answer_22 rfl ?_
      exact Zr_zret C dX3_answer_23 (Nat.zero_le _) (Nat.zero_le _) (by first | exact Or.inl rfl | exact Or.inr rfl | assumption) ⟨rfl, rfl, rfl, rfl⟩
    · refine Zr_aload_n C dX3_answer_0 rfl ?_
      refine Zr_iload_n C dX3_answer_1 rfl ?_
      refine Zr_callV C cw_X3_54 (k_X3_workerAt_f hB hR h) cm0 rfl rfl rfl (Nat.le_of_ble_eq_true rfl) (Nat.le_of_ble_eq_true rfl) rfl (Nat.le_of_ble_eq_true rfl) dX3_answer_2 ⟨Nat.zero_le _, Nat.zero_le _⟩ ?_
      refine Zr_astore_nN C dX3_answer_5 (by decide) ?_
      refine Zr_aload_n C dX3_answer_6 rfl ?_
      refine Zr_iload_n C dX3_answer_7 rfl ?_
      refine Zr_callV C cw_X3_54 (k_X3_workerAt_t hB hR hj) cm0 rfl rfl rfl (Nat.le_of_ble_eq_true rfl) (Nat.le_of_ble_eq_true rfl) rfl (Nat.le_of_ble_eq_true rfl) dX3_answer_8 ⟨Nat.zero_le _, Nat.zero_le _⟩ ?_
      refine Zr_astore C dX3_answer_11 (by decide) ?_
      refine Zr_aload_nN C dX3_answer_13 rfl ?_
      refine Zr_ifnullN C 22 dX3_answer_14 (by decide) ?_
      refine Zr_iconst C (0) dX3_answer_22 rfl ?_
      exact Zr_zret C dX3_answer_23 (Nat.zero_le _) (Nat.zero_le _) (by first | exact Or.inl rfl | exact Or.inr rfl | assumption) ⟨rfl, rfl, rfl, rfl⟩
  · rcases aIx n hn y with h | ⟨j, hj, rfl⟩
    · refine Zr_aload_n C dX3_answer_0 rfl ?_
      refine Zr_iload_n C dX3_answer_1 rfl ?_
      refine Zr_callV C cw_X3_54 (k_X3_workerAt_t hB hR hi) cm0 rfl rfl rfl (Nat.le_of_ble_eq_true rfl) (Nat.le_of_ble_eq_true rfl) rfl (Nat.le_of_ble_eq_true rfl) dX3_answer_2 ⟨Nat.zero_le _, Nat.zero_le _⟩ ?_
      refine Zr_astore_n C dX3_answer_5 (by decide) ?_
      refine Zr_aload_n C dX3_answer_6 rfl ?_
      refine Zr_iload_n C dX3_answer_7 rfl ?_
      refine Zr_callV C cw_X3_54 (k_X3_workerAt_f hB hR h) cm0 rfl rfl rfl (Nat.le_of_ble_eq_true rfl) (Nat.le_of_ble_eq_true rfl) rfl (Nat.le_of_ble_eq_true rfl) dX3_answer_8 ⟨Nat.zero_le _, Nat.zero_le _⟩ ?_
      refine Zr_astoreN C dX3_answer_11 (by decide) ?_
      refine Zr_aload_n C dX3_answer_13 rfl ?_
      refine Zr_ifnull C dX3_answer_14 ?_
      refine Zr_aloadN C dX3_answer_17 rfl ?_
      refine Zr_ifnonnullN C dX3_answer_19 ?_
      refine Zr_iconst C (0) dX3_answer_22 rfl ?_
      exact Zr_zret C dX3_answer_23 (Nat.zero_le _) (Nat.zero_le _) (by first | exact Or.inl rfl | exact Or.inr rfl | assumption) ⟨rfl, rfl, rfl, rfl⟩
    · have h : nI i = nI j := (hx.resolve_left (aBad.of hi hn)).resolve_left (aBad.of hj hn)
      have hij : i = j := (nI_eq (by omega) (by omega)).mp h
      subst hij
      have hpb := aBits_10 (f := fun q => σ.1 1 17 (10 * i + q) != 0) hn
      have hpt : (aBits (fun q => σ.1 1 17 (10 * i + q) != 0) n).testBit i = false := by rw [aBits_bit]; simp [(hO.dg i hi).2]
      by_cases hw : aWf σ n i = 0
      · refine Zr_aload_n C dX3_answer_0 rfl ?_
        refine Zr_iload_n C dX3_answer_1 rfl ?_
        refine Zr_callV C cw_X3_54 (k_X3_workerAt_t hB hR hi) cm0 rfl rfl rfl (Nat.le_of_ble_eq_true rfl) (Nat.le_of_ble_eq_true rfl) rfl (Nat.le_of_ble_eq_true rfl) dX3_answer_2 ⟨Nat.zero_le _, Nat.zero_le _⟩ ?_
        refine Zr_astore_n C dX3_answer_5 (by decide) ?_
        refine Zr_aload_n C dX3_answer_6 rfl ?_
        refine Zr_iload_n C dX3_answer_7 rfl ?_
        refine Zr_callV C cw_X3_54 (k_X3_workerAt_t hB hR hi) cm0 rfl rfl rfl (Nat.le_of_ble_eq_true rfl) (Nat.le_of_ble_eq_true rfl) rfl (Nat.le_of_ble_eq_true rfl) dX3_answer_8 ⟨Nat.zero_le _, Nat.zero_le _⟩ ?_
        refine Zr_astore C dX3_answer_11 (by decide) ?_
        refine Zr_aload_n C dX3_answer_13 rfl ?_
        refine Zr_ifnull C dX3_answer_14 ?_
        refine Zr_aload C dX3_answer_17 rfl ?_
        refine Zr_ifnonnull C 24 dX3_answer_19 (by decide) ?_
        refine Zr_aload_n C dX3_answer_24 rfl ?_
        refine Zr_callV C cw_X3_104 (k_X2_isBlocked hn hR hi) (cm4 hi) rfl rfl rfl (Nat.le_of_ble_eq_true rfl) (Nat.le_of_ble_eq_true rfl) rfl (Nat.le_of_ble_eq_true rfl) dX3_answer_25 ⟨Nat.zero_le _, Nat.zero_le _⟩ ?_
        refine Zr_topi (y := 0) (if_pos hw) ?_
        refine Zr_if_ne C 42 dX3_answer_28 (by decide) (fun h28 => absurd rfl h28) (fun h28 => ?_)
        refine Zr_aload_n C dX3_answer_31 rfl ?_
        refine Zr_getE C gf_X3_107 (cm4 hi) rfl rfl rfl (hR.w hi).2.2.2.2.2.2.2.1 dX3_answer_32 ?_
        refine Zr_iload_n C dX3_answer_35 rfl ?_
        refine Zr_callS C cw_X3_110 (k_X3_holds hpb (by omega)) rfl (Nat.le_of_ble_eq_true rfl) (Nat.le_of_ble_eq_true rfl) rfl (Nat.le_of_ble_eq_true rfl) dX3_answer_36 ⟨Nat.zero_le _, Nat.zero_le _⟩ ?_
        refine Zr_topi (y := 0) (if_neg (by rw [hpt]; decide)) ?_
        refine Zr_if_ne C 44 dX3_answer_39 (by decide) (fun h39 => absurd rfl h39) (fun h39 => ?_)
        refine Zr_iconst C (0) dX3_answer_42 rfl ?_
        exact Zr_zret C dX3_answer_43 (Nat.zero_le _) (Nat.zero_le _) (by first | exact Or.inl rfl | exact Or.inr rfl | assumption) ⟨rfl, rfl, rfl, rfl⟩
      · refine Zr_aload_n C dX3_answer_0 rfl ?_
        refine Zr_iload_n C dX3_answer_1 rfl ?_
        refine Zr_callV C cw_X3_54 (k_X3_workerAt_t hB hR hi) cm0 rfl rfl rfl (Nat.le_of_ble_eq_true rfl) (Nat.le_of_ble_eq_true rfl) rfl (Nat.le_of_ble_eq_true rfl) dX3_answer_2 ⟨Nat.zero_le _, Nat.zero_le _⟩ ?_
        refine Zr_astore_n C dX3_answer_5 (by decide) ?_
        refine Zr_aload_n C dX3_answer_6 rfl ?_
        refine Zr_iload_n C dX3_answer_7 rfl ?_
        refine Zr_callV C cw_X3_54 (k_X3_workerAt_t hB hR hi) cm0 rfl rfl rfl (Nat.le_of_ble_eq_true rfl) (Nat.le_of_ble_eq_true rfl) rfl (Nat.le_of_ble_eq_true rfl) dX3_answer_8 ⟨Nat.zero_le _, Nat.zero_le _⟩ ?_
        refine Zr_astore C dX3_answer_11 (by decide) ?_
        refine Zr_aload_n C dX3_answer_13 rfl ?_
        refine Zr_ifnull C dX3_answer_14 ?_
        refine Zr_aload C dX3_answer_17 rfl ?_
        refine Zr_ifnonnull C 24 dX3_answer_19 (by decide) ?_
        refine Zr_aload_n C dX3_answer_24 rfl ?_
        refine Zr_callV C cw_X3_104 (k_X2_isBlocked hn hR hi) (cm4 hi) rfl rfl rfl (Nat.le_of_ble_eq_true rfl) (Nat.le_of_ble_eq_true rfl) rfl (Nat.le_of_ble_eq_true rfl) dX3_answer_25 ⟨Nat.zero_le _, Nat.zero_le _⟩ ?_
        refine Zr_topi (y := 1) (if_neg hw) ?_
        refine Zr_if_ne C 42 dX3_answer_28 (by decide) (fun h28 => ?_) (fun h28 => absurd h28 (by decide))
        refine Zr_iconst C (0) dX3_answer_42 rfl ?_
        exact Zr_zret C dX3_answer_43 (Nat.zero_le _) (Nat.zero_le _) (by first | exact Or.inl rfl | exact Or.inr rfl | assumption) ⟨rfl, rfl, rfl, rfl⟩
