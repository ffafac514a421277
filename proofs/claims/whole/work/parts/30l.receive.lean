/-- who is sent an ACK is owed one -/
def cAk (n : Nat) (σ : aS) : Prop := ∀ i j, i < n → j < n → (∃ m ∈ σ.2.1 (10 * i + j), m.1 = 2) → σ.1 1 10 j ≠ 0
theorem aTake_Q {n : Nat} {σ : aS} {i j : Nat} {m : aM} (h2 : m.1 ≠ 2) (hq : aQual σ j = false) : aQual (aTake n σ i j m) j = false := by
  rw [← hq]
  unfold aTake
  split
  · have h1 : aQual (aWork σ i j) j = false := by
      unfold aWork
      dsimp only
      split <;> simp [aQual, aN, aPush, z3]
    rw [h1, hq]
  · try rw [if_neg h2]
    split
    · refine aQual_of ?_ ?_ ?_ ?_ ?_ <;> simp [aN, z3]
    split
    · refine aQual_of ?_ ?_ ?_ ?_ ?_ <;> simp [aN, z3]
    split
    · refine aQual_of ?_ ?_ ?_ ?_ ?_ <;> simp [aN, z3]
    · unfold aProbed
      split
      · rfl
      split
      · unfold aDead
        dsimp only
        split <;> refine aQual_of ?_ ?_ ?_ ?_ ?_ <;> simp [aN, z3]
      split
      · refine aQual_of ?_ ?_ ?_ ?_ ?_ <;> simp [aN, aAll, z3]
      · rfl
theorem aTake_1 {n : Nat} {σ : aS} {i j : Nat} {m : aM} (h : m.1 = 1) : aTake n σ i j m = aWork σ i j := by simp [aTake, h]
theorem aTake_2 {n : Nat} {σ : aS} {i j : Nat} {m : aM} (h : m.1 = 2) : aTake n σ i j m = aN σ 1 10 j (σ.1 1 10 j - 1) := by simp [aTake, h]
theorem aTake_3 {n : Nat} {σ : aS} {i j : Nat} {m : aM} (h : m.1 = 3) : aTake n σ i j m = aN σ 1 13 j 1 := by simp [aTake, h]
theorem aTake_4 {n : Nat} {σ : aS} {i j : Nat} {m : aM} (h : m.1 = 4) : aTake n σ i j m = aN σ 1 17 (10 * j + i) 1 := by simp [aTake, h]
theorem aTake_5 {n : Nat} {σ : aS} {i j : Nat} {m : aM} (h : m.1 = 5) : aTake n σ i j m = aN (aN σ 1 16 (10 * j + i) 0) 1 30 (10 * j + i) 0 := by simp [aTake, h]
theorem aTake_6 {n : Nat} {σ : aS} {i j : Nat} {m : aM} (h : m.1 = 6) : aTake n σ i j m = aProbed n σ i j m.2.1.toNatClampNeg m.2.2 := by simp [aTake, h]
theorem aLam_N (σ : aS) (a b k : Nat) (v : Int32) : aLam (aN σ a b k v) = aLam σ := rfl
theorem aLam_T (σ : aS) (r : Nat) : aLam (aTail σ r) = aLam σ := rfl
theorem aLam_J {n : Nat} {σ : aS} : aLam (aJudge n σ) = aLam σ := by
  unfold aJudge
  split <;> rfl
theorem aLam_leave {n : Nat} {σ : aS} {i : Nat} (hi : i < 10) (hp : aQual σ i = true → i ≠ 0 → (σ.1 1 9 i).toNatClampNeg < 10) : aLam σ ≤ aLam (aLeave n σ i) := by
  unfold aLeave
  split
  · rename_i hq
    split
    · rw [aLam_J]; exact Nat.le_refl _
    · rename_i h0
      have := hp hq h0
      rw [aLam_N]
      exact aLam_push_le (by omega)
  · exact Nat.le_refl _
theorem aLam_take {n : Nat} {σ : aS} {i j : Nat} {m : aM} (hn : n ≤ 10) (hi : i < 10) (hj : j < 10) : aLam σ ≤ aLam (aTake n σ i j m) := by
  unfold aTake
  split
  · unfold aWork
    dsimp only
    split
    · exact aLam_push_le (σ := aN (aN (aN σ 1 8 j 1) 1 12 j 1) 1 11 j (σ.1 1 11 j - 1)) (by omega)
    · exact Nat.le_refl _
  split
  · exact Nat.le_refl _
  split
  · exact Nat.le_refl _
  split
  · exact Nat.le_refl _
  split
  · exact Nat.le_refl _
  · unfold aProbed
    split
    · exact Nat.le_refl _
    split
    · unfold aDead
      dsimp only
      split <;> exact Nat.le_refl _
    split
    · exact aLam_all0 (σ := aN σ 1 18 (10 * j + m.2.1.toNatClampNeg) m.2.2) hj hn
    · exact Nat.le_refl _
theorem aTree_9 {n : Nat} {σ : aS} (hS : aSafe n σ) {i : Nat} (hi : i < n) (h0 : i ≠ 0) (ht : σ.1 1 9 i ≠ -1) : (σ.1 1 9 i).toNatClampNeg < 10 := by
  obtain ⟨j, hj, -, e⟩ := hS.2.2.1 i hi h0 ht
  have := hS.1.2.2.1
  rw [e, nI_clamp (by omega)]
  omega
theorem aLam_recv {n : Nat} {σ : aS} (hS : aSafe n σ) {i j : Nat} (hi : i < n) (hj : j < n) : aLam σ ≤ aLam (fRecv n σ i j).2 := by
  have hn := hS.1.2.2.1
  unfold fRecv
  split
  · exact Nat.le_refl _
  · rename_i m0 tl hl
    refine Nat.le_trans (aLam_take (σ := aN (aTail σ (10 * i + j)) 0 0 6 (σ.1 0 0 6 + 1)) (i := i) (j := j) (m := m0) hn (by omega) (by omega)) (aLam_leave (by omega) (fun hq h0 => ?_))
    have h3 := aTake_P hq
    have h4 : (aTake n (aN (aTail σ (10 * i + j)) 0 0 6 (σ.1 0 0 6 + 1)) i j m0).1 1 9 j ≠ -1 := by
      have := (aQual_iff.mp hq).1
      simpa [aTree, h0] using this
    have h5 : (aN (aTail σ (10 * i + j)) 0 0 6 (σ.1 0 0 6 + 1)).1 1 9 j = σ.1 1 9 j := by simp [aN, aTail, z3]
    rw [h3, h5] at h4 ⊢
    exact aTree_9 hS hj h0 h4
theorem aLam_pass {n : Nat} {σ : aS} (hn : n ≤ 10) (hn2 : 2 ≤ n) {i : Nat} (hi : i < n) : aLam σ ≤ aLam (fPass n σ i).2 := by
  unfold fPass
  split
  · exact Nat.le_refl _
  split
  · exact aLam_push_le (σ := aN (aN (aN (aN σ 0 0 20 (σ.1 0 0 20 + σ.1 1 11 i)) 0 0 21 (if σ.1 0 0 21 ≠ 0 then 1 else if σ.1 1 12 i ≠ 0 then 1 else 0)) 1 12 i 0) 1 13 i 0) (by omega)
  split
  · show aLam σ ≤ aLam (aJudge n (aN σ 0 0 3 1))
    rw [aLam_J]; exact Nat.le_refl _
  · exact aLam_push_le (σ := aN (aN (aN (aN (aN σ 0 0 19 (σ.1 0 0 19 + 1)) 1 12 0 0) 0 0 21 0) 0 0 20 0) 1 13 0 0) (by omega)
set_option maxHeartbeats 1000000 in
set_option maxRecDepth 100000 in
theorem k_X3_receive {l : Launch} {D : va_G} {K : zKs} {n : Nat} {ad : zAd} {ca : Nat → Nat} {S : zSt} {σ : aS} (hO : cOK n σ) (hA : cAk n σ) (hR : cRel n σ S) {i j F : Nat} (hi : i < n) (hj : j < n) (hij : i ≠ j) (hF : aLam (fRecv n σ i j).2 ≤ F) : zMet l yX3_receive cX3_receive 6 (some .int) { frames := 5, cells := (F - aLam σ), slots := (2 * (F - aLam σ)), locals := 115 } D K (cIL n) (cSh K n (cpo n σ.2.2)) (zA ad ca) S [.ref (zA ad ca (0, 0)), .int (nI i), .int (nI j)] (cP K n ad (some (.int (fRecv n σ i j).1)) (fRecv n σ i j).2) := by
  refine zEnter (own := RX3) (lv0 := [some (.ref (zA ad ca (0, 0))), some (.int (nI i)), some (.int (nI j)), none, none, none]) (by decide) rfl (by simp [Value.category]) (Nat.le_of_ble_eq_true rfl) rfl ?_
  intro p e s m below meth c A C _ hnm
  have hB := hO.b
  have hn := hO.ten
  have hr := cRow_of hi hj hij
  have hcx := cix_of (n := n) (i := i) hj
  have e2 : S 6 (i * n + j) 2 = nI (σ.2.1 (10 * i + j)).length := by
    obtain ⟨b, hb⟩ := hR.r hr
    rw [hcx] at hb
    exact hb.2.2.2.2.1
  have hlen := hO.len (10 * i + j) (by omega)
  rcases hl : σ.2.1 (10 * i + j) with _ | ⟨m0, tl⟩
  · have ef : fRecv n σ i j = (-1, σ) := by simp only [fRecv, hl]
    refine Zr_aload_n C dX3_receive_0 rfl ?_
    refine Zr_iload_n C dX3_receive_1 rfl ?_
    refine Zr_iload_n C dX3_receive_2 rfl ?_
    refine Zr_callV C cw_X3_58 (k_X3_rowBetween_t hB hR hi hj hij) cm0 rfl rfl rfl (Nat.le_of_ble_eq_true rfl) (Nat.le_of_ble_eq_true rfl) rfl (Nat.le_of_ble_eq_true rfl) dX3_receive_3 ⟨Nat.zero_le _, Nat.zero_le _⟩ ?_
    refine Zr_astore_n C dX3_receive_6 (by decide) ?_
    refine Zr_aload_n C dX3_receive_7 rfl ?_
    refine Zr_iload_n C dX3_receive_8 rfl ?_
    refine Zr_callV C cw_X3_54 (k_X3_workerAt_t hB hR hj) cm0 rfl rfl rfl (Nat.le_of_ble_eq_true rfl) (Nat.le_of_ble_eq_true rfl) rfl (Nat.le_of_ble_eq_true rfl) dX3_receive_9 ⟨Nat.zero_le _, Nat.zero_le _⟩ ?_
    refine Zr_astore C dX3_receive_12 (by decide) ?_
    refine Zr_aload_n C dX3_receive_14 rfl ?_
    refine Zr_ifnull C dX3_receive_15 ?_
    refine Zr_aload C dX3_receive_18 rfl ?_
    refine Zr_ifnull C dX3_receive_20 ?_
    refine Zr_aload_n C dX3_receive_23 rfl ?_
    refine Zr_getE C gf_X3_153 (cm6 hr) rfl rfl rfl (e2.trans (by rw [hl]; rfl : _ = (0 : Int32))) dX3_receive_24 ?_
    refine Zr_if_ne C 32 dX3_receive_27 (by decide) (fun h27 => absurd rfl h27) (fun h27 => ?_)
    refine Zr_iconst C (-1) dX3_receive_30 rfl ?_
    exact Zr_iret C dX3_receive_31 (Nat.zero_le _) (Nat.zero_le _) (by rw [ef]; exact ⟨rfl, rfl, ⟨_, rfl⟩, hR⟩)
  · have ef : fRecv n σ i j = (m0.1, aLeave n (aTake n (aN (aTail σ (10 * i + j)) 0 0 6 (σ.1 0 0 6 + 1)) i j m0) j) := by simp only [fRecv, hl]
    have hlz : 0 < (σ.2.1 (10 * i + j)).length := by rw [hl]; simp
    have hm0 : m0 ∈ σ.2.1 (10 * i + j) := by rw [hl]; simp
    have hwm := hO.wm _ (by omega) m0 hm0
    have ek := cPack_kind hn hwm
    have hBs : aB n (aN (aTail σ (10 * i + j)) 0 0 6 (σ.1 0 0 6 + 1)) := (hB.t).g (by decide) (fun h => by omega)
    have hqs : aQual (aN (aTail σ (10 * i + j)) 0 0 6 (σ.1 0 0 6 + 1)) j = false := by
      rw [← hO.safe.2.1 j hj]
      refine aQual_of ?_ ?_ ?_ ?_ ?_ <;> simp [aN, aTail, z3]
    have hLs : ∀ r, r < 100 → ((aN (aTail σ (10 * i + j)) 0 0 6 (σ.1 0 0 6 + 1)).2.1 r).length < 640 := by
      intro r hr
      have := hO.len r hr
      simp only [aN, aTail]
      split
      · rename_i h; subst h; rw [List.length_tail]; omega
      · exact this
    have h2 : m0.1 ≠ 2 → fRecv n σ i j = (m0.1, aTake n (aN (aTail σ (10 * i + j)) 0 0 6 (σ.1 0 0 6 + 1)) i j m0) := fun h => by rw [ef, aLeave, if_neg (by rw [aTake_Q h hqs]; decide)]
    have mid : ∀ S, cRel n (aN (aTail σ (10 * i + j)) 0 0 6 (σ.1 0 0 6 + 1)) S → Z p l e ({ frames := 5, cells := (F - aLam σ), slots := (2 * (F - aLam σ)), locals := 115 } : Room) s m ([.ref (zA ad ca (0, 0)), .int (nI i), .int (nI j)] : List Value).toArray below meth c D A 6 (MQ below (zQ (cP K n ad (some (.int (fRecv n σ i j).1)) (fRecv n σ i j).2) (cIL n) D A) ([.ref (zA ad ca (0, 0)), .int (nI i), .int (nI j)] : List Value).toArray s (F - aLam σ) (2 * (F - aLam σ)) A) (cIL n) 0 0 (cSh K n (cpo n σ.2.2)) (zA ad ca) S (48) ([some (.ref (zA ad ca (0, 0))), some (.int (nI i)), some (.int (nI j)), some (.ref (zA ad ca (6, i * n + j))), some (.ref (zA ad ca (4, j))), some (.int (cPack m0))]) ([]) := by
      intro S hR
      have fin : ∀ (cb : Nat → Nat) (S : zSt) (τ : aS) (cl sl : Nat), fRecv n σ i j = (m0.1, τ) → cRel n τ S → cl ≤ F - aLam σ → sl ≤ 2 * (F - aLam σ) → Z p l e ({ frames := 5, cells := (F - aLam σ), slots := (2 * (F - aLam σ)), locals := 115 } : Room) s m ([.ref (zA ad ca (0, 0)), .int (nI i), .int (nI j)] : List Value).toArray below meth c D A 6 (MQ below (zQ (cP K n ad (some (.int (fRecv n σ i j).1)) (fRecv n σ i j).2) (cIL n) D A) ([.ref (zA ad ca (0, 0)), .int (nI i), .int (nI j)] : List Value).toArray s (F - aLam σ) (2 * (F - aLam σ)) A) (cIL n) cl sl (cSh K n (cpo n τ.2.2)) (zA ad cb) S (193) ([some (.ref (zA ad ca (0, 0))), some (.int (nI i)), some (.int (nI j)), some (.ref (zA ad ca (6, i * n + j))), some (.ref (zA ad ca (4, j))), some (.int (cPack m0))]) ([]) := by
        intro cb S τ cl sl hτ hR hcl hsl
        refine Zr_iload C dX3_receive_193 rfl ?_
        refine Zr_callS C cw_X3_163 (k_X3_kindOf) rfl (Nat.le_of_ble_eq_true rfl) (Nat.le_of_ble_eq_true rfl) rfl (Nat.le_of_ble_eq_true rfl) dX3_receive_195 ⟨hcl, hsl⟩ ?_
        refine Zr_topi (y := m0.1) ek ?_
        exact Zr_iret C dX3_receive_198 hcl hsl (by rw [hτ]; exact ⟨rfl, rfl, ⟨_, rfl⟩, hR⟩)
      rcases hwm with ⟨hk, hm2⟩ | ⟨hk, i6, hi6, hw6, u, hu, hu6⟩
      · rcases hk with hk | hk | hk | hk | hk
        · have ht : aTake n (aN (aTail σ (10 * i + j)) 0 0 6 (σ.1 0 0 6 + 1)) i j m0 = aWork (aN (aTail σ (10 * i + j)) 0 0 6 (σ.1 0 0 6 + 1)) i j := aTake_1 hk
          have hf := h2 (by rw [hk]; decide)
          rw [ht] at hf
          have hroot : j = 0 → aTree (aN (aN (aN (aN (aTail σ (10 * i + j)) 0 0 6 (σ.1 0 0 6 + 1)) 1 8 j 1) 1 12 j 1) 1 11 j ((aN (aTail σ (10 * i + j)) 0 0 6 (σ.1 0 0 6 + 1)).1 1 11 j - 1)) 0 = true := by
            intro h0
            have := hO.rt ⟨10 * i + j, m0, by omega, by omega, hm0, hk⟩
            simpa [aTree, aN, aTail, z3] using this
          refine Zr_iload C dX3_receive_48 rfl ?_
          refine Zr_callS C cw_X3_163 (k_X3_kindOf) rfl (Nat.le_of_ble_eq_true rfl) (Nat.le_of_ble_eq_true rfl) rfl (Nat.le_of_ble_eq_true rfl) dX3_receive_50 ⟨Nat.zero_le _, Nat.zero_le _⟩ ?_
          refine Zr_topi (y := 1) (ek.trans hk) ?_
          refine Zr_tableIn C 88 dX3_receive_53 (by decide) (by decide) rfl (by decide) ?_
          refine Zr_aload_n C dX3_receive_88 rfl ?_
          refine Zr_iload_n C dX3_receive_89 rfl ?_
          refine Zr_iload_n C dX3_receive_90 rfl ?_
          refine Zr_aload C dX3_receive_91 rfl ?_
          refine Zr_callVCv C cw_X3_166 (k_X3_takeWork (σ := (aN (aTail σ (10 * i + j)) 0 0 6 (σ.1 0 0 6 + 1))) hBs hR hi hj hij (hLs _ (by omega)) hroot (by rw [hf] at hF; exact hF)) cm0 rfl rfl rfl (Nat.le_of_ble_eq_true rfl) (Nat.le_of_ble_eq_true rfl) rfl (Nat.le_of_ble_eq_true rfl) dX3_receive_93 ⟨by show 0 + (F - aLam σ) ≤ F - aLam σ; omega, by show 0 + 2 * (F - aLam σ) ≤ 2 * (F - aLam σ); omega⟩ (fun ca S hR => ?_)
          refine Zr_goto C 193 dX3_receive_96 (by decide) ?_
          exact Zr_cs (Nat.zero_add _) (Nat.zero_add _) (fin ca S _ _ _ hf hR (Nat.le_refl _) (Nat.le_refl _))
        · obtain ⟨k, hk100, eow⟩ := hO.ow j hj
          have hk0 : 0 < k := by
            rcases Nat.eq_zero_or_pos k with h | h
            · exact absurd (by rw [eow, h]; rfl) (hA i j hi hj ⟨m0, hm0, hk⟩)
            · exact h
          have ht : aTake n (aN (aTail σ (10 * i + j)) 0 0 6 (σ.1 0 0 6 + 1)) i j m0 = aN (aN (aTail σ (10 * i + j)) 0 0 6 (σ.1 0 0 6 + 1)) 1 10 j ((aN (aTail σ (10 * i + j)) 0 0 6 (σ.1 0 0 6 + 1)).1 1 10 j - 1) := aTake_2 hk
          have hf : fRecv n σ i j = (m0.1, aLeave n (aN (aN (aTail σ (10 * i + j)) 0 0 6 (σ.1 0 0 6 + 1)) 1 10 j ((aN (aTail σ (10 * i + j)) 0 0 6 (σ.1 0 0 6 + 1)).1 1 10 j - 1)) j) := by rw [ef, ht]
          have hB2 : aB n (aN (aN (aTail σ (10 * i + j)) 0 0 6 (σ.1 0 0 6 + 1)) 1 10 j ((aN (aTail σ (10 * i + j)) 0 0 6 (σ.1 0 0 6 + 1)).1 1 10 j - 1)) := hBs.a (fun h => by omega)
          have hpar : aQual (aN (aN (aTail σ (10 * i + j)) 0 0 6 (σ.1 0 0 6 + 1)) 1 10 j ((aN (aTail σ (10 * i + j)) 0 0 6 (σ.1 0 0 6 + 1)).1 1 10 j - 1)) j = true → j ≠ 0 → ∃ q, q < n ∧ q ≠ j ∧ (aN (aN (aTail σ (10 * i + j)) 0 0 6 (σ.1 0 0 6 + 1)) 1 10 j ((aN (aTail σ (10 * i + j)) 0 0 6 (σ.1 0 0 6 + 1)).1 1 10 j - 1)).1 1 9 j = nI q := by
            intro h1 h0
            have h3 : aTree σ j = true := by simpa [aTree, h0, aN, aTail, z3] using (aQual_iff.mp h1).1
            obtain ⟨q, hq, hqj, hq2⟩ := hO.par hj h0 h3
            exact ⟨q, hq, hqj, by simpa [aN, aTail, z3] using hq2⟩
          have hge : ¬ (aN (aN (aTail σ (10 * i + j)) 0 0 6 (σ.1 0 0 6 + 1)) 1 10 j ((aN (aTail σ (10 * i + j)) 0 0 6 (σ.1 0 0 6 + 1)).1 1 10 j - 1)).1 1 10 j < 0 := by
            have e10 : (aN (aN (aTail σ (10 * i + j)) 0 0 6 (σ.1 0 0 6 + 1)) 1 10 j ((aN (aTail σ (10 * i + j)) 0 0 6 (σ.1 0 0 6 + 1)).1 1 10 j - 1)).1 1 10 j = nI (k - 1) := by simp [aN, aTail, z3, eow, nI_sub1 hk0]
            rw [e10]
            exact nI_pos (by omega)
          have hcq : cQ n (aN (aN (aTail σ (10 * i + j)) 0 0 6 (σ.1 0 0 6 + 1)) 1 10 j ((aN (aTail σ (10 * i + j)) 0 0 6 (σ.1 0 0 6 + 1)).1 1 10 j - 1)) := ⟨fun q hq => by
            have := hO.q.1 q hq
            have hne : ¬ 10 * q + q = 10 * i + j := by omega
            simpa [aN, aTail, hne] using this, hLs⟩
          refine Zr_iload C dX3_receive_48 rfl ?_
          refine Zr_callS C cw_X3_163 (k_X3_kindOf) rfl (Nat.le_of_ble_eq_true rfl) (Nat.le_of_ble_eq_true rfl) rfl (Nat.le_of_ble_eq_true rfl) dX3_receive_50 ⟨Nat.zero_le _, Nat.zero_le _⟩ ?_
          refine Zr_topi (y := 2) (ek.trans hk) ?_
          refine Zr_tableIn C 99 dX3_receive_53 (by decide) (by decide) rfl (by decide) ?_
          refine Zr_aload C dX3_receive_99 rfl ?_
          refine Zr_dup C dX3_receive_101 rfl ?_
          refine Zr_getE C gf_X3_71 (cm4 hj) rfl rfl rfl (hR.w hj).2.2.2.1 dX3_receive_102 ?_
          refine Zr_iconst C (1) dX3_receive_105 rfl ?_
          refine Zr_isub C dX3_receive_106 ?_
          refine Zr_putE C pf_X3_71 (cm4 hj) rfl rfl rfl (znI _) (cRw4 hR) dX3_receive_107 (fun S hR => ?_)
          refine Zr_aload_n C dX3_receive_110 rfl ?_
          refine Zr_iload_n C dX3_receive_111 rfl ?_
          refine Zr_aload C dX3_receive_112 rfl ?_
          refine Zr_callVCv C cw_X3_81 (k_X3_leaveTreeIfDone (σ := aN (aN (aTail σ (10 * i + j)) 0 0 6 (σ.1 0 0 6 + 1)) 1 10 j ((aN (aTail σ (10 * i + j)) 0 0 6 (σ.1 0 0 6 + 1)).1 1 10 j - 1)) hB2 hR hj hcq hge hpar (by rw [hf] at hF; exact hF)) cm0 rfl rfl rfl (Nat.le_of_ble_eq_true rfl) (Nat.le_of_ble_eq_true rfl) rfl (Nat.le_of_ble_eq_true rfl) dX3_receive_114 ⟨by show 0 + (F - aLam σ) ≤ F - aLam σ; omega, by show 0 + 2 * (F - aLam σ) ≤ 2 * (F - aLam σ); omega⟩ (fun ca S hR => ?_)
          refine Zr_goto C 193 dX3_receive_117 (by decide) ?_
          exact Zr_cs (Nat.zero_add _) (Nat.zero_add _) (fin ca S _ _ _ hf hR (Nat.le_refl _) (Nat.le_refl _))
        · have ht : aTake n (aN (aTail σ (10 * i + j)) 0 0 6 (σ.1 0 0 6 + 1)) i j m0 = aN (aN (aTail σ (10 * i + j)) 0 0 6 (σ.1 0 0 6 + 1)) 1 13 j 1 := aTake_3 hk
          have hf := h2 (by rw [hk]; decide)
          rw [ht] at hf
          have h13 := hO.tk ⟨10 * i + j, m0, by omega, hm0, hk⟩
          refine Zr_iload C dX3_receive_48 rfl ?_
          refine Zr_callS C cw_X3_163 (k_X3_kindOf) rfl (Nat.le_of_ble_eq_true rfl) (Nat.le_of_ble_eq_true rfl) rfl (Nat.le_of_ble_eq_true rfl) dX3_receive_50 ⟨Nat.zero_le _, Nat.zero_le _⟩ ?_
          refine Zr_topi (y := 3) (ek.trans hk) ?_
          refine Zr_tableIn C 120 dX3_receive_53 (by decide) (by decide) rfl (by decide) ?_
          refine Zr_aload_n C dX3_receive_120 rfl ?_
          refine Zr_getR C gf_X3_41 cm0 rfl rfl rfl (by simp) dX3_receive_121 ?_
          refine Zr_iload_n C dX3_receive_124 rfl ?_
          refine Zr_putE C pf_X3_126 cm3 rfl rfl rfl (znI _) (cRh1 hR hn hj (fun q hq => by simpa [aN, aTail, z3] using h13 q hq)) dX3_receive_125 (fun S hR => ?_)
          refine Zr_goto C 193 dX3_receive_128 (by decide) ?_
          exact fin ca S (aN (aN (aTail σ (10 * i + j)) 0 0 6 (σ.1 0 0 6 + 1)) 1 13 j 1) 0 0 hf hR (Nat.zero_le _) (Nat.zero_le _)
        · have ht : aTake n (aN (aTail σ (10 * i + j)) 0 0 6 (σ.1 0 0 6 + 1)) i j m0 = aN (aN (aTail σ (10 * i + j)) 0 0 6 (σ.1 0 0 6 + 1)) 1 17 (10 * j + i) 1 := aTake_4 hk
          have hf := h2 (by rw [hk]; decide)
          rw [ht] at hf
          refine Zr_iload C dX3_receive_48 rfl ?_
          refine Zr_callS C cw_X3_163 (k_X3_kindOf) rfl (Nat.le_of_ble_eq_true rfl) (Nat.le_of_ble_eq_true rfl) rfl (Nat.le_of_ble_eq_true rfl) dX3_receive_50 ⟨Nat.zero_le _, Nat.zero_le _⟩ ?_
          refine Zr_topi (y := 4) (ek.trans hk) ?_
          refine Zr_tableIn C 131 dX3_receive_53 (by decide) (by decide) rfl (by decide) ?_
          refine Zr_aload C dX3_receive_131 rfl ?_
          refine Zr_dup C dX3_receive_133 rfl ?_
          refine Zr_getE C gf_X3_107 (cm4 hj) rfl rfl rfl (hR.w hj).2.2.2.2.2.2.2.1 dX3_receive_134 ?_
          refine Zr_iload_n C dX3_receive_137 rfl ?_
          refine Zr_callS C cw_X3_89 (k_X3_bitOf) rfl (Nat.le_of_ble_eq_true rfl) (Nat.le_of_ble_eq_true rfl) rfl (Nat.le_of_ble_eq_true rfl) dX3_receive_138 ⟨Nat.zero_le _, Nat.zero_le _⟩ ?_
          refine Zr_ior C dX3_receive_141 ?_
          refine Zr_putE C pf_X3_107 (cm4 hj) rfl rfl rfl (znI _) (cRw8 (v := 1) hR hn hj hi (by rw [c_set hn hi, c_bits1 (v := 1) (by decide)])) dX3_receive_142 (fun S hR => ?_)
          refine Zr_goto C 193 dX3_receive_145 (by decide) ?_
          exact fin ca S (aN (aN (aTail σ (10 * i + j)) 0 0 6 (σ.1 0 0 6 + 1)) 1 17 (10 * j + i) 1) 0 0 hf hR (Nat.zero_le _) (Nat.zero_le _)
        · have ht : aTake n (aN (aTail σ (10 * i + j)) 0 0 6 (σ.1 0 0 6 + 1)) i j m0 = aN (aN (aN (aTail σ (10 * i + j)) 0 0 6 (σ.1 0 0 6 + 1)) 1 16 (10 * j + i) 0) 1 30 (10 * j + i) 0 := aTake_5 hk
          have hf := h2 (by rw [hk]; decide)
          rw [ht] at hf
          refine Zr_iload C dX3_receive_48 rfl ?_
          refine Zr_callS C cw_X3_163 (k_X3_kindOf) rfl (Nat.le_of_ble_eq_true rfl) (Nat.le_of_ble_eq_true rfl) rfl (Nat.le_of_ble_eq_true rfl) dX3_receive_50 ⟨Nat.zero_le _, Nat.zero_le _⟩ ?_
          refine Zr_topi (y := 5) (ek.trans hk) ?_
          refine Zr_tableIn C 148 dX3_receive_53 (by decide) (by decide) rfl (by decide) ?_
          refine Zr_aload C dX3_receive_148 rfl ?_
          refine Zr_dup C dX3_receive_150 rfl ?_
          refine Zr_getE C gf_X3_92 (cm4 hj) rfl rfl rfl (hR.w hj).2.2.2.2.2.1 dX3_receive_151 ?_
          refine Zr_iload_n C dX3_receive_154 rfl ?_
          refine Zr_callS C cw_X3_89 (k_X3_bitOf) rfl (Nat.le_of_ble_eq_true rfl) (Nat.le_of_ble_eq_true rfl) rfl (Nat.le_of_ble_eq_true rfl) dX3_receive_155 ⟨Nat.zero_le _, Nat.zero_le _⟩ ?_
          refine Zr_iconst C (-1) dX3_receive_158 rfl ?_
          refine Zr_ixor C dX3_receive_159 ?_
          refine Zr_iand C dX3_receive_160 ?_
          refine Zr_putE C pf_X3_92 (cm4 hj) rfl rfl rfl (znI _) (cRw6 (v := 0) hR hn hj hi (by rw [c_clr hn hi, c_bits0])) dX3_receive_161 (fun S hR => ?_)
          refine Zr_aload C dX3_receive_164 rfl ?_
          refine Zr_dup C dX3_receive_166 rfl ?_
          refine Zr_getE C gf_X3_114 (cm4 hj) rfl rfl rfl (hR.w hj).2.2.2.2.2.2.1 dX3_receive_167 ?_
          refine Zr_iload_n C dX3_receive_170 rfl ?_
          refine Zr_callS C cw_X3_89 (k_X3_bitOf) rfl (Nat.le_of_ble_eq_true rfl) (Nat.le_of_ble_eq_true rfl) rfl (Nat.le_of_ble_eq_true rfl) dX3_receive_171 ⟨Nat.zero_le _, Nat.zero_le _⟩ ?_
          refine Zr_iconst C (-1) dX3_receive_174 rfl ?_
          refine Zr_ixor C dX3_receive_175 ?_
          refine Zr_iand C dX3_receive_176 ?_
          refine Zr_putE C pf_X3_114 (cm4 hj) rfl rfl rfl (znI _) (cRw7 (v := 0) hR hn hj hi (by rw [c_clr hn hi, c_bits0])) dX3_receive_177 (fun S hR => ?_)
          refine Zr_goto C 193 dX3_receive_180 (by decide) ?_
          exact fin ca S (aN (aN (aN (aTail σ (10 * i + j)) 0 0 6 (σ.1 0 0 6 + 1)) 1 16 (10 * j + i) 0) 1 30 (10 * j + i) 0) 0 0 hf hR (Nat.zero_le _) (Nat.zero_le _)
      · have em : m0 = (6, nI i6, nI u) := Prod.ext hk (Prod.ext hw6 hu6)
        have ht : aTake n (aN (aTail σ (10 * i + j)) 0 0 6 (σ.1 0 0 6 + 1)) i j m0 = aProbed n (aN (aTail σ (10 * i + j)) 0 0 6 (σ.1 0 0 6 + 1)) i j i6 (nI u) := by
          rw [aTake_6 hk, hw6, hu6, nI_clamp (by omega)]
        have hf := h2 (by rw [hk]; decide)
        rw [ht] at hf
        have hrp : cRp n (aN (aTail σ (10 * i + j)) 0 0 6 (σ.1 0 0 6 + 1)) := by
          intro a ha q hq
          have := hO.rp a ha q hq
          have e5 : aOf 5 ((aN (aTail σ (10 * i + j)) 0 0 6 (σ.1 0 0 6 + 1)).2.1 (10 * q + a)) = aOf 5 (σ.2.1 (10 * q + a)) := by
            simp only [aN, aTail]
            split
            · rename_i h
              rw [h, hl, List.tail_cons, aOf_cons, hk, if_neg (by decide)]
              rfl
            · rfl
          rw [e5]
          simpa [aN, aTail, z3] using this
        refine Zr_iload C dX3_receive_48 rfl ?_
        refine Zr_callS C cw_X3_163 (k_X3_kindOf) rfl (Nat.le_of_ble_eq_true rfl) (Nat.le_of_ble_eq_true rfl) rfl (Nat.le_of_ble_eq_true rfl) dX3_receive_50 ⟨Nat.zero_le _, Nat.zero_le _⟩ ?_
        refine Zr_topi (y := 6) (ek.trans hk) ?_
        refine Zr_tableOut C 183 dX3_receive_53 (Or.inr (by decide)) (by decide) ?_
        refine Zr_aload_n C dX3_receive_183 rfl ?_
        refine Zr_iload_n C dX3_receive_184 rfl ?_
        refine Zr_iload_n C dX3_receive_185 rfl ?_
        refine Zr_aload C dX3_receive_186 rfl ?_
        refine Zr_iload C dX3_receive_188 rfl ?_
        refine Zr_topi (y := cPack (6, nI i6, nI u)) (by rw [em]) ?_
        refine Zr_callVCv C cw_X3_170 (k_X3_takeProbe (σ := (aN (aTail σ (10 * i + j)) 0 0 6 (σ.1 0 0 6 + 1))) hBs hR hi hj hi6 hu hrp (by simpa [aN, aTail, z3] using (hO.dg j hj).1) hLs (by rw [hf] at hF; exact hF)) cm0 rfl rfl rfl (Nat.le_of_ble_eq_true rfl) (Nat.le_of_ble_eq_true rfl) rfl (Nat.le_of_ble_eq_true rfl) dX3_receive_190 ⟨by show 0 + (F - aLam σ) ≤ F - aLam σ; omega, by show 0 + 2 * (F - aLam σ) ≤ 2 * (F - aLam σ); omega⟩ (fun ca S hR => ?_)
        exact Zr_cs (Nat.zero_add _) (Nat.zero_add _) (fin ca S _ _ _ hf hR (Nat.le_refl _) (Nat.le_refl _))
    refine Zr_aload_n C dX3_receive_0 rfl ?_
    refine Zr_iload_n C dX3_receive_1 rfl ?_
    refine Zr_iload_n C dX3_receive_2 rfl ?_
    refine Zr_callV C cw_X3_58 (k_X3_rowBetween_t hB hR hi hj hij) cm0 rfl rfl rfl (Nat.le_of_ble_eq_true rfl) (Nat.le_of_ble_eq_true rfl) rfl (Nat.le_of_ble_eq_true rfl) dX3_receive_3 ⟨Nat.zero_le _, Nat.zero_le _⟩ ?_
    refine Zr_astore_n C dX3_receive_6 (by decide) ?_
    refine Zr_aload_n C dX3_receive_7 rfl ?_
    refine Zr_iload_n C dX3_receive_8 rfl ?_
    refine Zr_callV C cw_X3_54 (k_X3_workerAt_t hB hR hj) cm0 rfl rfl rfl (Nat.le_of_ble_eq_true rfl) (Nat.le_of_ble_eq_true rfl) rfl (Nat.le_of_ble_eq_true rfl) dX3_receive_9 ⟨Nat.zero_le _, Nat.zero_le _⟩ ?_
    refine Zr_astore C dX3_receive_12 (by decide) ?_
    refine Zr_aload_n C dX3_receive_14 rfl ?_
    refine Zr_ifnull C dX3_receive_15 ?_
    refine Zr_aload C dX3_receive_18 rfl ?_
    refine Zr_ifnull C dX3_receive_20 ?_
    refine Zr_aload_n C dX3_receive_23 rfl ?_
    refine Zr_getE C gf_X3_153 (cm6 hr) rfl rfl rfl e2 dX3_receive_24 ?_
    refine Zr_if_ne C 32 dX3_receive_27 (by decide) (fun h27 => ?_) (fun h27 => absurd h27 (nI_ne0 hlz (by omega)))
    refine Zr_aload_n C dX3_receive_32 rfl ?_
    refine Zr_callVR C cw_X3_156 (k_X0_takeFirst hn hR hr (by rw [hcx]; exact hl) hwm) (cm6 hr) rfl rfl rfl (Nat.le_of_ble_eq_true rfl) (Nat.le_of_ble_eq_true rfl) rfl (Nat.le_of_ble_eq_true rfl) dX3_receive_33 ⟨Nat.zero_le _, Nat.zero_le _⟩ (fun S hR => ?_)
    rw [hcx] at hR
    refine Zr_istore C dX3_receive_36 (by decide) ?_
    refine Zr_aload_n C dX3_receive_38 rfl ?_
    refine Zr_dup C dX3_receive_39 rfl ?_
    refine Zr_getE C gf_X3_160 cm0 rfl rfl rfl hR.1.2.2.2.2.2.2.2 dX3_receive_40 ?_
    refine Zr_iconst C (1) dX3_receive_43 rfl ?_
    refine Zr_iadd C dX3_receive_44 ?_
    refine Zr_putE C pf_X3_160 cm0 rfl rfl rfl (znI _) (cRm10 hR) dX3_receive_45 (fun S hR => ?_)
    exact mid S hR
set_option maxHeartbeats 1000000 in
set_option maxRecDepth 100000 in
theorem k_X3_receive_f {l : Launch} {D : va_G} {K : zKs} {n : Nat} {ad : zAd} {ca : Nat → Nat} {S : zSt} {σ : aS} (hB : aB n σ) (hR : cRel n σ S) {x y : Int32} (hx : aBad n x ∨ aBad n y ∨ x = y) : zMet l yX3_receive cX3_receive 6 (some .int) { frames := 5, cells := 0, slots := 0, locals := 115 } D K (cIL n) (cSh K n (cpo n σ.2.2)) (zA ad ca) S [.ref (zA ad ca (0, 0)), .int x, .int y] (zEq (some (.int (-1))) (cSh K n (cpo n σ.2.2)) (zA ad ca) (S)) := by
  refine zEnter (own := RX3) (lv0 := [some (.ref (zA ad ca (0, 0))), some (.int x), some (.int y), none, none, none]) (by decide) rfl (by simp [Value.category]) (Nat.le_of_ble_eq_true rfl) rfl ?_
  intro p e s m below meth c A C _ hnm
  have hn := hB.2.2.1
  rcases aIx n hn y with h2 | ⟨j, hj, rfl⟩
  · refine Zr_aload_n C dX3_receive_0 rfl ?_
    refine Zr_iload_n C dX3_receive_1 rfl ?_
    refine Zr_iload_n C dX3_receive_2 rfl ?_
    refine Zr_callV C cw_X3_58 (k_X3_rowBetween_f hB hR (Or.inr h2)) cm0 rfl rfl rfl (Nat.le_of_ble_eq_true rfl) (Nat.le_of_ble_eq_true rfl) rfl (Nat.le_of_ble_eq_true rfl) dX3_receive_3 ⟨Nat.zero_le _, Nat.zero_le _⟩ ?_
    refine Zr_astore_nN C dX3_receive_6 (by decide) ?_
    refine Zr_aload_n C dX3_receive_7 rfl ?_
    refine Zr_iload_n C dX3_receive_8 rfl ?_
    refine Zr_callV C cw_X3_54 (k_X3_workerAt_f hB hR h2) cm0 rfl rfl rfl (Nat.le_of_ble_eq_true rfl) (Nat.le_of_ble_eq_true rfl) rfl (Nat.le_of_ble_eq_true rfl) dX3_receive_9 ⟨Nat.zero_le _, Nat.zero_le _⟩ ?_
    refine Zr_astoreN C dX3_receive_12 (by decide) ?_
    refine Zr_aload_nN C dX3_receive_14 rfl ?_
    refine Zr_ifnullN C 30 dX3_receive_15 (by decide) ?_
    refine Zr_iconst C (-1) dX3_receive_30 rfl ?_
    exact Zr_iret C dX3_receive_31 (Nat.zero_le _) (Nat.zero_le _) ⟨rfl, rfl, rfl, rfl⟩
  · rcases aIx n hn x with h | ⟨i, hi, rfl⟩
    · refine Zr_aload_n C dX3_receive_0 rfl ?_
      refine Zr_iload_n C dX3_receive_1 rfl ?_
      refine Zr_iload_n C dX3_receive_2 rfl ?_
      refine Zr_callV C cw_X3_58 (k_X3_rowBetween_f hB hR (Or.inl h)) cm0 rfl rfl rfl (Nat.le_of_ble_eq_true rfl) (Nat.le_of_ble_eq_true rfl) rfl (Nat.le_of_ble_eq_true rfl) dX3_receive_3 ⟨Nat.zero_le _, Nat.zero_le _⟩ ?_
      refine Zr_astore_nN C dX3_receive_6 (by decide) ?_
      refine Zr_aload_n C dX3_receive_7 rfl ?_
      refine Zr_iload_n C dX3_receive_8 rfl ?_
      refine Zr_callV C cw_X3_54 (k_X3_workerAt_t hB hR hj) cm0 rfl rfl rfl (Nat.le_of_ble_eq_true rfl) (Nat.le_of_ble_eq_true rfl) rfl (Nat.le_of_ble_eq_true rfl) dX3_receive_9 ⟨Nat.zero_le _, Nat.zero_le _⟩ ?_
      refine Zr_astore C dX3_receive_12 (by decide) ?_
      refine Zr_aload_nN C dX3_receive_14 rfl ?_
      refine Zr_ifnullN C 30 dX3_receive_15 (by decide) ?_
      refine Zr_iconst C (-1) dX3_receive_30 rfl ?_
      exact Zr_iret C dX3_receive_31 (Nat.zero_le _) (Nat.zero_le _) ⟨rfl, rfl, rfl, rfl⟩
    · have h : nI i = nI j := (hx.resolve_left (aBad.of hi hn)).resolve_left (aBad.of hj hn)
      have hij : i = j := (nI_eq (by omega) (by omega)).mp h
      subst hij
      refine Zr_aload_n C dX3_receive_0 rfl ?_
      refine Zr_iload_n C dX3_receive_1 rfl ?_
      refine Zr_iload_n C dX3_receive_2 rfl ?_
      refine Zr_callV C cw_X3_58 (k_X3_rowBetween_d hB hR hi) cm0 rfl rfl rfl (Nat.le_of_ble_eq_true rfl) (Nat.le_of_ble_eq_true rfl) rfl (Nat.le_of_ble_eq_true rfl) dX3_receive_3 ⟨Nat.zero_le _, Nat.zero_le _⟩ ?_
      refine Zr_astore_nN C dX3_receive_6 (by decide) ?_
      refine Zr_aload_n C dX3_receive_7 rfl ?_
      refine Zr_iload_n C dX3_receive_8 rfl ?_
      refine Zr_callV C cw_X3_54 (k_X3_workerAt_t hB hR hi) cm0 rfl rfl rfl (Nat.le_of_ble_eq_true rfl) (Nat.le_of_ble_eq_true rfl) rfl (Nat.le_of_ble_eq_true rfl) dX3_receive_9 ⟨Nat.zero_le _, Nat.zero_le _⟩ ?_
      refine Zr_astore C dX3_receive_12 (by decide) ?_
      refine Zr_aload_nN C dX3_receive_14 rfl ?_
      refine Zr_ifnullN C 30 dX3_receive_15 (by decide) ?_
      refine Zr_iconst C (-1) dX3_receive_30 rfl ?_
      exact Zr_iret C dX3_receive_31 (Nat.zero_le _) (Nat.zero_le _) ⟨rfl, rfl, rfl, rfl⟩
