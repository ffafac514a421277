set_option maxHeartbeats 4000000 in
set_option maxRecDepth 100000 in
theorem k_X4_probed {l : Launch} {D : va_G} {K : zKs} {ad : zAd} {S : zSt} {σ : aS} {n j k i : Nat} {num : Int32} (hB : aB n σ) (hR : rRel σ S) (hj : j < n) (hk : k < n) (hi : i < n) (hL : ∀ r, r < 100 → (σ.2.1 r).length < 640) : zMet l yX4_probed cX4_probed 5 none { frames := 3, cells := 0, slots := 0, locals := 72 } D K rIL (rSh K) ad S [.ref (ad (0, 0)), .int (nI j), .int (nI k), .int (nI i), .int num] (zR none (rSh K) ad (rRel (aProbed n σ j k i num))) := by
  refine zEnter (own := RX4) (lv0 := [some (.ref (ad (0, 0))), some (.int (nI j)), some (.int (nI k)), some (.int (nI i)), some (.int num)]) (by decide) rfl (by simp [Value.category]) (Nat.le_of_ble_eq_true rfl) rfl ?_
  intro p e s m below meth c A C _ hnm
  have hn := hB.2.2.1
  by_cases hw : aWf σ n k = 0
  · refine Zr_aload_n C dX4_probed_0 rfl ?_
    refine Zr_iload_n C dX4_probed_1 rfl ?_
    refine Zr_callV C cw_X4_76 (k_X4_isBlocked hB hR hk) qm0 rfl rfl rfl (Nat.le_of_ble_eq_true rfl) (Nat.le_of_ble_eq_true rfl) rfl (Nat.le_of_ble_eq_true rfl) dX4_probed_2 ⟨Nat.zero_le _, Nat.zero_le _⟩ ?_
    refine Zr_topi (y := 0) (if_pos hw) ?_
    refine Zr_if_eq C 21 dX4_probed_5 (by decide) (fun h5 => ?_) (fun h5 => absurd rfl h5)
    exact Zr_vret C dX4_probed_21 (Nat.zero_le _) (Nat.zero_le _) ⟨rfl, rfl, rfl, by rw [aProbed, if_pos (Or.inl hw)]; exact hR⟩
  · by_cases hki : k = i
    · subst hki
      have hB2 : aB n (aN (aN σ 1 14 k (σ.1 1 14 k + 1)) 0 0 7 (σ.1 0 0 7 + 1)) := (hB.a (fun h => by omega)).g (by decide) (fun h => by omega)
      refine Zr_aload_n C dX4_probed_0 rfl ?_
      refine Zr_iload_n C dX4_probed_1 rfl ?_
      refine Zr_callV C cw_X4_76 (k_X4_isBlocked hB hR hk) qm0 rfl rfl rfl (Nat.le_of_ble_eq_true rfl) (Nat.le_of_ble_eq_true rfl) rfl (Nat.le_of_ble_eq_true rfl) dX4_probed_2 ⟨Nat.zero_le _, Nat.zero_le _⟩ ?_
      refine Zr_topi (y := 1) (if_neg hw) ?_
      refine Zr_if_eq C 21 dX4_probed_5 (by decide) (fun h5 => absurd h5 (by decide)) (fun h5 => ?_)
      refine Zr_aload_n C dX4_probed_8 rfl ?_
      refine Zr_getR C gf_X4_38 qm0 rfl rfl rfl (by decide) dX4_probed_9 ?_
      refine Zr_iload_n C dX4_probed_12 rfl ?_
      refine Zr_iload_n C dX4_probed_13 rfl ?_
      refine Zr_callS C cw_X4_68 (k_X4_row (i := k) (j := j)) rfl (Nat.le_of_ble_eq_true rfl) (Nat.le_of_ble_eq_true rfl) rfl (Nat.le_of_ble_eq_true rfl) dX4_probed_14 ⟨Nat.zero_le _, Nat.zero_le _⟩ ?_
      refine Zr_zaldN C qm_17 rfl rfl (by omega) (by decide) (ra hR (by decide)) dX4_probed_17 ?_
      refine Zr_if_ne C 22 dX4_probed_18 (by decide) (fun h18 => ?_) (fun h18 => ?_)
      · refine Zr_iload_n C dX4_probed_22 rfl ?_
        refine Zr_iload_n C dX4_probed_23 rfl ?_
        refine Zr_icmp_ne C 68 dX4_probed_24 (by decide) (fun h24 => absurd rfl h24) (fun h24 => ?_)
        refine Zr_aload_n C dX4_probed_27 rfl ?_
        refine Zr_getR C gf_X4_29 qm0 rfl rfl rfl (by decide) dX4_probed_28 ?_
        refine Zr_iload_n C dX4_probed_31 rfl ?_
        refine Zr_dup2 C dX4_probed_32 rfl rfl ?_
        refine Zr_ialdN C qm_14 rfl rfl (by omega) (by decide) (ra hR (by decide)) dX4_probed_33 ?_
        refine Zr_iconst C (1) dX4_probed_34 rfl ?_
        refine Zr_iadd C dX4_probed_35 ?_
        refine Zr_iastN C qm_14 rfl rfl (by omega) (by decide) (rRa hR (by decide)) dX4_probed_36 (fun S hR => ?_)
        refine Zr_aload_n C dX4_probed_37 rfl ?_
        refine Zr_dup C dX4_probed_38 rfl ?_
        refine Zr_getE C gf_X4_132 qm0 rfl rfl rfl (rg hR) dX4_probed_39 ?_
        refine Zr_iconst C (1) dX4_probed_42 rfl ?_
        refine Zr_iadd C dX4_probed_43 ?_
        refine Zr_putE C pf_X4_132 qm0 rfl rfl rfl (znI _) (rRg hR) dX4_probed_44 (fun S hR => ?_)
        refine Zr_aload_n C dX4_probed_47 rfl ?_
        refine Zr_iload_n C dX4_probed_48 rfl ?_
        refine Zr_callVR C cw_X4_135 (k_X4_isInRing hB2 hR hk) qm0 rfl rfl rfl (Nat.le_of_ble_eq_true rfl) (Nat.le_of_ble_eq_true rfl) rfl (Nat.le_of_ble_eq_true rfl) dX4_probed_49 ⟨Nat.zero_le _, Nat.zero_le _⟩ (fun S hR => ?_)
        refine Zr_if_ne C 103 dX4_probed_52 (by decide) (fun h52 => ?_) (fun h52 => ?_)
        · exact Zr_vret C dX4_probed_103 (Nat.zero_le _) (Nat.zero_le _) ⟨rfl, rfl, rfl, by rw [aProbed, if_neg (fun h => h.elim hw h18), if_pos rfl, aDead]; first | (rw [if_neg h52]; exact hR) | (rw [if_pos h52]; exact hR)⟩
        · refine Zr_aload_n C dX4_probed_55 rfl ?_
          refine Zr_dup C dX4_probed_56 rfl ?_
          refine Zr_getE C gf_X4_138 qm0 rfl rfl rfl (rg hR) dX4_probed_57 ?_
          refine Zr_iconst C (1) dX4_probed_60 rfl ?_
          refine Zr_iadd C dX4_probed_61 ?_
          refine Zr_putE C pf_X4_138 qm0 rfl rfl rfl (znI _) (rRg hR) dX4_probed_62 (fun S hR => ?_)
          refine Zr_goto C 103 dX4_probed_65 (by decide) ?_
          exact Zr_vret C dX4_probed_103 (Nat.zero_le _) (Nat.zero_le _) ⟨rfl, rfl, rfl, by rw [aProbed, if_neg (fun h => h.elim hw h18), if_pos rfl, aDead]; first | (rw [if_neg h52]; exact hR) | (rw [if_pos h52]; exact hR)⟩
      · exact Zr_vret C dX4_probed_21 (Nat.zero_le _) (Nat.zero_le _) ⟨rfl, rfl, rfl, by rw [aProbed, if_pos (Or.inr h18)]; exact hR⟩
    · have hB2 : aB n (aN σ 1 18 (10 * k + i) num) := hB.a (fun h => by omega)
      refine Zr_aload_n C dX4_probed_0 rfl ?_
      refine Zr_iload_n C dX4_probed_1 rfl ?_
      refine Zr_callV C cw_X4_76 (k_X4_isBlocked hB hR hk) qm0 rfl rfl rfl (Nat.le_of_ble_eq_true rfl) (Nat.le_of_ble_eq_true rfl) rfl (Nat.le_of_ble_eq_true rfl) dX4_probed_2 ⟨Nat.zero_le _, Nat.zero_le _⟩ ?_
      refine Zr_topi (y := 1) (if_neg hw) ?_
      refine Zr_if_eq C 21 dX4_probed_5 (by decide) (fun h5 => absurd h5 (by decide)) (fun h5 => ?_)
      refine Zr_aload_n C dX4_probed_8 rfl ?_
      refine Zr_getR C gf_X4_38 qm0 rfl rfl rfl (by decide) dX4_probed_9 ?_
      refine Zr_iload_n C dX4_probed_12 rfl ?_
      refine Zr_iload_n C dX4_probed_13 rfl ?_
      refine Zr_callS C cw_X4_68 (k_X4_row (i := k) (j := j)) rfl (Nat.le_of_ble_eq_true rfl) (Nat.le_of_ble_eq_true rfl) rfl (Nat.le_of_ble_eq_true rfl) dX4_probed_14 ⟨Nat.zero_le _, Nat.zero_le _⟩ ?_
      refine Zr_zaldN C qm_17 rfl rfl (by omega) (by decide) (ra hR (by decide)) dX4_probed_17 ?_
      refine Zr_if_ne C 22 dX4_probed_18 (by decide) (fun h18 => ?_) (fun h18 => ?_)
      · refine Zr_iload_n C dX4_probed_22 rfl ?_
        refine Zr_iload_n C dX4_probed_23 rfl ?_
        refine Zr_icmp_ne C 68 dX4_probed_24 (by decide) (fun h24 => ?_) (fun h24 => absurd (congrArg nI (show k = i from (nI_eq (by omega) (by omega)).mp h24)) (fun h => hki ((nI_eq (by omega) (by omega)).mp h)))
        refine Zr_iload C dX4_probed_68 rfl ?_
        refine Zr_aload_n C dX4_probed_70 rfl ?_
        refine Zr_getR C gf_X4_41 qm0 rfl rfl rfl (by decide) dX4_probed_71 ?_
        refine Zr_iload_n C dX4_probed_74 rfl ?_
        refine Zr_iload_n C dX4_probed_75 rfl ?_
        refine Zr_callS C cw_X4_68 (k_X4_row (i := k) (j := i)) rfl (Nat.le_of_ble_eq_true rfl) (Nat.le_of_ble_eq_true rfl) rfl (Nat.le_of_ble_eq_true rfl) dX4_probed_76 ⟨Nat.zero_le _, Nat.zero_le _⟩ ?_
        refine Zr_ialdN C qm_18 rfl rfl (by omega) (by decide) (ra hR (by decide)) dX4_probed_79 ?_
        refine Zr_icmp_le C 103 dX4_probed_80 (by decide) (fun h80 => ?_) (fun h80 => ?_)
        · exact Zr_vret C dX4_probed_103 (Nat.zero_le _) (Nat.zero_le _) ⟨rfl, rfl, rfl, by rw [aProbed, if_neg (fun h => h.elim hw h18), if_neg hki]; first | (rw [if_neg (i32_le h80)]; exact hR) | (rw [if_pos (Int32.not_le.mp h80)]; exact hR)⟩
        · refine Zr_aload_n C dX4_probed_83 rfl ?_
          refine Zr_getR C gf_X4_41 qm0 rfl rfl rfl (by decide) dX4_probed_84 ?_
          refine Zr_iload_n C dX4_probed_87 rfl ?_
          refine Zr_iload_n C dX4_probed_88 rfl ?_
          refine Zr_callS C cw_X4_68 (k_X4_row (i := k) (j := i)) rfl (Nat.le_of_ble_eq_true rfl) (Nat.le_of_ble_eq_true rfl) rfl (Nat.le_of_ble_eq_true rfl) dX4_probed_89 ⟨Nat.zero_le _, Nat.zero_le _⟩ ?_
          refine Zr_iload C dX4_probed_92 rfl ?_
          refine Zr_iastN C qm_18 rfl rfl (by omega) (by decide) (rRa hR (by decide)) dX4_probed_94 (fun S hR => ?_)
          refine Zr_aload_n C dX4_probed_95 rfl ?_
          refine Zr_iload_n C dX4_probed_96 rfl ?_
          refine Zr_iload_n C dX4_probed_97 rfl ?_
          refine Zr_iload C dX4_probed_98 rfl ?_
          refine Zr_callVRv C cw_X4_113 (k_X4_probes hB2 hR hk hL) qm0 rfl rfl rfl (Nat.le_of_ble_eq_true rfl) (Nat.le_of_ble_eq_true rfl) rfl (Nat.le_of_ble_eq_true rfl) dX4_probed_100 ⟨Nat.zero_le _, Nat.zero_le _⟩ (fun S hR => ?_)
          exact Zr_vret C dX4_probed_103 (Nat.zero_le _) (Nat.zero_le _) ⟨rfl, rfl, rfl, by rw [aProbed, if_neg (fun h => h.elim hw h18), if_neg hki]; first | (rw [if_neg (i32_le h80)]; exact hR) | (rw [if_pos (Int32.not_le.mp h80)]; exact hR)⟩
      · exact Zr_vret C dX4_probed_21 (Nat.zero_le _) (Nat.zero_le _) ⟨rfl, rfl, rfl, by rw [aProbed, if_pos (Or.inr h18)]; exact hR⟩
/-- a row whose first k places have been moved down by one -/
def rCut (σ : aS) (r k : Nat) (S : zSt) : Prop := (∀ a b x, ¬ (a = 1 ∧ 22 ≤ b) → S a b x = σ.1 a b x) ∧ (∀ q, q < 100 → q ≠ r → (S 1 22 q = nI (σ.2.1 q).length ∧ (σ.2.1 q).length ≤ 640) ∧ ∀ (j : Nat) (mm : aM), (σ.2.1 q)[j]? = some mm → S 1 23 (640 * q + j) = mm.1 ∧ S 1 24 (640 * q + j) = mm.2.1 ∧ S 1 25 (640 * q + j) = mm.2.2) ∧ (S 1 22 r = nI ((σ.2.1 r).length - 1) ∧ (σ.2.1 r).length ≤ 640) ∧ (∀ (j : Nat) (mm : aM), j < k → (σ.2.1 r)[j + 1]? = some mm → S 1 23 (640 * r + j) = mm.1 ∧ S 1 24 (640 * r + j) = mm.2.1 ∧ S 1 25 (640 * r + j) = mm.2.2) ∧ ∀ (j : Nat) (mm : aM), k ≤ j → (σ.2.1 r)[j]? = some mm → S 1 23 (640 * r + j) = mm.1 ∧ S 1 24 (640 * r + j) = mm.2.1 ∧ S 1 25 (640 * r + j) = mm.2.2
theorem rCut_0 {σ : aS} {r : Nat} {S : zSt} (h : rRel σ S) (hr : r < 100) (hl : 0 < (σ.2.1 r).length) : rCut σ r 0 (z3 S 1 22 r (nI (σ.2.1 r).length - 1)) := by
  refine ⟨fun a b x hn => ?_, fun q hq hqr => ?_, ⟨?_, (h.2 r hr).1.2⟩, fun j mm hj => absurd hj (Nat.not_lt_zero _), fun j mm _ hm => ?_⟩
  · simp only [z3]
    rw [if_neg (by omega)]
    exact h.1 a b x hn
  · obtain ⟨h1, h2⟩ := h.2 q hq
    refine ⟨by simpa [z3, hqr] using h1, fun j mm hm => ?_⟩
    simpa [z3] using h2 j mm hm
  · simp [z3, nI_sub1 hl]
  · simpa [z3] using (h.2 r hr).2 j mm hm
theorem rCut_s {σ : aS} {r k : Nat} {S : zSt} {mm : aM} (h : rCut σ r k S) (hr : r < 100) (hm : (σ.2.1 r)[k + 1]? = some mm) : rCut σ r (k + 1) (z3 (z3 (z3 S 1 23 (640 * r + k) mm.1) 1 24 (640 * r + k) mm.2.1) 1 25 (640 * r + k) mm.2.2) := by
  obtain ⟨h1, h2, h3, h4, h5⟩ := h
  have hkl := (List.getElem?_eq_some_iff.mp hm).1
  have hlen := h3.2
  refine ⟨fun a b x hn => ?_, fun q hq hqr => ?_, ⟨by simpa [z3] using h3.1, h3.2⟩, fun j m2 hj hm2 => ?_, fun j m2 hj hm2 => ?_⟩
  · simp only [z3]
    rw [if_neg (by omega), if_neg (by omega), if_neg (by omega)]
    exact h1 a b x hn
  · obtain ⟨g1, g2⟩ := h2 q hq hqr
    refine ⟨by simpa [z3] using g1, fun j m2 hm2 => ?_⟩
    have hjl := (List.getElem?_eq_some_iff.mp hm2).1
    have hg := g1.2
    have hne : ¬ (640 * q + j = 640 * r + k) := by omega
    simpa [z3, hne] using g2 j m2 hm2
  · by_cases hjk : j = k
    · subst hjk
      have e : m2 = mm := by rw [hm] at hm2; exact (Option.some.inj hm2).symm
      subst e
      simp [z3]
    · have hne : ¬ (j = k) := hjk
      simpa [z3, hne] using h4 j m2 (by omega) hm2
  · have hne : ¬ (j = k) := by omega
    simpa [z3, hne] using h5 j m2 (by omega) hm2
theorem rCut_e {σ : aS} {r k : Nat} {S : zSt} (h : rCut σ r k S) (hk : k + 1 = (σ.2.1 r).length) : rRel (aTail σ r) S := by
  obtain ⟨h1, h2, h3, h4, h5⟩ := h
  refine ⟨h1, fun q hq => ?_⟩
  by_cases hqr : q = r
  · subst hqr
    simp only [aTail, if_true]
    refine ⟨⟨by rw [List.length_tail]; exact h3.1, by rw [List.length_tail]; omega⟩, fun j mm hm => ?_⟩
    rw [List.getElem?_tail] at hm
    have := (List.getElem?_eq_some_iff.mp hm).1
    exact h4 j mm (by omega) hm
  · simp only [aTail, if_neg hqr]
    exact h2 q hq hqr
theorem aQual_of {σ τ : aS} {k : Nat} (h1 : τ.1 0 0 1 = σ.1 0 0 1) (h2 : τ.1 0 0 2 = σ.1 0 0 2) (h8 : τ.1 1 8 k = σ.1 1 8 k) (h9 : τ.1 1 9 k = σ.1 1 9 k) (h10 : τ.1 1 10 k = σ.1 1 10 k) : aQual τ k = aQual σ k := by
  simp [aQual, aTree, h1, h2, h8, h9, h10]
theorem aTake_O {n : Nat} {σ : aS} {i j k : Nat} {m : aM} (hkj : k ≠ j) : aQual (aTake n σ i j m) k = aQual σ k := by
  unfold aTake
  split
  · unfold aWork
    dsimp only
    split <;> refine aQual_of ?_ ?_ ?_ ?_ ?_ <;> simp [aN, aPush, z3, hkj]
  split
  · refine aQual_of ?_ ?_ ?_ ?_ ?_ <;> simp [aN, z3, hkj]
  split
  · refine aQual_of ?_ ?_ ?_ ?_ ?_ <;> simp [aN, z3]
  split
  · refine aQual_of ?_ ?_ ?_ ?_ ?_ <;> simp [aN, z3]
  split
  · refine aQual_of ?_ ?_ ?_ ?_ ?_ <;> simp [aN, z3]
  · unfold aProbed
    split
    · rfl
    split
    · unfold aDead
      dsimp only
      split <;> refine aQual_of ?_ ?_ ?_ ?_ ?_ <;> simp [aN, z3]
    split
    · refine aQual_of ?_ ?_ ?_ ?_ ?_ <;> simp [aN, aAll, z3]
    · rfl
theorem aTake_P {n : Nat} {σ : aS} {i j : Nat} {m : aM} (h : aQual (aTake n σ i j m) j = true) : (aTake n σ i j m).1 1 9 j = σ.1 1 9 j := by
  have h8 := (aQual_iff.mp h).2.1
  revert h8
  unfold aTake
  split
  · unfold aWork
    dsimp only
    split <;> simp [aN, aPush, z3]
  split
  · simp [aN, z3]
  split
  · simp [aN, z3]
  split
  · simp [aN, z3]
  split
  · simp [aN, z3]
  · unfold aProbed
    split
    · simp
    split
    · unfold aDead
      dsimp only
      split <;> simp [aN, z3]
    split
    · simp [aN, aAll, z3]
    · simp
theorem aPush_len {σ : aS} {r q : Nat} {m : aM} : ((aPush σ r m).2.1 q).length ≤ (σ.2.1 q).length + 1 := by
  simp only [aPush]
  split
  · rename_i h; subst h; simp
  · omega
theorem aAll_len {σ : aS} {p q n : Nat} {f : Nat → Bool} {m : aM} : ((aAll σ p f n m).2.1 q).length ≤ (σ.2.1 q).length + 1 := by
  simp only [aAll]
  split
  · simp
  · omega
theorem aTake_L {n : Nat} {σ : aS} {i j : Nat} {m : aM} (r : Nat) : ((aTake n σ i j m).2.1 r).length ≤ (σ.2.1 r).length + 1 := by
  unfold aTake
  split
  · unfold aWork
    dsimp only
    split
    · exact aPush_len (σ := aN (aN (aN σ 1 8 j 1) 1 12 j 1) 1 11 j (σ.1 1 11 j - 1))
    · exact Nat.le_succ _
  split
  · exact Nat.le_succ _
  split
  · exact Nat.le_succ _
  split
  · exact Nat.le_succ _
  split
  · exact Nat.le_succ _
  · unfold aProbed
    split
    · exact Nat.le_succ _
    split
    · unfold aDead
      dsimp only
      split <;> exact Nat.le_succ _
    split
    · exact aAll_len (σ := aN σ 1 18 (10 * j + m.2.1.toNatClampNeg) m.2.2)
    · exact Nat.le_succ _
theorem aB.all {n : Nat} {σ : aS} {p k : Nat} {f : Nat → Bool} {m : aM} (hB : aB n σ) : aB n (aAll σ p f k m) := hB
theorem aTake_B {n : Nat} {σ : aS} {i j : Nat} {m : aM} (hB : aB n σ) : aB n (aTake n σ i j m) := by
  unfold aTake
  split
  · have hB2 : aB n (aN (aN (aN σ 1 8 j 1) 1 12 j 1) 1 11 j (σ.1 1 11 j - 1)) := ((hB.a (fun _ => Or.inr rfl)).a (fun _ => Or.inr rfl)).a (fun h => by omega)
    unfold aWork
    dsimp only
    split
    · exact hB2.p
    · exact hB2.a (fun h => by omega)
  split
  · exact hB.a (fun h => by omega)
  split
  · exact hB.a (fun _ => Or.inr rfl)
  split
  · exact hB.a (fun _ => Or.inr rfl)
  split
  · exact (hB.a (fun _ => Or.inl rfl)).a (fun h => by omega)
  · unfold aProbed
    split
    · exact hB
    split
    · unfold aDead
      dsimp only
      have hB2 : aB n (aN (aN σ 1 14 m.2.1.toNatClampNeg (σ.1 1 14 m.2.1.toNatClampNeg + 1)) 0 0 7 (σ.1 0 0 7 + 1)) := (hB.a (fun h => by omega)).g (by decide) (fun h => by omega)
      split
      · exact hB2.g (by decide) (fun h => by omega)
      · exact hB2
    split
    · exact (hB.a (σ := σ) (k := 18) (fun h => by omega)).all
    · exact hB
set_option maxHeartbeats 4000000 in
set_option maxRecDepth 100000 in
theorem k_X4_receive {l : Launch} {D : va_G} {K : zKs} {ad : zAd} {S : zSt} {σ : aS} {n i j : Nat} (hS : aSafe n σ) (hR : rRel σ S) (hi : i < n) (hj : j < n) (hij : i ≠ j) : zMet l yX4_receive cX4_receive 9 (some .int) { frames := 4, cells := 0, slots := 0, locals := 96 } D K rIL (rSh K) ad S [.ref (ad (0, 0)), .int (nI i), .int (nI j)] (zR (some (.int (fRecv n σ i j).1)) (rSh K) ad (rRel (fRecv n σ i j).2)) := by
  refine zEnter (own := RX4) (lv0 := [some (.ref (ad (0, 0))), some (.int (nI i)), some (.int (nI j)), none, none, none, none, none, none]) (by decide) rfl (by simp [Value.category]) (Nat.le_of_ble_eq_true rfl) rfl ?_
  intro p e s m below meth c A C _ hnm
  have hB := hS.1
  have hn := hB.2.2.1
  have hr : 10 * i + j < 100 := r10 hi hj hn
  have hlen := hS.2.2.2.1 _ hr
  rcases hl : σ.2.1 (10 * i + j) with _ | ⟨m0, tl⟩
  · have ef : fRecv n σ i j = (-1, σ) := by simp only [fRecv, hl]
    refine Zr_aload_n C dX4_receive_0 rfl ?_
    refine Zr_iload_n C dX4_receive_1 rfl ?_
    refine Zr_iload_n C dX4_receive_2 rfl ?_
    refine Zr_callV C cw_X4_103 (k_X4_isRow_t hB hR hi hj hij) qm0 rfl rfl rfl (Nat.le_of_ble_eq_true rfl) (Nat.le_of_ble_eq_true rfl) rfl (Nat.le_of_ble_eq_true rfl) dX4_receive_3 ⟨Nat.zero_le _, Nat.zero_le _⟩ ?_
    refine Zr_if_eq C 22 dX4_receive_6 (by decide) (fun h6 => absurd h6 (by decide)) (fun h6 => ?_)
    refine Zr_aload_n C dX4_receive_9 rfl ?_
    refine Zr_getR C gf_X4_44 qm0 rfl rfl rfl (by decide) dX4_receive_10 ?_
    refine Zr_iload_n C dX4_receive_13 rfl ?_
    refine Zr_iload_n C dX4_receive_14 rfl ?_
    refine Zr_callS C cw_X4_68 (k_X4_row (i := i) (j := j)) rfl (Nat.le_of_ble_eq_true rfl) (Nat.le_of_ble_eq_true rfl) rfl (Nat.le_of_ble_eq_true rfl) dX4_receive_15 ⟨Nat.zero_le _, Nat.zero_le _⟩ ?_
    refine Zr_ialdN C qm_22 rfl rfl hr (by decide) ((rmy hR hr).trans (by rw [hl]; rfl : _ = (0 : Int32))) dX4_receive_18 ?_
    refine Zr_if_ne C 24 dX4_receive_19 (by decide) (fun h19 => absurd rfl h19) (fun h19 => ?_)
    refine Zr_iconst C (-1) dX4_receive_22 rfl ?_
    exact Zr_iret C dX4_receive_23 (Nat.zero_le _) (Nat.zero_le _) (by rw [ef]; exact ⟨rfl, rfl, rfl, hR⟩)
  · have ef : fRecv n σ i j = (m0.1, aLeave n (aTake n (aN (aTail σ (10 * i + j)) 0 0 6 (σ.1 0 0 6 + 1)) i j m0) j) := by simp only [fRecv, hl]
    have hlz : 0 < (σ.2.1 (10 * i + j)).length := by rw [hl]; simp
    have hm0 : (σ.2.1 (10 * i + j))[0]? = some m0 := by rw [hl]; rfl
    have hg0 := (hR.2 _ hr).2 0 m0 hm0
    have hBs : aB n (aN (aTail σ (10 * i + j)) 0 0 6 (σ.1 0 0 6 + 1)) := (hB.t).g (by decide) (fun h => by omega)
    have hLs : ∀ r, r < 100 → ((aN (aTail σ (10 * i + j)) 0 0 6 (σ.1 0 0 6 + 1)).2.1 r).length ≤ 630 := by
      intro r hr
      simp only [aN, aTail]
      split
      · rw [List.length_tail]; omega
      · exact hS.2.2.2.1 r hr
    have hLs2 : ∀ r, r < 100 → ((aN (aTail σ (10 * i + j)) 0 0 6 (σ.1 0 0 6 + 1)).2.1 r).length < 640 := fun r hr => Nat.lt_of_le_of_lt (hLs r hr) (by decide)
    have fin : ∀ S, rRel (aTake n (aN (aTail σ (10 * i + j)) 0 0 6 (σ.1 0 0 6 + 1)) i j m0) S → Z p l e ({ frames := 4, cells := 0, slots := 0, locals := 96 } : Room) s m ([.ref (ad (0, 0)), .int (nI i), .int (nI j)] : List Value).toArray below meth c D A 9 (MQ below (zQ (zR (some (.int (fRecv n σ i j).1)) (rSh K) ad (rRel (fRecv n σ i j).2)) rIL D A) ([.ref (ad (0, 0)), .int (nI i), .int (nI j)] : List Value).toArray s 0 0 A) rIL 0 0 (rSh K) ad S (262) ([some (.ref (ad (0, 0))), some (.int (nI i)), some (.int (nI j)), some (.int (nI (10 * i + j))), some (.int (nI (640 * (10 * i + j)))), some (.int m0.1), some (.int m0.2.1), some (.int m0.2.2), none]) ([]) := by
      intro S hR
      have hO : ∀ k, k < n → k ≠ j → aQual (aTake n (aN (aTail σ (10 * i + j)) 0 0 6 (σ.1 0 0 6 + 1)) i j m0) k = false := by
        intro k hk hkj
        rw [aTake_O hkj, ← hS.2.1 k hk]
        refine aQual_of ?_ ?_ ?_ ?_ ?_ <;> simp [aN, aTail, z3]
      have hpar : aQual (aTake n (aN (aTail σ (10 * i + j)) 0 0 6 (σ.1 0 0 6 + 1)) i j m0) j = true → j ≠ 0 → ∃ k, k < n ∧ (aTake n (aN (aTail σ (10 * i + j)) 0 0 6 (σ.1 0 0 6 + 1)) i j m0).1 1 9 j = nI k ∧ ((aTake n (aN (aTail σ (10 * i + j)) 0 0 6 (σ.1 0 0 6 + 1)) i j m0).2.1 (10 * j + k)).length < 640 := by
        intro h1 h2
        have h3 := aTake_P h1
        have h4 : (aTake n (aN (aTail σ (10 * i + j)) 0 0 6 (σ.1 0 0 6 + 1)) i j m0).1 1 9 j ≠ -1 := by
          have := (aQual_iff.mp h1).1
          simpa [aTree, h2] using this
        have h5 : (aN (aTail σ (10 * i + j)) 0 0 6 (σ.1 0 0 6 + 1)).1 1 9 j = σ.1 1 9 j := by simp [aN, aTail, z3]
        rw [h3, h5] at h4
        obtain ⟨k, hk, -, hk2⟩ := hS.2.2.1 j hj h2 h4
        refine ⟨k, hk, by rw [h3, h5]; exact hk2, ?_⟩
        have h6 := aTake_L (n := n) (σ := (aN (aTail σ (10 * i + j)) 0 0 6 (σ.1 0 0 6 + 1))) (i := i) (j := j) (m := m0) (10 * j + k)
        have h7 := hLs (10 * j + k) (by omega)
        omega
      refine Zr_aload_n C dX4_receive_262 rfl ?_
      refine Zr_callVRv C cw_X4_110 (k_X4_settles (i0 := j) (aTake_B hBs) hR hj hO hpar) qm0 rfl rfl rfl (Nat.le_of_ble_eq_true rfl) (Nat.le_of_ble_eq_true rfl) rfl (Nat.le_of_ble_eq_true rfl) dX4_receive_263 ⟨Nat.zero_le _, Nat.zero_le _⟩ (fun S hR => ?_)
      refine Zr_iload C dX4_receive_266 rfl ?_
      exact Zr_iret C dX4_receive_268 (Nat.zero_le _) (Nat.zero_le _) (by rw [ef]; exact ⟨rfl, rfl, rfl, hR⟩)
    have mid : ∀ S, rRel (aN (aTail σ (10 * i + j)) 0 0 6 (σ.1 0 0 6 + 1)) S → Z p l e ({ frames := 4, cells := 0, slots := 0, locals := 96 } : Room) s m ([.ref (ad (0, 0)), .int (nI i), .int (nI j)] : List Value).toArray below meth c D A 9 (MQ below (zQ (zR (some (.int (fRecv n σ i j).1)) (rSh K) ad (rRel (fRecv n σ i j).2)) rIL D A) ([.ref (ad (0, 0)), .int (nI i), .int (nI j)] : List Value).toArray s 0 0 A) rIL 0 0 (rSh K) ad S (156) ([some (.ref (ad (0, 0))), some (.int (nI i)), some (.int (nI j)), some (.int (nI (10 * i + j))), some (.int (nI (640 * (10 * i + j)))), some (.int m0.1), some (.int m0.2.1), some (.int m0.2.2), none]) ([]) := by
      intro S hR
      have hk := hS.2.2.2.2 _ hr m0 (List.mem_of_getElem? hm0)
      rcases hk with hk | hk | hk | hk | hk | ⟨hk, i6, hi6, hi62⟩
      · refine Zr_iload C dX4_receive_156 rfl ?_
        refine Zr_topi (y := 1) hk ?_
        refine Zr_tableIn C 192 dX4_receive_158 (by decide) (by decide) rfl (by decide) ?_
        refine Zr_aload_n C dX4_receive_192 rfl ?_
        refine Zr_iload_n C dX4_receive_193 rfl ?_
        refine Zr_iload_n C dX4_receive_194 rfl ?_
        refine Zr_callVRv C cw_X4_144 (k_X4_work hBs hR hi hj (hLs2 _ (by omega))) qm0 rfl rfl rfl (Nat.le_of_ble_eq_true rfl) (Nat.le_of_ble_eq_true rfl) rfl (Nat.le_of_ble_eq_true rfl) dX4_receive_195 ⟨Nat.zero_le _, Nat.zero_le _⟩ (fun S hR => ?_)
        refine Zr_goto C 262 dX4_receive_198 (by decide) ?_
        exact fin S (by simp only [aTake, hk]; exact hR)
      · refine Zr_iload C dX4_receive_156 rfl ?_
        refine Zr_topi (y := 2) hk ?_
        refine Zr_tableIn C 201 dX4_receive_158 (by decide) (by decide) rfl (by decide) ?_
        refine Zr_aload_n C dX4_receive_201 rfl ?_
        refine Zr_getR C gf_X4_17 qm0 rfl rfl rfl (by decide) dX4_receive_202 ?_
        refine Zr_iload_n C dX4_receive_205 rfl ?_
        refine Zr_dup2 C dX4_receive_206 rfl rfl ?_
        refine Zr_ialdN C qm_10 rfl rfl (by omega) (by decide) (ra hR (by decide)) dX4_receive_207 ?_
        refine Zr_iconst C (1) dX4_receive_208 rfl ?_
        refine Zr_isub C dX4_receive_209 ?_
        refine Zr_iastN C qm_10 rfl rfl (by omega) (by decide) (rRa hR (by decide)) dX4_receive_210 (fun S hR => ?_)
        refine Zr_goto C 262 dX4_receive_211 (by decide) ?_
        exact fin S (by simp only [aTake, hk]; exact hR)
      · refine Zr_iload C dX4_receive_156 rfl ?_
        refine Zr_topi (y := 3) hk ?_
        refine Zr_tableIn C 214 dX4_receive_158 (by decide) (by decide) rfl (by decide) ?_
        refine Zr_aload_n C dX4_receive_214 rfl ?_
        refine Zr_getR C gf_X4_26 qm0 rfl rfl rfl (by decide) dX4_receive_215 ?_
        refine Zr_iload_n C dX4_receive_218 rfl ?_
        refine Zr_iconst C (1) dX4_receive_219 rfl ?_
        refine Zr_zastN C qm_13 rfl rfl (by omega) (by decide) (by first | exact Or.inl rfl | exact Or.inr rfl | assumption) (rRa hR (by decide)) dX4_receive_220 (fun S hR => ?_)
        refine Zr_goto C 262 dX4_receive_221 (by decide) ?_
        exact fin S (by simp only [aTake, hk]; exact hR)
      · refine Zr_iload C dX4_receive_156 rfl ?_
        refine Zr_topi (y := 4) hk ?_
        refine Zr_tableIn C 224 dX4_receive_158 (by decide) (by decide) rfl (by decide) ?_
        refine Zr_aload_n C dX4_receive_224 rfl ?_
        refine Zr_getR C gf_X4_38 qm0 rfl rfl rfl (by decide) dX4_receive_225 ?_
        refine Zr_iload_n C dX4_receive_228 rfl ?_
        refine Zr_iload_n C dX4_receive_229 rfl ?_
        refine Zr_callS C cw_X4_68 (k_X4_row (i := j) (j := i)) rfl (Nat.le_of_ble_eq_true rfl) (Nat.le_of_ble_eq_true rfl) rfl (Nat.le_of_ble_eq_true rfl) dX4_receive_230 ⟨Nat.zero_le _, Nat.zero_le _⟩ ?_
        refine Zr_iconst C (1) dX4_receive_233 rfl ?_
        refine Zr_zastN C qm_17 rfl rfl (by omega) (by decide) (by first | exact Or.inl rfl | exact Or.inr rfl | assumption) (rRa hR (by decide)) dX4_receive_234 (fun S hR => ?_)
        refine Zr_goto C 262 dX4_receive_235 (by decide) ?_
        exact fin S (by simp only [aTake, hk]; exact hR)
      · refine Zr_iload C dX4_receive_156 rfl ?_
        refine Zr_topi (y := 5) hk ?_
        refine Zr_tableIn C 238 dX4_receive_158 (by decide) (by decide) rfl (by decide) ?_
        refine Zr_aload_n C dX4_receive_238 rfl ?_
        refine Zr_getR C gf_X4_35 qm0 rfl rfl rfl (by decide) dX4_receive_239 ?_
        refine Zr_iload_n C dX4_receive_242 rfl ?_
        refine Zr_iload_n C dX4_receive_243 rfl ?_
        refine Zr_callS C cw_X4_68 (k_X4_row (i := j) (j := i)) rfl (Nat.le_of_ble_eq_true rfl) (Nat.le_of_ble_eq_true rfl) rfl (Nat.le_of_ble_eq_true rfl) dX4_receive_244 ⟨Nat.zero_le _, Nat.zero_le _⟩ ?_
        refine Zr_iconst C (0) dX4_receive_247 rfl ?_
        refine Zr_zastN C qm_16 rfl rfl (by omega) (by decide) (by first | exact Or.inl rfl | exact Or.inr rfl | assumption) (rRa hR (by decide)) dX4_receive_248 (fun S hR => ?_)
        refine Zr_goto C 262 dX4_receive_249 (by decide) ?_
        exact fin S (by simp only [aTake, hk]; exact rRy (by decide) hR)
      · refine Zr_iload C dX4_receive_156 rfl ?_
        refine Zr_topi (y := 6) hk ?_
        refine Zr_tableOut C 252 dX4_receive_158 (Or.inr (by decide)) (by decide) ?_
        refine Zr_aload_n C dX4_receive_252 rfl ?_
        refine Zr_iload_n C dX4_receive_253 rfl ?_
        refine Zr_iload_n C dX4_receive_254 rfl ?_
        refine Zr_iload C dX4_receive_255 rfl ?_
        refine Zr_topi (y := nI i6) hi62 ?_
        refine Zr_iload C dX4_receive_257 rfl ?_
        refine Zr_callVRv C cw_X4_148 (k_X4_probed hBs hR hi hj hi6 hLs2) qm0 rfl rfl rfl (Nat.le_of_ble_eq_true rfl) (Nat.le_of_ble_eq_true rfl) rfl (Nat.le_of_ble_eq_true rfl) dX4_receive_259 ⟨Nat.zero_le _, Nat.zero_le _⟩ (fun S hR => ?_)
        exact fin S (by simp only [aTake, hk, hi62, nI_clamp (show i6 < 2 ^ 31 by omega)]; exact hR)
    have key : ∀ (d k : Nat) (S : zSt), k + d + 1 = (σ.2.1 (10 * i + j)).length → rCut σ (10 * i + j) k S → Z p l e ({ frames := 4, cells := 0, slots := 0, locals := 96 } : Room) s m ([.ref (ad (0, 0)), .int (nI i), .int (nI j)] : List Value).toArray below meth c D A 9 (MQ below (zQ (zR (some (.int (fRecv n σ i j).1)) (rSh K) ad (rRel (fRecv n σ i j).2)) rIL D A) ([.ref (ad (0, 0)), .int (nI i), .int (nI j)] : List Value).toArray s 0 0 A) rIL 0 0 (rSh K) ad S (78) ([some (.ref (ad (0, 0))), some (.int (nI i)), some (.int (nI j)), some (.int (nI (10 * i + j))), some (.int (nI (640 * (10 * i + j)))), some (.int m0.1), some (.int m0.2.1), some (.int m0.2.2), some (.int (nI (640 * (10 * i + j) + k)))]) ([]) := by
      intro d
      induction d with
      | zero =>
        intro k S hk hR
        have hR2 := rCut_e hR (by omega)
        refine Zr_iload C dX4_receive_78 rfl ?_
        refine Zr_iload C dX4_receive_80 rfl ?_
        refine Zr_aload_n C dX4_receive_82 rfl ?_
        refine Zr_getR C gf_X4_44 qm0 rfl rfl rfl (by decide) dX4_receive_83 ?_
        refine Zr_iload_n C dX4_receive_86 rfl ?_
        refine Zr_ialdN C qm_22 rfl rfl hr (by decide) hR.2.2.1.1 dX4_receive_87 ?_
        refine Zr_iadd C dX4_receive_88 ?_
        refine Zr_topi (y := nI (640 * (10 * i + j) + ((σ.2.1 (10 * i + j)).length - 1))) (nI_add _ _) ?_
        refine Zr_icmp_ge C 146 dX4_receive_89 (by decide) (fun h89 => ?_) (fun h89 => absurd (nI_le (show 640 * (10 * i + j) + ((σ.2.1 (10 * i + j)).length - 1) ≤ 640 * (10 * i + j) + k by omega) (by omega)) h89)
        refine Zr_aload_n C dX4_receive_146 rfl ?_
        refine Zr_dup C dX4_receive_147 rfl ?_
        refine Zr_getE C gf_X4_141 qm0 rfl rfl rfl (rg hR2) dX4_receive_148 ?_
        refine Zr_iconst C (1) dX4_receive_151 rfl ?_
        refine Zr_iadd C dX4_receive_152 ?_
        refine Zr_putE C pf_X4_141 qm0 rfl rfl rfl (znI _) (rRg hR2) dX4_receive_153 (fun S hR => ?_)
        exact Zr_forget 8 (mid S hR)
      | succ d ih =>
        intro k S hk hR
        obtain ⟨mm, hmm⟩ : ∃ mm, (σ.2.1 (10 * i + j))[k + 1]? = some mm := ⟨_, List.getElem?_eq_getElem (by omega)⟩
        have hg := hR.2.2.2.2 (k + 1) mm (by omega) hmm
        refine Zr_iload C dX4_receive_78 rfl ?_
        refine Zr_iload C dX4_receive_80 rfl ?_
        refine Zr_aload_n C dX4_receive_82 rfl ?_
        refine Zr_getR C gf_X4_44 qm0 rfl rfl rfl (by decide) dX4_receive_83 ?_
        refine Zr_iload_n C dX4_receive_86 rfl ?_
        refine Zr_ialdN C qm_22 rfl rfl hr (by decide) hR.2.2.1.1 dX4_receive_87 ?_
        refine Zr_iadd C dX4_receive_88 ?_
        refine Zr_topi (y := nI (640 * (10 * i + j) + ((σ.2.1 (10 * i + j)).length - 1))) (nI_add _ _) ?_
        refine Zr_icmp_ge C 146 dX4_receive_89 (by decide) (fun h89 => absurd h89 (nI_ge (show 640 * (10 * i + j) + k < 640 * (10 * i + j) + ((σ.2.1 (10 * i + j)).length - 1) by omega) (by omega))) (fun h89 => ?_)
        refine Zr_aload_n C dX4_receive_92 rfl ?_
        refine Zr_getR C gf_X4_48 qm0 rfl rfl rfl (by decide) dX4_receive_93 ?_
        refine Zr_iload C dX4_receive_96 rfl ?_
        refine Zr_aload_n C dX4_receive_98 rfl ?_
        refine Zr_getR C gf_X4_48 qm0 rfl rfl rfl (by decide) dX4_receive_99 ?_
        refine Zr_iload C dX4_receive_102 rfl ?_
        refine Zr_iconst C (1) dX4_receive_104 rfl ?_
        refine Zr_iadd C dX4_receive_105 ?_
        refine Zr_topi (y := nI (640 * (10 * i + j) + (k + 1))) (nI_1 _) ?_
        refine Zr_ialdN C qm_23 rfl rfl (by omega) (by decide) hg.1 dX4_receive_106 ?_
        refine Zr_iastN (Rel := fun X => X = _) C qm_23 rfl rfl (by omega) (by decide) rfl dX4_receive_107 (fun S1 hS1 => ?_)
        subst hS1
        refine Zr_aload_n C dX4_receive_108 rfl ?_
        refine Zr_getR C gf_X4_51 qm0 rfl rfl rfl (by decide) dX4_receive_109 ?_
        refine Zr_iload C dX4_receive_112 rfl ?_
        refine Zr_aload_n C dX4_receive_114 rfl ?_
        refine Zr_getR C gf_X4_51 qm0 rfl rfl rfl (by decide) dX4_receive_115 ?_
        refine Zr_iload C dX4_receive_118 rfl ?_
        refine Zr_iconst C (1) dX4_receive_120 rfl ?_
        refine Zr_iadd C dX4_receive_121 ?_
        refine Zr_topi (y := nI (640 * (10 * i + j) + (k + 1))) (nI_1 _) ?_
        refine Zr_ialdN C qm_24 rfl rfl (by omega) (by decide) (by simp [z3]; exact hg.2.1) dX4_receive_122 ?_
        refine Zr_iastN (Rel := fun X => X = _) C qm_24 rfl rfl (by omega) (by decide) rfl dX4_receive_123 (fun S1 hS1 => ?_)
        subst hS1
        refine Zr_aload_n C dX4_receive_124 rfl ?_
        refine Zr_getR C gf_X4_54 qm0 rfl rfl rfl (by decide) dX4_receive_125 ?_
        refine Zr_iload C dX4_receive_128 rfl ?_
        refine Zr_aload_n C dX4_receive_130 rfl ?_
        refine Zr_getR C gf_X4_54 qm0 rfl rfl rfl (by decide) dX4_receive_131 ?_
        refine Zr_iload C dX4_receive_134 rfl ?_
        refine Zr_iconst C (1) dX4_receive_136 rfl ?_
        refine Zr_iadd C dX4_receive_137 ?_
        refine Zr_topi (y := nI (640 * (10 * i + j) + (k + 1))) (nI_1 _) ?_
        refine Zr_ialdN C qm_25 rfl rfl (by omega) (by decide) (by simp [z3]; exact hg.2.2) dX4_receive_138 ?_
        refine Zr_iastN (Rel := fun X => X = _) C qm_25 rfl rfl (by omega) (by decide) rfl dX4_receive_139 (fun S1 hS1 => ?_)
        subst hS1
        refine Zr_iincE C (1) (nI (640 * (10 * i + j) + (k + 1))) dX4_receive_140 (by decide) rfl rfl (nI_1 _) ?_
        refine Zr_goto C 78 dX4_receive_143 (by decide) ?_
        exact ih (k + 1) _ (by omega) (rCut_s hR hr hmm)
    refine Zr_aload_n C dX4_receive_0 rfl ?_
    refine Zr_iload_n C dX4_receive_1 rfl ?_
    refine Zr_iload_n C dX4_receive_2 rfl ?_
    refine Zr_callV C cw_X4_103 (k_X4_isRow_t hB hR hi hj hij) qm0 rfl rfl rfl (Nat.le_of_ble_eq_true rfl) (Nat.le_of_ble_eq_true rfl) rfl (Nat.le_of_ble_eq_true rfl) dX4_receive_3 ⟨Nat.zero_le _, Nat.zero_le _⟩ ?_
    refine Zr_if_eq C 22 dX4_receive_6 (by decide) (fun h6 => absurd h6 (by decide)) (fun h6 => ?_)
    refine Zr_aload_n C dX4_receive_9 rfl ?_
    refine Zr_getR C gf_X4_44 qm0 rfl rfl rfl (by decide) dX4_receive_10 ?_
    refine Zr_iload_n C dX4_receive_13 rfl ?_
    refine Zr_iload_n C dX4_receive_14 rfl ?_
    refine Zr_callS C cw_X4_68 (k_X4_row (i := i) (j := j)) rfl (Nat.le_of_ble_eq_true rfl) (Nat.le_of_ble_eq_true rfl) rfl (Nat.le_of_ble_eq_true rfl) dX4_receive_15 ⟨Nat.zero_le _, Nat.zero_le _⟩ ?_
    refine Zr_ialdN C qm_22 rfl rfl hr (by decide) (rmy hR hr) dX4_receive_18 ?_
    refine Zr_if_ne C 24 dX4_receive_19 (by decide) (fun h19 => ?_) (fun h19 => absurd h19 (nI_ne0 hlz (by omega)))
    refine Zr_iload_n C dX4_receive_24 rfl ?_
    refine Zr_iload_n C dX4_receive_25 rfl ?_
    refine Zr_callS C cw_X4_68 (k_X4_row (i := i) (j := j)) rfl (Nat.le_of_ble_eq_true rfl) (Nat.le_of_ble_eq_true rfl) rfl (Nat.le_of_ble_eq_true rfl) dX4_receive_26 ⟨Nat.zero_le _, Nat.zero_le _⟩ ?_
    refine Zr_istore_n C dX4_receive_29 (by decide) ?_
    refine Zr_sipush C (640) dX4_receive_30 rfl ?_
    refine Zr_iload_n C dX4_receive_33 rfl ?_
    refine Zr_imul C dX4_receive_34 ?_
    refine Zr_topi (y := nI (640 * (10 * i + j))) (by rw [show (640 : Int32) = nI 640 from rfl, pk_mul]) ?_
    refine Zr_istore C dX4_receive_35 (by decide) ?_
    refine Zr_aload_n C dX4_receive_37 rfl ?_
    refine Zr_getR C gf_X4_48 qm0 rfl rfl rfl (by decide) dX4_receive_38 ?_
    refine Zr_iload C dX4_receive_41 rfl ?_
    refine Zr_ialdN C qm_23 rfl rfl (by omega) (by decide) hg0.1 dX4_receive_43 ?_
    refine Zr_istore C dX4_receive_44 (by decide) ?_
    refine Zr_aload_n C dX4_receive_46 rfl ?_
    refine Zr_getR C gf_X4_51 qm0 rfl rfl rfl (by decide) dX4_receive_47 ?_
    refine Zr_iload C dX4_receive_50 rfl ?_
    refine Zr_ialdN C qm_24 rfl rfl (by omega) (by decide) hg0.2.1 dX4_receive_52 ?_
    refine Zr_istore C dX4_receive_53 (by decide) ?_
    refine Zr_aload_n C dX4_receive_55 rfl ?_
    refine Zr_getR C gf_X4_54 qm0 rfl rfl rfl (by decide) dX4_receive_56 ?_
    refine Zr_iload C dX4_receive_59 rfl ?_
    refine Zr_ialdN C qm_25 rfl rfl (by omega) (by decide) hg0.2.2 dX4_receive_61 ?_
    refine Zr_istore C dX4_receive_62 (by decide) ?_
    refine Zr_aload_n C dX4_receive_64 rfl ?_
    refine Zr_getR C gf_X4_44 qm0 rfl rfl rfl (by decide) dX4_receive_65 ?_
    refine Zr_iload_n C dX4_receive_68 rfl ?_
    refine Zr_dup2 C dX4_receive_69 rfl rfl ?_
    refine Zr_ialdN C qm_22 rfl rfl hr (by decide) (rmy hR hr) dX4_receive_70 ?_
    refine Zr_iconst C (1) dX4_receive_71 rfl ?_
    refine Zr_isub C dX4_receive_72 ?_
    refine Zr_iastN (Rel := fun X => X = _) C qm_22 rfl rfl hr (by decide) rfl dX4_receive_73 (fun S1 hS1 => ?_)
    subst hS1
    refine Zr_iload C dX4_receive_74 rfl ?_
    refine Zr_istore C dX4_receive_76 (by decide) ?_
    exact key ((σ.2.1 (10 * i + j)).length - 1) 0 _ (by omega) (rCut_0 hR hr hlz)
set_option maxHeartbeats 4000000 in
set_option maxRecDepth 100000 in
theorem k_X4_receive_f {l : Launch} {D : va_G} {K : zKs} {ad : zAd} {S : zSt} {σ : aS} {n : Nat} {x y : Int32} (hB : aB n σ) (hR : rRel σ S) (hx : aBad n x ∨ aBad n y ∨ x = y) : zMet l yX4_receive cX4_receive 9 (some .int) { frames := 4, cells := 0, slots := 0, locals := 96 } D K rIL (rSh K) ad S [.ref (ad (0, 0)), .int x, .int y] (zEq (some (.int (-1))) (rSh K) ad (S)) := by
  refine zEnter (own := RX4) (lv0 := [some (.ref (ad (0, 0))), some (.int x), some (.int y), none, none, none, none, none, none]) (by decide) rfl (by simp [Value.category]) (Nat.le_of_ble_eq_true rfl) rfl ?_
  intro p e s m below meth c A C _ hnm
  refine Zr_aload_n C dX4_receive_0 rfl ?_
  refine Zr_iload_n C dX4_receive_1 rfl ?_
  refine Zr_iload_n C dX4_receive_2 rfl ?_
  refine Zr_callV C cw_X4_103 (k_X4_isRow_f hB hR hx) qm0 rfl rfl rfl (Nat.le_of_ble_eq_true rfl) (Nat.le_of_ble_eq_true rfl) rfl (Nat.le_of_ble_eq_true rfl) dX4_receive_3 ⟨Nat.zero_le _, Nat.zero_le _⟩ ?_
  refine Zr_if_eq C 22 dX4_receive_6 (by decide) (fun h6 => ?_) (fun h6 => absurd rfl h6)
  refine Zr_iconst C (-1) dX4_receive_22 rfl ?_
  exact Zr_iret C dX4_receive_23 (Nat.zero_le _) (Nat.zero_le _) ⟨rfl, rfl, rfl, rfl⟩
