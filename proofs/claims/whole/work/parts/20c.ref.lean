theorem i32_le {a b : Int32} (h : a ≤ b) : ¬ b < a := Int32.not_lt.mpr h
theorem nI_le0 {x : Nat} (h : x < 2 ^ 31) : nI x ≤ 0 ↔ x = 0 := by
  rw [show (0 : Int32) = nI 0 from rfl, nI_leI h (by decide)]
  omega
theorem aB.g {n : Nat} {σ : aS} {k : Nat} {v : Int32} (hB : aB n σ) (hk : k ≠ 0) (hv : (k = 1 ∨ k = 2 ∨ k = 3 ∨ k = 21) → (v = 0 ∨ v = 1)) : aB n (aN σ 0 0 k v) := by
  obtain ⟨h1, h2, h3, h4, h5⟩ := hB
  refine ⟨?_, h2, h3, fun j hj => ?_, fun j i hj => ?_⟩
  · simp only [aN, z3]
    rw [if_neg (fun h => hk h.2.2.symm)]
    exact h1
  · simp only [aN, z3]
    split
    · rename_i h
      exact hv (by rw [← h.2.2]; exact hj)
    · exact h4 j hj
  · simp only [aN, z3]
    rw [if_neg (fun h => by simp at h)]
    exact h5 j i hj
theorem aB.a {n : Nat} {σ : aS} {k i : Nat} {v : Int32} (hB : aB n σ) (hv : (k = 8 ∨ k = 12 ∨ k = 13 ∨ k = 16 ∨ k = 17) → (v = 0 ∨ v = 1)) : aB n (aN σ 1 k i v) := by
  obtain ⟨h1, h2, h3, h4, h5⟩ := hB
  refine ⟨?_, h2, h3, fun j hj => ?_, fun j x hj => ?_⟩
  · simp only [aN, z3]
    rw [if_neg (fun h => by simp at h)]
    exact h1
  · simp only [aN, z3]
    rw [if_neg (fun h => by simp at h)]
    exact h4 j hj
  · simp only [aN, z3]
    split
    · rename_i h
      exact hv (by rw [← h.2.1]; exact hj)
    · exact h5 j x hj
theorem aB.p {n : Nat} {σ : aS} {r : Nat} {mm : aM} (hB : aB n σ) : aB n (aPush σ r mm) := hB
theorem aQual_g {σ : aS} {k j : Nat} {v : Int32} (h : j ≠ 0) : aQual (aN σ 0 0 k v) j = aQual σ j := by
  simp [aQual, aTree, aN, z3, h]
theorem aQual_9 {σ : aS} {r i j : Nat} {mm : aM} {v : Int32} (h : j ≠ i) : aQual (aN (aPush σ r mm) 1 9 i v) j = aQual σ j := by
  simp [aQual, aTree, aN, aPush, z3, h]
theorem aB.t {n : Nat} {σ : aS} {r : Nat} (hB : aB n σ) : aB n (aTail σ r) := hB
set_option maxHeartbeats 4000000 in
set_option maxRecDepth 100000 in
theorem k_X4_quiet {l : Launch} {D : va_G} {K : zKs} {ad : zAd} {S : zSt} {σ : aS} {n : Nat} (hB : aB n σ) (hR : rRel σ S) : zMet l yX4_quiet cX4_quiet 3 (some .boolean) { frames := 1, cells := 0, slots := 0, locals := 24 } D K rIL (rSh K) ad S [.ref (ad (0, 0))] (zEq (some (.int (if aQuiet σ n = true then 1 else 0))) (rSh K) ad (S)) := by
  refine zEnter (own := RX4) (lv0 := [some (.ref (ad (0, 0))), none, none]) (by decide) rfl (by simp [Value.category]) (Nat.le_of_ble_eq_true rfl) rfl ?_
  intro p e s m below meth c A C _ hnm
  have hn := hB.2.2.1
  have key : ∀ (d i : Nat), i + d = n → (∀ j, j < i → σ.1 1 8 j = 0 ∧ ∀ q, q < n → aOf 1 (σ.2.1 (10 * j + q)) = 0) → Z p l e ({ frames := 1, cells := 0, slots := 0, locals := 24 } : Room) s m ([.ref (ad (0, 0))] : List Value).toArray below meth c D A 3 (MQ below (zQ (zEq (some (.int (if aQuiet σ n = true then 1 else 0))) (rSh K) ad (S)) rIL D A) ([.ref (ad (0, 0))] : List Value).toArray s 0 0 A) rIL 0 0 (rSh K) ad S (2) ([some (.ref (ad (0, 0))), some (.int (nI i)), none]) ([]) := by
    intro d
    induction d with
    | zero =>
      intro i hi hok
      have hi : i = n := by omega
      subst hi
      refine Zr_iload_n C dX4_quiet_2 rfl ?_
      refine Zr_aload_n C dX4_quiet_3 rfl ?_
      refine Zr_getE C gf_X4_60 qm0 rfl rfl rfl (rg hR) dX4_quiet_4 ?_
      refine Zr_icmp_ge C 58 dX4_quiet_7 (by decide) (fun h7 => ?_) (fun h7 => absurd (by rw [hB.1]; exact nI_le (Nat.le_refl _) (by omega)) h7)
      refine Zr_iconst C (1) dX4_quiet_58 rfl ?_
      exact Zr_zret C dX4_quiet_59 (Nat.zero_le _) (Nat.zero_le _) (by first | exact Or.inl rfl | exact Or.inr rfl | assumption) ⟨by rw [if_pos (aQuiet_iff.mpr hok)], rfl, rfl, rfl⟩
    | succ d ih =>
      intro i hi hok
      have hil : i < n := by omega
      have inner : ∀ (d2 q : Nat), q + d2 = n → σ.1 1 8 i = 0 → (∀ q2, q2 < q → aOf 1 (σ.2.1 (10 * i + q2)) = 0) → Z p l e ({ frames := 1, cells := 0, slots := 0, locals := 24 } : Room) s m ([.ref (ad (0, 0))] : List Value).toArray below meth c D A 3 (MQ below (zQ (zEq (some (.int (if aQuiet σ n = true then 1 else 0))) (rSh K) ad (S)) rIL D A) ([.ref (ad (0, 0))] : List Value).toArray s 0 0 A) rIL 0 0 (rSh K) ad S (23) ([some (.ref (ad (0, 0))), some (.int (nI i)), some (.int (nI q))]) ([]) := by
        intro d2
        induction d2 with
        | zero =>
          intro q hq h16 hin
          have hq : q = n := by omega
          subst hq
          refine Zr_iload_n C dX4_quiet_23 rfl ?_
          refine Zr_aload_n C dX4_quiet_24 rfl ?_
          refine Zr_getE C gf_X4_60 qm0 rfl rfl rfl (rg hR) dX4_quiet_25 ?_
          refine Zr_icmp_ge C 52 dX4_quiet_28 (by decide) (fun h28 => ?_) (fun h28 => absurd (by rw [hB.1]; exact nI_le (Nat.le_refl _) (by omega)) h28)
          refine Zr_iincE C (1) (nI (i + 1)) dX4_quiet_52 (by decide) rfl rfl (nI_1 _) ?_
          refine Zr_goto C 2 dX4_quiet_55 (by decide) ?_
          exact Zr_forget 2 (ih (i + 1) (by omega) (fun j hj => if hji : j = i then by rw [hji]; exact ⟨h16, hin⟩ else hok j (by omega)))
        | succ d2 ih2 =>
          intro q hq h16 hin
          have hql : q < n := by omega
          have hc : aOf 1 (σ.2.1 (10 * i + q)) ≤ 640 := Nat.le_trans aOf_le (rlen hR (by omega))
          refine Zr_iload_n C dX4_quiet_23 rfl ?_
          refine Zr_aload_n C dX4_quiet_24 rfl ?_
          refine Zr_getE C gf_X4_60 qm0 rfl rfl rfl (rg hR) dX4_quiet_25 ?_
          refine Zr_icmp_ge C 52 dX4_quiet_28 (by decide) (fun h28 => absurd h28 (by rw [hB.1]; exact nI_ge hql (by omega))) (fun h28 => ?_)
          refine Zr_aload_n C dX4_quiet_31 rfl ?_
          refine Zr_iload_n C dX4_quiet_32 rfl ?_
          refine Zr_iload_n C dX4_quiet_33 rfl ?_
          refine Zr_callS C cw_X4_68 (k_X4_row (i := i) (j := q)) rfl (Nat.le_of_ble_eq_true rfl) (Nat.le_of_ble_eq_true rfl) rfl (Nat.le_of_ble_eq_true rfl) dX4_quiet_34 ⟨Nat.zero_le _, Nat.zero_le _⟩ ?_
          refine Zr_iconst C (1) dX4_quiet_37 rfl ?_
          refine Zr_callV C cw_X4_86 (k_X4_counted hR (r10 hil hql hn)) qm0 rfl rfl rfl (Nat.le_of_ble_eq_true rfl) (Nat.le_of_ble_eq_true rfl) rfl (Nat.le_of_ble_eq_true rfl) dX4_quiet_38 ⟨Nat.zero_le _, Nat.zero_le _⟩ ?_
          refine Zr_if_le C 46 dX4_quiet_41 (by decide) (fun h41 => ?_) (fun h41 => ?_)
          · have h41 := (nI_le0 (by omega)).mp h41
            refine Zr_iincE C (1) (nI (q + 1)) dX4_quiet_46 (by decide) rfl rfl (nI_1 _) ?_
            refine Zr_goto C 23 dX4_quiet_49 (by decide) ?_
            exact ih2 (q + 1) (by omega) h16 (fun q2 hq2 => if hqq : q2 = q then by rw [hqq]; exact h41 else hin q2 (by omega))
          · have h41 := fun h => h41 ((nI_le0 (by omega)).mpr h)
            refine Zr_iconst C (0) dX4_quiet_44 rfl ?_
            exact Zr_zret C dX4_quiet_45 (Nat.zero_le _) (Nat.zero_le _) (by first | exact Or.inl rfl | exact Or.inr rfl | assumption) ⟨by rw [if_neg (fun h => h41 ((aQuiet_iff.mp h i hil).2 q hql))], rfl, rfl, rfl⟩
      refine Zr_iload_n C dX4_quiet_2 rfl ?_
      refine Zr_aload_n C dX4_quiet_3 rfl ?_
      refine Zr_getE C gf_X4_60 qm0 rfl rfl rfl (rg hR) dX4_quiet_4 ?_
      refine Zr_icmp_ge C 58 dX4_quiet_7 (by decide) (fun h7 => absurd h7 (by rw [hB.1]; exact nI_ge hil (by omega))) (fun h7 => ?_)
      refine Zr_aload_n C dX4_quiet_10 rfl ?_
      refine Zr_getR C gf_X4_9 qm0 rfl rfl rfl (by decide) dX4_quiet_11 ?_
      refine Zr_iload_n C dX4_quiet_14 rfl ?_
      refine Zr_zaldN C qm_8 rfl rfl (by omega) (by decide) (ra hR (by decide)) dX4_quiet_15 ?_
      refine Zr_if_eq C 21 dX4_quiet_16 (by decide) (fun h16 => ?_) (fun h16 => ?_)
      · refine Zr_iconst C (0) dX4_quiet_21 rfl ?_
        refine Zr_istore_n C dX4_quiet_22 (by decide) ?_
        exact inner n 0 (by omega) h16 (fun q2 hq2 => absurd hq2 (Nat.not_lt_zero _))
      · refine Zr_iconst C (0) dX4_quiet_19 rfl ?_
        exact Zr_zret C dX4_quiet_20 (Nat.zero_le _) (Nat.zero_le _) (by first | exact Or.inl rfl | exact Or.inr rfl | assumption) ⟨by rw [if_neg (fun h => h16 (aQuiet_iff.mp h i hil).1)], rfl, rfl, rfl⟩
  
  refine Zr_iconst C (0) dX4_quiet_0 rfl ?_
  refine Zr_istore_n C dX4_quiet_1 (by decide) ?_
  exact key n 0 (by omega) (fun j hj => absurd hj (Nat.not_lt_zero _))
set_option maxHeartbeats 4000000 in
set_option maxRecDepth 100000 in
theorem k_X4_settles {l : Launch} {D : va_G} {K : zKs} {ad : zAd} {S : zSt} {σ : aS} {n i0 : Nat} (hB : aB n σ) (hR : rRel σ S) (hi0 : i0 < n) (hO : ∀ i, i < n → i ≠ i0 → aQual σ i = false) (hpar : aQual σ i0 = true → i0 ≠ 0 → ∃ j, j < n ∧ σ.1 1 9 i0 = nI j ∧ (σ.2.1 (10 * i0 + j)).length < 640) : zMet l yX4_settles cX4_settles 3 none { frames := 2, cells := 0, slots := 0, locals := 48 } D K rIL (rSh K) ad S [.ref (ad (0, 0))] (zR none (rSh K) ad (rRel (aLeave n σ i0))) := by
  refine zEnter (own := RX4) (lv0 := [some (.ref (ad (0, 0))), none, none]) (by decide) rfl (by simp [Value.category]) (Nat.le_of_ble_eq_true rfl) rfl ?_
  intro p e s m below meth c A C _ hnm
  have hn := hB.2.2.1
  have skip : ∀ (τ : aS) (td : Int32) (i : Nat) (S : zSt), aB n τ → rRel τ S → i < n → aQual τ i = false → Z p l e ({ frames := 2, cells := 0, slots := 0, locals := 48 } : Room) s m ([.ref (ad (0, 0))] : List Value).toArray below meth c D A 3 (MQ below (zQ (zR none (rSh K) ad (rRel (aLeave n σ i0))) rIL D A) ([.ref (ad (0, 0))] : List Value).toArray s 0 0 A) rIL 0 0 (rSh K) ad S (76) ([some (.ref (ad (0, 0))), some (.int td), some (.int (nI i))]) ([]) → Z p l e ({ frames := 2, cells := 0, slots := 0, locals := 48 } : Room) s m ([.ref (ad (0, 0))] : List Value).toArray below meth c D A 3 (MQ below (zQ (zR none (rSh K) ad (rRel (aLeave n σ i0))) rIL D A) ([.ref (ad (0, 0))] : List Value).toArray s 0 0 A) rIL 0 0 (rSh K) ad S (4) ([some (.ref (ad (0, 0))), some (.int td), some (.int (nI i))]) ([]) := by
    intro τ td i S hB hR hi hq hk
    by_cases ht : aTree τ i = true
    · refine Zr_iload_n C dX4_settles_4 rfl ?_
      refine Zr_aload_n C dX4_settles_5 rfl ?_
      refine Zr_getE C gf_X4_60 qm0 rfl rfl rfl (rg hR) dX4_settles_6 ?_
      refine Zr_icmp_ge C 82 dX4_settles_9 (by decide) (fun h9 => absurd h9 (by rw [hB.1]; exact nI_ge hi (by omega))) (fun h9 => ?_)
      refine Zr_aload_n C dX4_settles_12 rfl ?_
      refine Zr_iload_n C dX4_settles_13 rfl ?_
      refine Zr_callV C cw_X4_89 (k_X4_isInTree hB hR hi) qm0 rfl rfl rfl (Nat.le_of_ble_eq_true rfl) (Nat.le_of_ble_eq_true rfl) rfl (Nat.le_of_ble_eq_true rfl) dX4_settles_14 ⟨Nat.zero_le _, Nat.zero_le _⟩ ?_
      refine Zr_topi (y := 1) (if_pos ht) ?_
      refine Zr_if_eq C 76 dX4_settles_17 (by decide) (fun h17 => absurd h17 (by decide)) (fun h17 => ?_)
      refine Zr_aload_n C dX4_settles_20 rfl ?_
      refine Zr_getR C gf_X4_9 qm0 rfl rfl rfl (by decide) dX4_settles_21 ?_
      refine Zr_iload_n C dX4_settles_24 rfl ?_
      refine Zr_zaldN C qm_8 rfl rfl (by omega) (by decide) (ra hR (by decide)) dX4_settles_25 ?_
      refine Zr_if_ne C 76 dX4_settles_26 (by decide) (fun h26 => ?_) (fun h26 => ?_)
      · exact hk
      · refine Zr_aload_n C dX4_settles_29 rfl ?_
        refine Zr_getR C gf_X4_17 qm0 rfl rfl rfl (by decide) dX4_settles_30 ?_
        refine Zr_iload_n C dX4_settles_33 rfl ?_
        refine Zr_ialdN C qm_10 rfl rfl (by omega) (by decide) (ra hR (by decide)) dX4_settles_34 ?_
        refine Zr_if_le C 41 dX4_settles_35 (by decide) (fun h35 => absurd (aQual_iff.mpr ⟨ht, h26, i32_le h35⟩) (by rw [hq]; decide)) (fun h35 => ?_)
        refine Zr_goto C 76 dX4_settles_38 (by decide) ?_
        exact hk
    · refine Zr_iload_n C dX4_settles_4 rfl ?_
      refine Zr_aload_n C dX4_settles_5 rfl ?_
      refine Zr_getE C gf_X4_60 qm0 rfl rfl rfl (rg hR) dX4_settles_6 ?_
      refine Zr_icmp_ge C 82 dX4_settles_9 (by decide) (fun h9 => absurd h9 (by rw [hB.1]; exact nI_ge hi (by omega))) (fun h9 => ?_)
      refine Zr_aload_n C dX4_settles_12 rfl ?_
      refine Zr_iload_n C dX4_settles_13 rfl ?_
      refine Zr_callV C cw_X4_89 (k_X4_isInTree hB hR hi) qm0 rfl rfl rfl (Nat.le_of_ble_eq_true rfl) (Nat.le_of_ble_eq_true rfl) rfl (Nat.le_of_ble_eq_true rfl) dX4_settles_14 ⟨Nat.zero_le _, Nat.zero_le _⟩ ?_
      refine Zr_topi (y := 0) (if_neg ht) ?_
      refine Zr_if_eq C 76 dX4_settles_17 (by decide) (fun h17 => ?_) (fun h17 => absurd rfl h17)
      exact hk
  have keyN : ∀ (d : Nat) (τ : aS) (td : Int32) (i : Nat) (S : zSt), i + d = n → aB n τ → rRel τ S → (∀ j, i ≤ j → j < n → aQual τ j = false) → Z p l e ({ frames := 2, cells := 0, slots := 0, locals := 48 } : Room) s m ([.ref (ad (0, 0))] : List Value).toArray below meth c D A 3 (MQ below (zQ (zR none (rSh K) ad (rRel (aLeave n σ i0))) rIL D A) ([.ref (ad (0, 0))] : List Value).toArray s 0 0 A) rIL 0 0 (rSh K) ad S (82) ([some (.ref (ad (0, 0))), some (.int td), some (.int (nI n))]) ([]) → Z p l e ({ frames := 2, cells := 0, slots := 0, locals := 48 } : Room) s m ([.ref (ad (0, 0))] : List Value).toArray below meth c D A 3 (MQ below (zQ (zR none (rSh K) ad (rRel (aLeave n σ i0))) rIL D A) ([.ref (ad (0, 0))] : List Value).toArray s 0 0 A) rIL 0 0 (rSh K) ad S (4) ([some (.ref (ad (0, 0))), some (.int td), some (.int (nI i))]) ([]) := by
    intro d
    induction d with
    | zero =>
      intro τ td i S hi hB hR hq hk
      have hi : i = n := by omega
      subst hi
      refine Zr_iload_n C dX4_settles_4 rfl ?_
      refine Zr_aload_n C dX4_settles_5 rfl ?_
      refine Zr_getE C gf_X4_60 qm0 rfl rfl rfl (rg hR) dX4_settles_6 ?_
      refine Zr_icmp_ge C 82 dX4_settles_9 (by decide) (fun h9 => ?_) (fun h9 => absurd (by rw [hB.1]; exact nI_le (Nat.le_refl _) (by omega)) h9)
      exact hk
    | succ d ih =>
      intro τ td i S hi hB hR hq hk
      refine skip τ td i S hB hR (by omega) (hq i (Nat.le_refl _) (by omega)) ?_
      refine Zr_iincE C (1) (nI (i + 1)) dX4_settles_76 (by decide) rfl rfl (nI_1 _) ?_
      refine Zr_goto C 4 dX4_settles_79 (by decide) ?_
      exact ih τ td (i + 1) S (by omega) hB hR (fun j h1 h2 => hq j (by omega) h2) hk
  by_cases hq : aQual σ i0 = true
  · have hq3 := aQual_iff.mp hq
    have tail0 : i0 = 0 → ∀ S, rRel (aN σ 0 0 2 1) S → Z p l e ({ frames := 2, cells := 0, slots := 0, locals := 48 } : Room) s m ([.ref (ad (0, 0))] : List Value).toArray below meth c D A 3 (MQ below (zQ (zR none (rSh K) ad (rRel (aLeave n σ i0))) rIL D A) ([.ref (ad (0, 0))] : List Value).toArray s 0 0 A) rIL 0 0 (rSh K) ad S (4) ([some (.ref (ad (0, 0))), some (.int 1), some (.int (nI (0 + 1)))]) ([]) := by
      intro h0 S hR
      subst h0
      have hB2 : aB n (aN σ 0 0 2 1) := hB.g (by decide) (fun _ => Or.inr rfl)
      refine keyN (n - 1) _ 1 1 S (by omega) hB2 hR (fun j h1 h2 => by rw [aQual_g (by omega)]; exact hO j h2 (by omega)) ?_
      have hl : aLeave n σ 0 = aJudge n (aN σ 0 0 2 1) := by rw [aLeave, if_pos hq, if_pos rfl]
      by_cases hQ : aQuiet (aN σ 0 0 2 1) n = true
      · refine Zr_iload_n C dX4_settles_82 rfl ?_
        refine Zr_if_eq C 103 dX4_settles_83 (by decide) (fun h83 => absurd h83 (by decide)) (fun h83 => ?_)
        refine Zr_aload_n C dX4_settles_86 rfl ?_
        refine Zr_callV C cw_X4_96 (k_X4_quiet hB2 hR) qm0 rfl rfl rfl (Nat.le_of_ble_eq_true rfl) (Nat.le_of_ble_eq_true rfl) rfl (Nat.le_of_ble_eq_true rfl) dX4_settles_87 ⟨Nat.zero_le _, Nat.zero_le _⟩ ?_
        refine Zr_topi (y := 1) (if_pos hQ) ?_
        refine Zr_if_ne C 103 dX4_settles_90 (by decide) (fun h90 => ?_) (fun h90 => absurd h90 (by decide))
        exact Zr_vret C dX4_settles_103 (Nat.zero_le _) (Nat.zero_le _) ⟨rfl, rfl, rfl, by rw [hl, aJudge, if_pos hQ]; exact hR⟩
      · refine Zr_iload_n C dX4_settles_82 rfl ?_
        refine Zr_if_eq C 103 dX4_settles_83 (by decide) (fun h83 => absurd h83 (by decide)) (fun h83 => ?_)
        refine Zr_aload_n C dX4_settles_86 rfl ?_
        refine Zr_callV C cw_X4_96 (k_X4_quiet hB2 hR) qm0 rfl rfl rfl (Nat.le_of_ble_eq_true rfl) (Nat.le_of_ble_eq_true rfl) rfl (Nat.le_of_ble_eq_true rfl) dX4_settles_87 ⟨Nat.zero_le _, Nat.zero_le _⟩ ?_
        refine Zr_topi (y := 0) (if_neg hQ) ?_
        refine Zr_if_ne C 103 dX4_settles_90 (by decide) (fun h90 => absurd rfl h90) (fun h90 => ?_)
        refine Zr_aload_n C dX4_settles_93 rfl ?_
        refine Zr_dup C dX4_settles_94 rfl ?_
        refine Zr_getE C gf_X4_100 qm0 rfl rfl rfl (rg hR) dX4_settles_95 ?_
        refine Zr_iconst C (1) dX4_settles_98 rfl ?_
        refine Zr_iadd C dX4_settles_99 ?_
        refine Zr_putE C pf_X4_100 qm0 rfl rfl rfl (znI _) (rRg hR) dX4_settles_100 (fun S hR => ?_)
        exact Zr_vret C dX4_settles_103 (Nat.zero_le _) (Nat.zero_le _) ⟨rfl, rfl, rfl, by rw [hl, aJudge, if_neg hQ]; exact hR⟩
    have tail1 : i0 ≠ 0 → ∀ j, σ.1 1 9 i0 = nI j → j < n → ∀ S, rRel (aN (aPush σ (10 * i0 + j) (2, -1, -1)) 1 9 i0 (-1)) S → Z p l e ({ frames := 2, cells := 0, slots := 0, locals := 48 } : Room) s m ([.ref (ad (0, 0))] : List Value).toArray below meth c D A 3 (MQ below (zQ (zR none (rSh K) ad (rRel (aLeave n σ i0))) rIL D A) ([.ref (ad (0, 0))] : List Value).toArray s 0 0 A) rIL 0 0 (rSh K) ad S (4) ([some (.ref (ad (0, 0))), some (.int 0), some (.int (nI (i0 + 1)))]) ([]) := by
      intro h0 j hj2 hj S hR
      have hB2 : aB n (aN (aPush σ (10 * i0 + j) (2, -1, -1)) 1 9 i0 (-1)) := (hB.p).a (by decide)
      refine keyN (n - (i0 + 1)) _ 0 (i0 + 1) S (by omega) hB2 hR (fun k h1 h2 => by rw [aQual_9 (by omega)]; exact hO k h2 (by omega)) ?_
      have hl : aLeave n σ i0 = aN (aPush σ (10 * i0 + j) (2, -1, -1)) 1 9 i0 (-1) := by rw [aLeave, if_pos hq, if_neg h0, hj2, nI_clamp (by omega)]
      refine Zr_iload_n C dX4_settles_82 rfl ?_
      refine Zr_if_eq C 103 dX4_settles_83 (by decide) (fun h83 => ?_) (fun h83 => absurd rfl h83)
      exact Zr_vret C dX4_settles_103 (Nat.zero_le _) (Nat.zero_le _) ⟨rfl, rfl, rfl, by rw [hl]; exact hR⟩
    have keyA : ∀ (d i : Nat), i + d = i0 → Z p l e ({ frames := 2, cells := 0, slots := 0, locals := 48 } : Room) s m ([.ref (ad (0, 0))] : List Value).toArray below meth c D A 3 (MQ below (zQ (zR none (rSh K) ad (rRel (aLeave n σ i0))) rIL D A) ([.ref (ad (0, 0))] : List Value).toArray s 0 0 A) rIL 0 0 (rSh K) ad S (4) ([some (.ref (ad (0, 0))), some (.int 0), some (.int (nI i))]) ([]) := by
      intro d
      induction d with
      | zero =>
        intro i hi
        have hi : i = i0 := by omega
        subst hi
        rcases Nat.eq_zero_or_pos i with rfl | hz
        · refine Zr_iload_n C dX4_settles_4 rfl ?_
          refine Zr_aload_n C dX4_settles_5 rfl ?_
          refine Zr_getE C gf_X4_60 qm0 rfl rfl rfl (rg hR) dX4_settles_6 ?_
          refine Zr_icmp_ge C 82 dX4_settles_9 (by decide) (fun h9 => absurd h9 (by rw [hB.1]; exact nI_ge hi0 (by omega))) (fun h9 => ?_)
          refine Zr_aload_n C dX4_settles_12 rfl ?_
          refine Zr_iload_n C dX4_settles_13 rfl ?_
          refine Zr_callV C cw_X4_89 (k_X4_isInTree hB hR hi0) qm0 rfl rfl rfl (Nat.le_of_ble_eq_true rfl) (Nat.le_of_ble_eq_true rfl) rfl (Nat.le_of_ble_eq_true rfl) dX4_settles_14 ⟨Nat.zero_le _, Nat.zero_le _⟩ ?_
          refine Zr_topi (y := 1) (if_pos hq3.1) ?_
          refine Zr_if_eq C 76 dX4_settles_17 (by decide) (fun h17 => absurd h17 (by decide)) (fun h17 => ?_)
          refine Zr_aload_n C dX4_settles_20 rfl ?_
          refine Zr_getR C gf_X4_9 qm0 rfl rfl rfl (by decide) dX4_settles_21 ?_
          refine Zr_iload_n C dX4_settles_24 rfl ?_
          refine Zr_zaldN C qm_8 rfl rfl (by omega) (by decide) (ra hR (by decide)) dX4_settles_25 ?_
          refine Zr_if_ne C 76 dX4_settles_26 (by decide) (fun h26 => absurd hq3.2.1 h26) (fun h26 => ?_)
          refine Zr_aload_n C dX4_settles_29 rfl ?_
          refine Zr_getR C gf_X4_17 qm0 rfl rfl rfl (by decide) dX4_settles_30 ?_
          refine Zr_iload_n C dX4_settles_33 rfl ?_
          refine Zr_ialdN C qm_10 rfl rfl (by omega) (by decide) (ra hR (by decide)) dX4_settles_34 ?_
          refine Zr_if_le C 41 dX4_settles_35 (by decide) (fun h35 => ?_) (fun h35 => absurd (Int32.not_lt.mp hq3.2.2) h35)
          refine Zr_iload_n C dX4_settles_41 rfl ?_
          refine Zr_if_ne C 55 dX4_settles_42 (by decide) (fun h42 => absurd rfl h42) (fun h42 => ?_)
          refine Zr_aload_n C dX4_settles_45 rfl ?_
          refine Zr_iconst C (1) dX4_settles_46 rfl ?_
          refine Zr_putE C pf_X4_83 qm0 rfl rfl rfl (znZ (by first | exact Or.inl rfl | exact Or.inr rfl | assumption)) (rRg hR) dX4_settles_47 (fun S hR => ?_)
          refine Zr_iconst C (1) dX4_settles_50 rfl ?_
          refine Zr_istore_n C dX4_settles_51 (by decide) ?_
          refine Zr_goto C 76 dX4_settles_52 (by decide) ?_
          refine Zr_iincE C (1) (nI (0 + 1)) dX4_settles_76 (by decide) rfl rfl (nI_1 _) ?_
          refine Zr_goto C 4 dX4_settles_79 (by decide) ?_
          exact tail0 rfl S hR
        · obtain ⟨j, hj, hj2, hj3⟩ := hpar hq (by omega)
          refine Zr_iload_n C dX4_settles_4 rfl ?_
          refine Zr_aload_n C dX4_settles_5 rfl ?_
          refine Zr_getE C gf_X4_60 qm0 rfl rfl rfl (rg hR) dX4_settles_6 ?_
          refine Zr_icmp_ge C 82 dX4_settles_9 (by decide) (fun h9 => absurd h9 (by rw [hB.1]; exact nI_ge hi0 (by omega))) (fun h9 => ?_)
          refine Zr_aload_n C dX4_settles_12 rfl ?_
          refine Zr_iload_n C dX4_settles_13 rfl ?_
          refine Zr_callV C cw_X4_89 (k_X4_isInTree hB hR hi0) qm0 rfl rfl rfl (Nat.le_of_ble_eq_true rfl) (Nat.le_of_ble_eq_true rfl) rfl (Nat.le_of_ble_eq_true rfl) dX4_settles_14 ⟨Nat.zero_le _, Nat.zero_le _⟩ ?_
          refine Zr_topi (y := 1) (if_pos hq3.1) ?_
          refine Zr_if_eq C 76 dX4_settles_17 (by decide) (fun h17 => absurd h17 (by decide)) (fun h17 => ?_)
          refine Zr_aload_n C dX4_settles_20 rfl ?_
          refine Zr_getR C gf_X4_9 qm0 rfl rfl rfl (by decide) dX4_settles_21 ?_
          refine Zr_iload_n C dX4_settles_24 rfl ?_
          refine Zr_zaldN C qm_8 rfl rfl (by omega) (by decide) (ra hR (by decide)) dX4_settles_25 ?_
          refine Zr_if_ne C 76 dX4_settles_26 (by decide) (fun h26 => absurd hq3.2.1 h26) (fun h26 => ?_)
          refine Zr_aload_n C dX4_settles_29 rfl ?_
          refine Zr_getR C gf_X4_17 qm0 rfl rfl rfl (by decide) dX4_settles_30 ?_
          refine Zr_iload_n C dX4_settles_33 rfl ?_
          refine Zr_ialdN C qm_10 rfl rfl (by omega) (by decide) (ra hR (by decide)) dX4_settles_34 ?_
          refine Zr_if_le C 41 dX4_settles_35 (by decide) (fun h35 => ?_) (fun h35 => absurd (Int32.not_lt.mp hq3.2.2) h35)
          refine Zr_iload_n C dX4_settles_41 rfl ?_
          refine Zr_if_ne C 55 dX4_settles_42 (by decide) (fun h42 => ?_) (fun h42 => absurd h42 (nI_ne0 hz (by omega)))
          refine Zr_aload_n C dX4_settles_55 rfl ?_
          refine Zr_iload_n C dX4_settles_56 rfl ?_
          refine Zr_aload_n C dX4_settles_57 rfl ?_
          refine Zr_getR C gf_X4_13 qm0 rfl rfl rfl (by decide) dX4_settles_58 ?_
          refine Zr_iload_n C dX4_settles_61 rfl ?_
          refine Zr_ialdN C qm_9 rfl rfl (by omega) (by decide) ((ra hR (by decide)).trans hj2) dX4_settles_62 ?_
          refine Zr_iconst C (2) dX4_settles_63 rfl ?_
          refine Zr_iconst C (-1) dX4_settles_64 rfl ?_
          refine Zr_iconst C (-1) dX4_settles_65 rfl ?_
          refine Zr_callVRv C cw_X4_92 (k_X4_sends hR (by omega) (by omega) hj3) qm0 rfl rfl rfl (Nat.le_of_ble_eq_true rfl) (Nat.le_of_ble_eq_true rfl) rfl (Nat.le_of_ble_eq_true rfl) dX4_settles_66 ⟨Nat.zero_le _, Nat.zero_le _⟩ (fun S hR => ?_)
          refine Zr_aload_n C dX4_settles_69 rfl ?_
          refine Zr_getR C gf_X4_13 qm0 rfl rfl rfl (by decide) dX4_settles_70 ?_
          refine Zr_iload_n C dX4_settles_73 rfl ?_
          refine Zr_iconst C (-1) dX4_settles_74 rfl ?_
          refine Zr_iastN C qm_9 rfl rfl (by omega) (by decide) (rRa hR (by decide)) dX4_settles_75 (fun S hR => ?_)
          refine Zr_iincE C (1) (nI (i + 1)) dX4_settles_76 (by decide) rfl rfl (nI_1 _) ?_
          refine Zr_goto C 4 dX4_settles_79 (by decide) ?_
          exact tail1 (by omega) j hj2 hj S hR
      | succ d ih =>
        intro i hi
        refine skip σ 0 i S hB hR (by omega) (hO i (by omega) (by omega)) ?_
        refine Zr_iincE C (1) (nI (i + 1)) dX4_settles_76 (by decide) rfl rfl (nI_1 _) ?_
        refine Zr_goto C 4 dX4_settles_79 (by decide) ?_
        exact ih (i + 1) (by omega)
    refine Zr_iconst C (0) dX4_settles_0 rfl ?_
    refine Zr_istore_n C dX4_settles_1 (by decide) ?_
    refine Zr_iconst C (0) dX4_settles_2 rfl ?_
    refine Zr_istore_n C dX4_settles_3 (by decide) ?_
    exact keyA i0 0 (by omega)
  · have hl : aLeave n σ i0 = σ := if_neg hq
    refine Zr_iconst C (0) dX4_settles_0 rfl ?_
    refine Zr_istore_n C dX4_settles_1 (by decide) ?_
    refine Zr_iconst C (0) dX4_settles_2 rfl ?_
    refine Zr_istore_n C dX4_settles_3 (by decide) ?_
    refine keyN n σ 0 0 S (by omega) hB hR (fun j _ h2 => if hji : j = i0 then by rw [hji]; exact Bool.eq_false_iff.mpr hq else hO j h2 hji) ?_
    refine Zr_iload_n C dX4_settles_82 rfl ?_
    refine Zr_if_eq C 103 dX4_settles_83 (by decide) (fun h83 => ?_) (fun h83 => absurd rfl h83)
    exact Zr_vret C dX4_settles_103 (Nat.zero_le _) (Nat.zero_le _) ⟨rfl, rfl, rfl, by rw [hl]; exact hR⟩
