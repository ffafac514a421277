theorem aOf_take {k : Int32} {l : List aM} {i : Nat} {m : aM} (h : l[i]? = some m) : aOf k (l.take (i + 1)) = aOf k (l.take i) + (if m.1 = k then 1 else 0) := by
  rw [List.take_add_one, h]
  simp [aOf, List.countP_append, List.countP_cons]
theorem aOf_all {k : Int32} {l : List aM} : aOf k (l.take l.length) = aOf k l := by rw [List.take_length]
theorem aOf_le {k : Int32} {l : List aM} : aOf k l ≤ l.length := List.countP_le_length
theorem x640 (r k : Nat) : (640 : Int32) * nI r + nI k = nI (640 * r + k) := by rw [show (640 : Int32) = nI 640 from rfl, pk_mul, nI_add]
set_option maxHeartbeats 4000000 in
set_option maxRecDepth 100000 in
theorem k_X4_counted {l : Launch} {D : va_G} {K : zKs} {ad : zAd} {S : zSt} {σ : aS} {r : Nat} {kind : Int32} (hR : rRel σ S) (hr : r < 100) : zMet l yX4_counted cX4_counted 5 (some .int) { frames := 0, cells := 0, slots := 0, locals := 0 } D K rIL (rSh K) ad S [.ref (ad (0, 0)), .int (nI r), .int kind] (zEq (some (.int (nI (aOf kind (σ.2.1 r))))) (rSh K) ad (S)) := by
  refine zEnter (own := RX4) (lv0 := [some (.ref (ad (0, 0))), some (.int (nI r)), some (.int kind), none, none]) (by decide) rfl (by simp [Value.category]) (Nat.le_of_ble_eq_true rfl) rfl ?_
  intro p e s m below meth c A C _ hnm
  have hlen := rlen hR hr
  have key : ∀ (d k : Nat), k + d = (σ.2.1 r).length → Z p l e ({ frames := 0, cells := 0, slots := 0, locals := 0 } : Room) s m ([.ref (ad (0, 0)), .int (nI r), .int kind] : List Value).toArray below meth c D A 5 (MQ below (zQ (zEq (some (.int (nI (aOf kind (σ.2.1 r))))) (rSh K) ad (S)) rIL D A) ([.ref (ad (0, 0)), .int (nI r), .int kind] : List Value).toArray s 0 0 A) rIL 0 0 (rSh K) ad S (5) ([some (.ref (ad (0, 0))), some (.int (nI r)), some (.int kind), some (.int (nI (aOf kind ((σ.2.1 r).take k)))), some (.int (nI k))]) ([]) := by
    intro d
    induction d with
    | zero =>
      intro k hk
      have hk : k = (σ.2.1 r).length := by omega
      subst hk
      refine Zr_iload C dX4_counted_5 rfl ?_
      refine Zr_aload_n C dX4_counted_7 rfl ?_
      refine Zr_getR C gf_X4_44 qm0 rfl rfl rfl (by decide) dX4_counted_8 ?_
      refine Zr_iload_n C dX4_counted_11 rfl ?_
      refine Zr_ialdN C qm_22 rfl rfl hr (by decide) (rmy hR hr) dX4_counted_12 ?_
      refine Zr_icmp_ge C 47 dX4_counted_13 (by decide) (fun h13 => ?_) (fun h13 => absurd (nI_le (Nat.le_refl _) (by omega)) h13)
      refine Zr_iload_n C dX4_counted_47 rfl ?_
      exact Zr_iret C dX4_counted_48 (Nat.zero_le _) (Nat.zero_le _) ⟨by rw [aOf_all], rfl, rfl, rfl⟩
    | succ d ih =>
      intro k hk
      have hkl : k < (σ.2.1 r).length := by omega
      obtain ⟨mm, hm⟩ : ∃ mm, (σ.2.1 r)[k]? = some mm := ⟨_, List.getElem?_eq_getElem hkl⟩
      refine Zr_iload C dX4_counted_5 rfl ?_
      refine Zr_aload_n C dX4_counted_7 rfl ?_
      refine Zr_getR C gf_X4_44 qm0 rfl rfl rfl (by decide) dX4_counted_8 ?_
      refine Zr_iload_n C dX4_counted_11 rfl ?_
      refine Zr_ialdN C qm_22 rfl rfl hr (by decide) (rmy hR hr) dX4_counted_12 ?_
      refine Zr_icmp_ge C 47 dX4_counted_13 (by decide) (fun h13 => absurd h13 (nI_ge hkl (by omega))) (fun h13 => ?_)
      refine Zr_iload_n C dX4_counted_16 rfl ?_
      refine Zr_aload_n C dX4_counted_17 rfl ?_
      refine Zr_getR C gf_X4_48 qm0 rfl rfl rfl (by decide) dX4_counted_18 ?_
      refine Zr_sipush C (640) dX4_counted_21 rfl ?_
      refine Zr_iload_n C dX4_counted_24 rfl ?_
      refine Zr_imul C dX4_counted_25 ?_
      refine Zr_iload C dX4_counted_26 rfl ?_
      refine Zr_iadd C dX4_counted_28 ?_
      refine Zr_topi (y := nI (640 * r + k)) (x640 r k) ?_
      refine Zr_ialdN C qm_23 rfl rfl (by omega) (by decide) ((hR.2 r hr).2 k mm hm).1 dX4_counted_29 ?_
      refine Zr_iload_n C dX4_counted_30 rfl ?_
      refine Zr_icmp_ne C 38 dX4_counted_31 (by decide) (fun h31 => ?_) (fun h31 => ?_)
      · refine Zr_iconst C (0) dX4_counted_38 rfl ?_
        refine Zr_iadd C dX4_counted_39 ?_
        refine Zr_topi (y := nI (aOf kind ((σ.2.1 r).take (k + 1)))) (by rw [aOf_take hm]; simp [h31, nI_1]) ?_
        refine Zr_istore_n C dX4_counted_40 (by decide) ?_
        refine Zr_iincE C (1) (nI (k + 1)) dX4_counted_41 (by decide) rfl rfl (nI_1 _) ?_
        refine Zr_goto C 5 dX4_counted_44 (by decide) ?_
        exact ih (k + 1) (by omega)
      · refine Zr_iconst C (1) dX4_counted_34 rfl ?_
        refine Zr_goto C 39 dX4_counted_35 (by decide) ?_
        refine Zr_iadd C dX4_counted_39 ?_
        refine Zr_topi (y := nI (aOf kind ((σ.2.1 r).take (k + 1)))) (by rw [aOf_take hm]; simp [h31, nI_1]) ?_
        refine Zr_istore_n C dX4_counted_40 (by decide) ?_
        refine Zr_iincE C (1) (nI (k + 1)) dX4_counted_41 (by decide) rfl rfl (nI_1 _) ?_
        refine Zr_goto C 5 dX4_counted_44 (by decide) ?_
        exact ih (k + 1) (by omega)
  refine Zr_iconst C (0) dX4_counted_0 rfl ?_
  refine Zr_istore_n C dX4_counted_1 (by decide) ?_
  refine Zr_iconst C (0) dX4_counted_2 rfl ?_
  refine Zr_istore C dX4_counted_3 (by decide) ?_
  exact key (σ.2.1 r).length 0 (by omega)
set_option maxHeartbeats 4000000 in
set_option maxRecDepth 100000 in
theorem k_X4_waitsFor {l : Launch} {D : va_G} {K : zKs} {ad : zAd} {S : zSt} {σ : aS} {n i : Nat} (hB : aB n σ) (hR : rRel σ S) (hi : i < n) : zMet l yX4_waitsFor cX4_waitsFor 4 (some .int) { frames := 1, cells := 0, slots := 0, locals := 21 } D K rIL (rSh K) ad S [.ref (ad (0, 0)), .int (nI i)] (zEq (some (.int (nI (aWf σ n i)))) (rSh K) ad (S)) := by
  refine zEnter (own := RX4) (lv0 := [some (.ref (ad (0, 0))), some (.int (nI i)), none, none]) (by decide) rfl (by simp [Value.category]) (Nat.le_of_ble_eq_true rfl) rfl ?_
  intro p e s m below meth c A C _ hnm
  have hn := hB.2.2.1
  have key : ∀ (d k : Nat), k + d = n → Z p l e ({ frames := 1, cells := 0, slots := 0, locals := 21 } : Room) s m ([.ref (ad (0, 0)), .int (nI i)] : List Value).toArray below meth c D A 4 (MQ below (zQ (zEq (some (.int (nI (aWf σ n i)))) (rSh K) ad (S)) rIL D A) ([.ref (ad (0, 0)), .int (nI i)] : List Value).toArray s 0 0 A) rIL 0 0 (rSh K) ad S (4) ([some (.ref (ad (0, 0))), some (.int (nI i)), some (.int (nI (aCnt (fun q => σ.1 1 16 (10 * i + q) != 0) k))), some (.int (nI k))]) ([]) := by
    intro d
    induction d with
    | zero =>
      intro k hk
      have hk : k = n := by omega
      subst hk
      refine Zr_iload_n C dX4_waitsFor_4 rfl ?_
      refine Zr_aload_n C dX4_waitsFor_5 rfl ?_
      refine Zr_getE C gf_X4_60 qm0 rfl rfl rfl (rg hR) dX4_waitsFor_6 ?_
      refine Zr_icmp_ge C 39 dX4_waitsFor_9 (by decide) (fun h9 => ?_) (fun h9 => absurd (by rw [hB.1]; exact nI_le (Nat.le_refl _) (by omega)) h9)
      refine Zr_iload_n C dX4_waitsFor_39 rfl ?_
      exact Zr_iret C dX4_waitsFor_40 (Nat.zero_le _) (Nat.zero_le _) ⟨rfl, rfl, rfl, rfl⟩
    | succ d ih =>
      intro k hk
      have hkl : k < n := by omega
      refine Zr_iload_n C dX4_waitsFor_4 rfl ?_
      refine Zr_aload_n C dX4_waitsFor_5 rfl ?_
      refine Zr_getE C gf_X4_60 qm0 rfl rfl rfl (rg hR) dX4_waitsFor_6 ?_
      refine Zr_icmp_ge C 39 dX4_waitsFor_9 (by decide) (fun h9 => absurd h9 (by rw [hB.1]; exact nI_ge hkl (by omega))) (fun h9 => ?_)
      refine Zr_iload_n C dX4_waitsFor_12 rfl ?_
      refine Zr_aload_n C dX4_waitsFor_13 rfl ?_
      refine Zr_getR C gf_X4_35 qm0 rfl rfl rfl (by decide) dX4_waitsFor_14 ?_
      refine Zr_iload_n C dX4_waitsFor_17 rfl ?_
      refine Zr_iload_n C dX4_waitsFor_18 rfl ?_
      refine Zr_callS C cw_X4_68 (k_X4_row (i := i) (j := k)) rfl (Nat.le_of_ble_eq_true rfl) (Nat.le_of_ble_eq_true rfl) rfl (Nat.le_of_ble_eq_true rfl) dX4_waitsFor_19 ⟨Nat.zero_le _, Nat.zero_le _⟩ ?_
      refine Zr_zaldN C qm_16 rfl rfl (by omega) (by decide) (ra hR (by decide)) dX4_waitsFor_22 ?_
      refine Zr_if_eq C 30 dX4_waitsFor_23 (by decide) (fun h23 => ?_) (fun h23 => ?_)
      · refine Zr_iconst C (0) dX4_waitsFor_30 rfl ?_
        refine Zr_iadd C dX4_waitsFor_31 ?_
        refine Zr_topi (y := nI (aCnt (fun q => σ.1 1 16 (10 * i + q) != 0) (k + 1))) (by simp [aCnt, h23, nI_1]) ?_
        refine Zr_istore_n C dX4_waitsFor_32 (by decide) ?_
        refine Zr_iincE C (1) (nI (k + 1)) dX4_waitsFor_33 (by decide) rfl rfl (nI_1 _) ?_
        refine Zr_goto C 4 dX4_waitsFor_36 (by decide) ?_
        exact ih (k + 1) (by omega)
      · refine Zr_iconst C (1) dX4_waitsFor_26 rfl ?_
        refine Zr_goto C 31 dX4_waitsFor_27 (by decide) ?_
        refine Zr_iadd C dX4_waitsFor_31 ?_
        refine Zr_topi (y := nI (aCnt (fun q => σ.1 1 16 (10 * i + q) != 0) (k + 1))) (by simp [aCnt, h23, nI_1]) ?_
        refine Zr_istore_n C dX4_waitsFor_32 (by decide) ?_
        refine Zr_iincE C (1) (nI (k + 1)) dX4_waitsFor_33 (by decide) rfl rfl (nI_1 _) ?_
        refine Zr_goto C 4 dX4_waitsFor_36 (by decide) ?_
        exact ih (k + 1) (by omega)
  refine Zr_iconst C (0) dX4_waitsFor_0 rfl ?_
  refine Zr_istore_n C dX4_waitsFor_1 (by decide) ?_
  refine Zr_iconst C (0) dX4_waitsFor_2 rfl ?_
  refine Zr_istore_n C dX4_waitsFor_3 (by decide) ?_
  exact key n 0 (by omega)
set_option maxHeartbeats 4000000 in
set_option maxRecDepth 100000 in
theorem k_X4_pendingAt {l : Launch} {D : va_G} {K : zKs} {ad : zAd} {S : zSt} {σ : aS} {n i : Nat} (hB : aB n σ) (hR : rRel σ S) (hi : i < n) : zMet l yX4_pendingAt cX4_pendingAt 4 (some .int) { frames := 1, cells := 0, slots := 0, locals := 21 } D K rIL (rSh K) ad S [.ref (ad (0, 0)), .int (nI i)] (zEq (some (.int (nI (aPd σ n i)))) (rSh K) ad (S)) := by
  refine zEnter (own := RX4) (lv0 := [some (.ref (ad (0, 0))), some (.int (nI i)), none, none]) (by decide) rfl (by simp [Value.category]) (Nat.le_of_ble_eq_true rfl) rfl ?_
  intro p e s m below meth c A C _ hnm
  have hn := hB.2.2.1
  have key : ∀ (d k : Nat), k + d = n → Z p l e ({ frames := 1, cells := 0, slots := 0, locals := 21 } : Room) s m ([.ref (ad (0, 0)), .int (nI i)] : List Value).toArray below meth c D A 4 (MQ below (zQ (zEq (some (.int (nI (aPd σ n i)))) (rSh K) ad (S)) rIL D A) ([.ref (ad (0, 0)), .int (nI i)] : List Value).toArray s 0 0 A) rIL 0 0 (rSh K) ad S (4) ([some (.ref (ad (0, 0))), some (.int (nI i)), some (.int (nI (aCnt (fun q => σ.1 1 17 (10 * i + q) != 0) k))), some (.int (nI k))]) ([]) := by
    intro d
    induction d with
    | zero =>
      intro k hk
      have hk : k = n := by omega
      subst hk
      refine Zr_iload_n C dX4_pendingAt_4 rfl ?_
      refine Zr_aload_n C dX4_pendingAt_5 rfl ?_
      refine Zr_getE C gf_X4_60 qm0 rfl rfl rfl (rg hR) dX4_pendingAt_6 ?_
      refine Zr_icmp_ge C 39 dX4_pendingAt_9 (by decide) (fun h9 => ?_) (fun h9 => absurd (by rw [hB.1]; exact nI_le (Nat.le_refl _) (by omega)) h9)
      refine Zr_iload_n C dX4_pendingAt_39 rfl ?_
      exact Zr_iret C dX4_pendingAt_40 (Nat.zero_le _) (Nat.zero_le _) ⟨rfl, rfl, rfl, rfl⟩
    | succ d ih =>
      intro k hk
      have hkl : k < n := by omega
      refine Zr_iload_n C dX4_pendingAt_4 rfl ?_
      refine Zr_aload_n C dX4_pendingAt_5 rfl ?_
      refine Zr_getE C gf_X4_60 qm0 rfl rfl rfl (rg hR) dX4_pendingAt_6 ?_
      refine Zr_icmp_ge C 39 dX4_pendingAt_9 (by decide) (fun h9 => absurd h9 (by rw [hB.1]; exact nI_ge hkl (by omega))) (fun h9 => ?_)
      refine Zr_iload_n C dX4_pendingAt_12 rfl ?_
      refine Zr_aload_n C dX4_pendingAt_13 rfl ?_
      refine Zr_getR C gf_X4_38 qm0 rfl rfl rfl (by decide) dX4_pendingAt_14 ?_
      refine Zr_iload_n C dX4_pendingAt_17 rfl ?_
      refine Zr_iload_n C dX4_pendingAt_18 rfl ?_
      refine Zr_callS C cw_X4_68 (k_X4_row (i := i) (j := k)) rfl (Nat.le_of_ble_eq_true rfl) (Nat.le_of_ble_eq_true rfl) rfl (Nat.le_of_ble_eq_true rfl) dX4_pendingAt_19 ⟨Nat.zero_le _, Nat.zero_le _⟩ ?_
      refine Zr_zaldN C qm_17 rfl rfl (by omega) (by decide) (ra hR (by decide)) dX4_pendingAt_22 ?_
      refine Zr_if_eq C 30 dX4_pendingAt_23 (by decide) (fun h23 => ?_) (fun h23 => ?_)
      · refine Zr_iconst C (0) dX4_pendingAt_30 rfl ?_
        refine Zr_iadd C dX4_pendingAt_31 ?_
        refine Zr_topi (y := nI (aCnt (fun q => σ.1 1 17 (10 * i + q) != 0) (k + 1))) (by simp [aCnt, h23, nI_1]) ?_
        refine Zr_istore_n C dX4_pendingAt_32 (by decide) ?_
        refine Zr_iincE C (1) (nI (k + 1)) dX4_pendingAt_33 (by decide) rfl rfl (nI_1 _) ?_
        refine Zr_goto C 4 dX4_pendingAt_36 (by decide) ?_
        exact ih (k + 1) (by omega)
      · refine Zr_iconst C (1) dX4_pendingAt_26 rfl ?_
        refine Zr_goto C 31 dX4_pendingAt_27 (by decide) ?_
        refine Zr_iadd C dX4_pendingAt_31 ?_
        refine Zr_topi (y := nI (aCnt (fun q => σ.1 1 17 (10 * i + q) != 0) (k + 1))) (by simp [aCnt, h23, nI_1]) ?_
        refine Zr_istore_n C dX4_pendingAt_32 (by decide) ?_
        refine Zr_iincE C (1) (nI (k + 1)) dX4_pendingAt_33 (by decide) rfl rfl (nI_1 _) ?_
        refine Zr_goto C 4 dX4_pendingAt_36 (by decide) ?_
        exact ih (k + 1) (by omega)
  refine Zr_iconst C (0) dX4_pendingAt_0 rfl ?_
  refine Zr_istore_n C dX4_pendingAt_1 (by decide) ?_
  refine Zr_iconst C (0) dX4_pendingAt_2 rfl ?_
  refine Zr_istore_n C dX4_pendingAt_3 (by decide) ?_
  exact key n 0 (by omega)
set_option maxHeartbeats 4000000 in
set_option maxRecDepth 100000 in
theorem k_X4_isBlocked {l : Launch} {D : va_G} {K : zKs} {ad : zAd} {S : zSt} {σ : aS} {n i : Nat} (hB : aB n σ) (hR : rRel σ S) (hi : i < n) : zMet l yX4_isBlocked cX4_isBlocked 2 (some .boolean) { frames := 2, cells := 0, slots := 0, locals := 44 } D K rIL (rSh K) ad S [.ref (ad (0, 0)), .int (nI i)] (zEq (some (.int (if aWf σ n i = 0 then 0 else 1))) (rSh K) ad (S)) := by
  refine zEnter (own := RX4) (lv0 := [some (.ref (ad (0, 0))), some (.int (nI i))]) (by decide) rfl (by simp [Value.category]) (Nat.le_of_ble_eq_true rfl) rfl ?_
  intro p e s m below meth c A C _ hnm
  have hn := hB.2.2.1
  have hw : aWf σ n i ≤ n := aCnt_le _ _
  rcases Nat.eq_zero_or_pos (aWf σ n i) with hz | hz
  · refine Zr_aload_n C dX4_isBlocked_0 rfl ?_
    refine Zr_iload_n C dX4_isBlocked_1 rfl ?_
    refine Zr_callV C cw_X4_72 (k_X4_waitsFor hB hR hi) qm0 rfl rfl rfl (Nat.le_of_ble_eq_true rfl) (Nat.le_of_ble_eq_true rfl) rfl (Nat.le_of_ble_eq_true rfl) dX4_isBlocked_2 ⟨Nat.zero_le _, Nat.zero_le _⟩ ?_
    refine Zr_if_le C 12 dX4_isBlocked_5 (by decide) (fun h5 => ?_) (fun h5 => absurd (by rw [hz]; decide) h5)
    refine Zr_iconst C (0) dX4_isBlocked_12 rfl ?_
    exact Zr_zret C dX4_isBlocked_13 (Nat.zero_le _) (Nat.zero_le _) (by first | exact Or.inl rfl | exact Or.inr rfl | assumption) ⟨by simp [hz], rfl, rfl, rfl⟩
  · refine Zr_aload_n C dX4_isBlocked_0 rfl ?_
    refine Zr_iload_n C dX4_isBlocked_1 rfl ?_
    refine Zr_callV C cw_X4_72 (k_X4_waitsFor hB hR hi) qm0 rfl rfl rfl (Nat.le_of_ble_eq_true rfl) (Nat.le_of_ble_eq_true rfl) rfl (Nat.le_of_ble_eq_true rfl) dX4_isBlocked_2 ⟨Nat.zero_le _, Nat.zero_le _⟩ ?_
    refine Zr_if_le C 12 dX4_isBlocked_5 (by decide) (fun h5 => absurd h5 (nI_nle hz (by omega))) (fun h5 => ?_)
    refine Zr_iconst C (1) dX4_isBlocked_8 rfl ?_
    refine Zr_goto C 13 dX4_isBlocked_9 (by decide) ?_
    exact Zr_zret C dX4_isBlocked_13 (Nat.zero_le _) (Nat.zero_le _) (by first | exact Or.inl rfl | exact Or.inr rfl | assumption) ⟨by rw [if_neg (by omega)], rfl, rfl, rfl⟩
set_option maxHeartbeats 4000000 in
set_option maxRecDepth 100000 in
theorem k_X4_isFree {l : Launch} {D : va_G} {K : zKs} {ad : zAd} {S : zSt} {σ : aS} {n i : Nat} (hB : aB n σ) (hR : rRel σ S) (hi : i < n) : zMet l yX4_isFree cX4_isFree 2 (some .boolean) { frames := 3, cells := 0, slots := 0, locals := 65 } D K rIL (rSh K) ad S [.ref (ad (0, 0)), .int (nI i)] (zEq (some (.int (if aFree σ n i = true then 1 else 0))) (rSh K) ad (S)) := by
  refine zEnter (own := RX4) (lv0 := [some (.ref (ad (0, 0))), some (.int (nI i))]) (by decide) rfl (by simp [Value.category]) (Nat.le_of_ble_eq_true rfl) rfl ?_
  intro p e s m below meth c A C _ hnm
  have hn := hB.2.2.1
  by_cases hw : aWf σ n i = 0
  · refine Zr_aload_n C dX4_isFree_0 rfl ?_
    refine Zr_iload_n C dX4_isFree_1 rfl ?_
    refine Zr_callV C cw_X4_64 (k_X4_isOne_t hB hR hi) qm0 rfl rfl rfl (Nat.le_of_ble_eq_true rfl) (Nat.le_of_ble_eq_true rfl) rfl (Nat.le_of_ble_eq_true rfl) dX4_isFree_2 ⟨Nat.zero_le _, Nat.zero_le _⟩ ?_
    refine Zr_if_eq C 29 dX4_isFree_5 (by decide) (fun h5 => absurd h5 (by decide)) (fun h5 => ?_)
    refine Zr_aload_n C dX4_isFree_8 rfl ?_
    refine Zr_getR C gf_X4_9 qm0 rfl rfl rfl (by decide) dX4_isFree_9 ?_
    refine Zr_iload_n C dX4_isFree_12 rfl ?_
    refine Zr_zaldN C qm_8 rfl rfl (by omega) (by decide) (ra hR (by decide)) dX4_isFree_13 ?_
    refine Zr_if_eq C 29 dX4_isFree_14 (by decide) (fun h14 => ?_) (fun h14 => ?_)
    · refine Zr_iconst C (0) dX4_isFree_29 rfl ?_
      exact Zr_zret C dX4_isFree_30 (Nat.zero_le _) (Nat.zero_le _) (by first | exact Or.inl rfl | exact Or.inr rfl | assumption) ⟨by simp [aFree, hw, h14], rfl, rfl, rfl⟩
    · refine Zr_aload_n C dX4_isFree_17 rfl ?_
      refine Zr_iload_n C dX4_isFree_18 rfl ?_
      refine Zr_callV C cw_X4_76 (k_X4_isBlocked hB hR hi) qm0 rfl rfl rfl (Nat.le_of_ble_eq_true rfl) (Nat.le_of_ble_eq_true rfl) rfl (Nat.le_of_ble_eq_true rfl) dX4_isFree_19 ⟨Nat.zero_le _, Nat.zero_le _⟩ ?_
      refine Zr_topi (y := 0) (if_pos hw) ?_
      refine Zr_if_ne C 29 dX4_isFree_22 (by decide) (fun h22 => absurd rfl h22) (fun h22 => ?_)
      refine Zr_iconst C (1) dX4_isFree_25 rfl ?_
      refine Zr_goto C 30 dX4_isFree_26 (by decide) ?_
      exact Zr_zret C dX4_isFree_30 (Nat.zero_le _) (Nat.zero_le _) (by first | exact Or.inl rfl | exact Or.inr rfl | assumption) ⟨by simp [aFree, hw, h14], rfl, rfl, rfl⟩
  · refine Zr_aload_n C dX4_isFree_0 rfl ?_
    refine Zr_iload_n C dX4_isFree_1 rfl ?_
    refine Zr_callV C cw_X4_64 (k_X4_isOne_t hB hR hi) qm0 rfl rfl rfl (Nat.le_of_ble_eq_true rfl) (Nat.le_of_ble_eq_true rfl) rfl (Nat.le_of_ble_eq_true rfl) dX4_isFree_2 ⟨Nat.zero_le _, Nat.zero_le _⟩ ?_
    refine Zr_if_eq C 29 dX4_isFree_5 (by decide) (fun h5 => absurd h5 (by decide)) (fun h5 => ?_)
    refine Zr_aload_n C dX4_isFree_8 rfl ?_
    refine Zr_getR C gf_X4_9 qm0 rfl rfl rfl (by decide) dX4_isFree_9 ?_
    refine Zr_iload_n C dX4_isFree_12 rfl ?_
    refine Zr_zaldN C qm_8 rfl rfl (by omega) (by decide) (ra hR (by decide)) dX4_isFree_13 ?_
    refine Zr_if_eq C 29 dX4_isFree_14 (by decide) (fun h14 => ?_) (fun h14 => ?_)
    · refine Zr_iconst C (0) dX4_isFree_29 rfl ?_
      exact Zr_zret C dX4_isFree_30 (Nat.zero_le _) (Nat.zero_le _) (by first | exact Or.inl rfl | exact Or.inr rfl | assumption) ⟨by simp [aFree, hw], rfl, rfl, rfl⟩
    · refine Zr_aload_n C dX4_isFree_17 rfl ?_
      refine Zr_iload_n C dX4_isFree_18 rfl ?_
      refine Zr_callV C cw_X4_76 (k_X4_isBlocked hB hR hi) qm0 rfl rfl rfl (Nat.le_of_ble_eq_true rfl) (Nat.le_of_ble_eq_true rfl) rfl (Nat.le_of_ble_eq_true rfl) dX4_isFree_19 ⟨Nat.zero_le _, Nat.zero_le _⟩ ?_
      refine Zr_topi (y := 1) (if_neg hw) ?_
      refine Zr_if_ne C 29 dX4_isFree_22 (by decide) (fun h22 => ?_) (fun h22 => absurd h22 (by decide))
      refine Zr_iconst C (0) dX4_isFree_29 rfl ?_
      exact Zr_zret C dX4_isFree_30 (Nat.zero_le _) (Nat.zero_le _) (by first | exact Or.inl rfl | exact Or.inr rfl | assumption) ⟨by simp [aFree, hw], rfl, rfl, rfl⟩
set_option maxHeartbeats 4000000 in
set_option maxRecDepth 100000 in
theorem k_X4_isFree_f {l : Launch} {D : va_G} {K : zKs} {ad : zAd} {S : zSt} {σ : aS} {n : Nat} {x : Int32} (hB : aB n σ) (hR : rRel σ S) (hx : aBad n x) : zMet l yX4_isFree cX4_isFree 2 (some .boolean) { frames := 3, cells := 0, slots := 0, locals := 65 } D K rIL (rSh K) ad S [.ref (ad (0, 0)), .int x] (zEq (some (.int 0)) (rSh K) ad (S)) := by
  refine zEnter (own := RX4) (lv0 := [some (.ref (ad (0, 0))), some (.int x)]) (by decide) rfl (by simp [Value.category]) (Nat.le_of_ble_eq_true rfl) rfl ?_
  intro p e s m below meth c A C _ hnm
  refine Zr_aload_n C dX4_isFree_0 rfl ?_
  refine Zr_iload_n C dX4_isFree_1 rfl ?_
  refine Zr_callV C cw_X4_64 (k_X4_isOne_f hB hR hx) qm0 rfl rfl rfl (Nat.le_of_ble_eq_true rfl) (Nat.le_of_ble_eq_true rfl) rfl (Nat.le_of_ble_eq_true rfl) dX4_isFree_2 ⟨Nat.zero_le _, Nat.zero_le _⟩ ?_
  refine Zr_if_eq C 29 dX4_isFree_5 (by decide) (fun h5 => ?_) (fun h5 => absurd rfl h5)
  refine Zr_iconst C (0) dX4_isFree_29 rfl ?_
  exact Zr_zret C dX4_isFree_30 (Nat.zero_le _) (Nat.zero_le _) (by first | exact Or.inl rfl | exact Or.inr rfl | assumption) ⟨rfl, rfl, rfl, rfl⟩
set_option maxHeartbeats 4000000 in
set_option maxRecDepth 100000 in
theorem k_X4_isInTree {l : Launch} {D : va_G} {K : zKs} {ad : zAd} {S : zSt} {σ : aS} {n i : Nat} (hB : aB n σ) (hR : rRel σ S) (hi : i < n) : zMet l yX4_isInTree cX4_isInTree 2 (some .boolean) { frames := 0, cells := 0, slots := 0, locals := 0 } D K rIL (rSh K) ad S [.ref (ad (0, 0)), .int (nI i)] (zEq (some (.int (if aTree σ i = true then 1 else 0))) (rSh K) ad (S)) := by
  refine zEnter (own := RX4) (lv0 := [some (.ref (ad (0, 0))), some (.int (nI i))]) (by decide) rfl (by simp [Value.category]) (Nat.le_of_ble_eq_true rfl) rfl ?_
  intro p e s m below meth c A C _ hnm
  have hn := hB.2.2.1
  rcases Nat.eq_zero_or_pos i with rfl | hz
  · refine Zr_iload_n C dX4_isInTree_0 rfl ?_
    refine Zr_if_ne C 26 dX4_isInTree_1 (by decide) (fun h1 => absurd rfl h1) (fun h1 => ?_)
    refine Zr_aload_n C dX4_isInTree_4 rfl ?_
    refine Zr_getE C gf_X4_79 qm0 rfl rfl rfl (rg hR) dX4_isInTree_5 ?_
    refine Zr_if_eq C 22 dX4_isInTree_8 (by decide) (fun h8 => ?_) (fun h8 => ?_)
    · refine Zr_iconst C (0) dX4_isInTree_22 rfl ?_
      refine Zr_goto C 41 dX4_isInTree_23 (by decide) ?_
      exact Zr_zret C dX4_isInTree_41 (Nat.zero_le _) (Nat.zero_le _) (by first | exact Or.inl rfl | exact Or.inr rfl | assumption) ⟨by simp [*, aTree], rfl, rfl, rfl⟩
    · refine Zr_aload_n C dX4_isInTree_11 rfl ?_
      refine Zr_getE C gf_X4_83 qm0 rfl rfl rfl (rg hR) dX4_isInTree_12 ?_
      refine Zr_if_ne C 22 dX4_isInTree_15 (by decide) (fun h15 => ?_) (fun h15 => ?_)
      · refine Zr_iconst C (0) dX4_isInTree_22 rfl ?_
        refine Zr_goto C 41 dX4_isInTree_23 (by decide) ?_
        exact Zr_zret C dX4_isInTree_41 (Nat.zero_le _) (Nat.zero_le _) (by first | exact Or.inl rfl | exact Or.inr rfl | assumption) ⟨by simp [*, aTree], rfl, rfl, rfl⟩
      · refine Zr_iconst C (1) dX4_isInTree_18 rfl ?_
        refine Zr_goto C 41 dX4_isInTree_19 (by decide) ?_
        exact Zr_zret C dX4_isInTree_41 (Nat.zero_le _) (Nat.zero_le _) (by first | exact Or.inl rfl | exact Or.inr rfl | assumption) ⟨by simp [*, aTree], rfl, rfl, rfl⟩
  · have hz2 : ¬ i = 0 := by omega
    refine Zr_iload_n C dX4_isInTree_0 rfl ?_
    refine Zr_if_ne C 26 dX4_isInTree_1 (by decide) (fun h1 => ?_) (fun h1 => absurd h1 (nI_ne0 hz (by omega)))
    refine Zr_aload_n C dX4_isInTree_26 rfl ?_
    refine Zr_getR C gf_X4_13 qm0 rfl rfl rfl (by decide) dX4_isInTree_27 ?_
    refine Zr_iload_n C dX4_isInTree_30 rfl ?_
    refine Zr_ialdN C qm_9 rfl rfl (by omega) (by decide) (ra hR (by decide)) dX4_isInTree_31 ?_
    refine Zr_iconst C (-1) dX4_isInTree_32 rfl ?_
    refine Zr_icmp_eq C 40 dX4_isInTree_33 (by decide) (fun h33 => ?_) (fun h33 => ?_)
    · refine Zr_iconst C (0) dX4_isInTree_40 rfl ?_
      exact Zr_zret C dX4_isInTree_41 (Nat.zero_le _) (Nat.zero_le _) (by first | exact Or.inl rfl | exact Or.inr rfl | assumption) ⟨by simp [*, aTree], rfl, rfl, rfl⟩
    · refine Zr_iconst C (1) dX4_isInTree_36 rfl ?_
      refine Zr_goto C 41 dX4_isInTree_37 (by decide) ?_
      exact Zr_zret C dX4_isInTree_41 (Nat.zero_le _) (Nat.zero_le _) (by first | exact Or.inl rfl | exact Or.inr rfl | assumption) ⟨by simp [*, aTree], rfl, rfl, rfl⟩
set_option maxHeartbeats 4000000 in
set_option maxRecDepth 100000 in
theorem k_X4_sends {l : Launch} {D : va_G} {K : zKs} {ad : zAd} {S : zSt} {σ : aS} {i j : Nat} {kd wh nm : Int32} (hR : rRel σ S) (hi : i < 10) (hj : j < 10) (hl : (σ.2.1 (10 * i + j)).length < 640) : zMet l yX4_sends cX4_sends 8 none { frames := 1, cells := 0, slots := 0, locals := 21 } D K rIL (rSh K) ad S [.ref (ad (0, 0)), .int (nI i), .int (nI j), .int kd, .int wh, .int nm] (zR none (rSh K) ad (rRel (aPush σ (10 * i + j) (kd, wh, nm)))) := by
  refine zEnter (own := RX4) (lv0 := [some (.ref (ad (0, 0))), some (.int (nI i)), some (.int (nI j)), some (.int kd), some (.int wh), some (.int nm), none, none]) (by decide) rfl (by simp [Value.category]) (Nat.le_of_ble_eq_true rfl) rfl ?_
  intro p e s m below meth c A C _ hnm
  have hr : 10 * i + j < 100 := by omega
  refine Zr_iload_n C dX4_sends_0 rfl ?_
  refine Zr_iload_n C dX4_sends_1 rfl ?_
  refine Zr_callS C cw_X4_68 (k_X4_row (i := i) (j := j)) rfl (Nat.le_of_ble_eq_true rfl) (Nat.le_of_ble_eq_true rfl) rfl (Nat.le_of_ble_eq_true rfl) dX4_sends_2 ⟨Nat.zero_le _, Nat.zero_le _⟩ ?_
  refine Zr_istore C dX4_sends_5 (by decide) ?_
  refine Zr_sipush C (640) dX4_sends_7 rfl ?_
  refine Zr_iload C dX4_sends_10 rfl ?_
  refine Zr_imul C dX4_sends_12 ?_
  refine Zr_aload_n C dX4_sends_13 rfl ?_
  refine Zr_getR C gf_X4_44 qm0 rfl rfl rfl (by decide) dX4_sends_14 ?_
  refine Zr_iload C dX4_sends_17 rfl ?_
  refine Zr_ialdN C qm_22 rfl rfl hr (by decide) (rmy hR hr) dX4_sends_19 ?_
  refine Zr_iadd C dX4_sends_20 ?_
  refine Zr_topi (y := nI (640 * (10 * i + j) + (σ.2.1 (10 * i + j)).length)) (x640 _ _) ?_
  refine Zr_istore C dX4_sends_21 (by decide) ?_
  refine Zr_aload_n C dX4_sends_23 rfl ?_
  refine Zr_getR C gf_X4_48 qm0 rfl rfl rfl (by decide) dX4_sends_24 ?_
  refine Zr_iload C dX4_sends_27 rfl ?_
  refine Zr_iload_n C dX4_sends_29 rfl ?_
  refine Zr_iastN (Rel := fun X => X = _) C qm_23 rfl rfl (by omega) (by decide) rfl dX4_sends_30 (fun S1 hS1 => ?_)
  subst hS1
  refine Zr_aload_n C dX4_sends_31 rfl ?_
  refine Zr_getR C gf_X4_51 qm0 rfl rfl rfl (by decide) dX4_sends_32 ?_
  refine Zr_iload C dX4_sends_35 rfl ?_
  refine Zr_iload C dX4_sends_37 rfl ?_
  refine Zr_iastN (Rel := fun X => X = _) C qm_24 rfl rfl (by omega) (by decide) rfl dX4_sends_39 (fun S1 hS1 => ?_)
  subst hS1
  refine Zr_aload_n C dX4_sends_40 rfl ?_
  refine Zr_getR C gf_X4_54 qm0 rfl rfl rfl (by decide) dX4_sends_41 ?_
  refine Zr_iload C dX4_sends_44 rfl ?_
  refine Zr_iload C dX4_sends_46 rfl ?_
  refine Zr_iastN (Rel := fun X => X = _) C qm_25 rfl rfl (by omega) (by decide) rfl dX4_sends_48 (fun S1 hS1 => ?_)
  subst hS1
  refine Zr_aload_n C dX4_sends_49 rfl ?_
  refine Zr_getR C gf_X4_44 qm0 rfl rfl rfl (by decide) dX4_sends_50 ?_
  refine Zr_iload C dX4_sends_53 rfl ?_
  refine Zr_dup2 C dX4_sends_55 rfl rfl ?_
  refine Zr_ialdN C qm_22 rfl rfl hr (by decide) (by simp [z3]; exact rmy hR hr) dX4_sends_56 ?_
  refine Zr_iconst C (1) dX4_sends_57 rfl ?_
  refine Zr_iadd C dX4_sends_58 ?_
  refine Zr_iastN (Rel := fun X => X = _) C qm_22 rfl rfl hr (by decide) rfl dX4_sends_59 (fun S1 hS1 => ?_)
  subst hS1
  exact Zr_vret C dX4_sends_60 (Nat.zero_le _) (Nat.zero_le _) ⟨rfl, rfl, rfl, rPush (m := (kd, wh, nm)) hR hr hl rfl⟩
