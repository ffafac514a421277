theorem fMsg_at {l : List aM} {k : Nat} {mm : aM} (hk : k < 2 ^ 31) (h : l[k]? = some mm) (w : Int32) : fMsg l (nI k) w = if w = 0 then mm.1 else if w = 1 then mm.2.1 else if w = 2 then mm.2.2 else -1 := by
  simp only [fMsg]
  rw [if_neg (nI_pos hk), nI_clamp hk, h]
theorem fMsg_no {l : List aM} {x : Int32} (hl : l.length < 2 ^ 31) (h : x < 0 ∨ nI l.length ≤ x) (w : Int32) : fMsg l x w = -1 := by
  by_cases hx : x < 0
  · simp [fMsg, hx]
  · obtain ⟨k, hk, rfl⟩ := nI_of hx
    have h2 := (nI_leI hl hk).mp (h.resolve_left hx)
    simp only [fMsg]
    rw [if_neg hx, nI_clamp hk, List.getElem?_eq_none h2]
set_option maxHeartbeats 4000000 in
set_option maxRecDepth 100000 in
theorem k_X4_message {l : Launch} {D : va_G} {K : zKs} {ad : zAd} {S : zSt} {σ : aS} {n i j : Nat} {x w : Int32} (hB : aB n σ) (hR : rRel σ S) (hi : i < n) (hj : j < n) (hij : i ≠ j) : zMet l yX4_message cX4_message 6 (some .int) { frames := 2, cells := 0, slots := 0, locals := 43 } D K rIL (rSh K) ad S [.ref (ad (0, 0)), .int (nI i), .int (nI j), .int x, .int w] (zEq (some (.int (fMsg (σ.2.1 (10 * i + j)) x w))) (rSh K) ad (S)) := by
  refine zEnter (own := RX4) (lv0 := [some (.ref (ad (0, 0))), some (.int (nI i)), some (.int (nI j)), some (.int x), some (.int w), none]) (by decide) rfl (by simp [Value.category]) (Nat.le_of_ble_eq_true rfl) rfl ?_
  intro p e s m below meth c A C _ hnm
  have hn := hB.2.2.1
  have hr : 10 * i + j < 100 := r10 hi hj hn
  have hlen := rlen hR hr
  by_cases hx : x < 0 ∨ nI (σ.2.1 (10 * i + j)).length ≤ x
  · refine Zr_aload_n C dX4_message_0 rfl ?_
    refine Zr_iload_n C dX4_message_1 rfl ?_
    refine Zr_iload_n C dX4_message_2 rfl ?_
    refine Zr_callV C cw_X4_103 (k_X4_isRow_t hB hR hi hj hij) qm0 rfl rfl rfl (Nat.le_of_ble_eq_true rfl) (Nat.le_of_ble_eq_true rfl) rfl (Nat.le_of_ble_eq_true rfl) dX4_message_3 ⟨Nat.zero_le _, Nat.zero_le _⟩ ?_
    refine Zr_if_eq C 27 dX4_message_6 (by decide) (fun h6 => absurd h6 (by decide)) (fun h6 => ?_)
    refine Zr_iload_n C dX4_message_9 rfl ?_
    refine Zr_if_lt C 27 dX4_message_10 (by decide) (fun h10 => ?_) (fun h10 => ?_)
    · refine Zr_iconst C (-1) dX4_message_27 rfl ?_
      exact Zr_iret C dX4_message_28 (Nat.zero_le _) (Nat.zero_le _) ⟨by rw [fMsg_no (by omega) hx], rfl, rfl, rfl⟩
    · refine Zr_iload_n C dX4_message_13 rfl ?_
      refine Zr_aload_n C dX4_message_14 rfl ?_
      refine Zr_getR C gf_X4_44 qm0 rfl rfl rfl (by decide) dX4_message_15 ?_
      refine Zr_iload_n C dX4_message_18 rfl ?_
      refine Zr_iload_n C dX4_message_19 rfl ?_
      refine Zr_callS C cw_X4_68 (k_X4_row (i := i) (j := j)) rfl (Nat.le_of_ble_eq_true rfl) (Nat.le_of_ble_eq_true rfl) rfl (Nat.le_of_ble_eq_true rfl) dX4_message_20 ⟨Nat.zero_le _, Nat.zero_le _⟩ ?_
      refine Zr_ialdN C qm_22 rfl rfl hr (by decide) (rmy hR hr) dX4_message_23 ?_
      refine Zr_icmp_lt C 29 dX4_message_24 (by decide) (fun h24 => absurd (hx.resolve_left h10) (fun h => absurd h24 (i32_le h))) (fun h24 => ?_)
      refine Zr_iconst C (-1) dX4_message_27 rfl ?_
      exact Zr_iret C dX4_message_28 (Nat.zero_le _) (Nat.zero_le _) ⟨by rw [fMsg_no (by omega) hx], rfl, rfl, rfl⟩
  · obtain ⟨k, hk, rfl⟩ := nI_of (fun h => hx (Or.inl h))
    have hkl : k < (σ.2.1 (10 * i + j)).length := by
      rcases Nat.lt_or_ge k (σ.2.1 (10 * i + j)).length with h | h
      · exact h
      · exact absurd (Or.inr (nI_le h (by omega))) hx
    obtain ⟨mm, hm⟩ : ∃ mm, (σ.2.1 (10 * i + j))[k]? = some mm := ⟨_, List.getElem?_eq_getElem hkl⟩
    refine Zr_aload_n C dX4_message_0 rfl ?_
    refine Zr_iload_n C dX4_message_1 rfl ?_
    refine Zr_iload_n C dX4_message_2 rfl ?_
    refine Zr_callV C cw_X4_103 (k_X4_isRow_t hB hR hi hj hij) qm0 rfl rfl rfl (Nat.le_of_ble_eq_true rfl) (Nat.le_of_ble_eq_true rfl) rfl (Nat.le_of_ble_eq_true rfl) dX4_message_3 ⟨Nat.zero_le _, Nat.zero_le _⟩ ?_
    refine Zr_if_eq C 27 dX4_message_6 (by decide) (fun h6 => absurd h6 (by decide)) (fun h6 => ?_)
    refine Zr_iload_n C dX4_message_9 rfl ?_
    refine Zr_if_lt C 27 dX4_message_10 (by decide) (fun h10 => absurd h10 (nI_pos hk)) (fun h10 => ?_)
    refine Zr_iload_n C dX4_message_13 rfl ?_
    refine Zr_aload_n C dX4_message_14 rfl ?_
    refine Zr_getR C gf_X4_44 qm0 rfl rfl rfl (by decide) dX4_message_15 ?_
    refine Zr_iload_n C dX4_message_18 rfl ?_
    refine Zr_iload_n C dX4_message_19 rfl ?_
    refine Zr_callS C cw_X4_68 (k_X4_row (i := i) (j := j)) rfl (Nat.le_of_ble_eq_true rfl) (Nat.le_of_ble_eq_true rfl) rfl (Nat.le_of_ble_eq_true rfl) dX4_message_20 ⟨Nat.zero_le _, Nat.zero_le _⟩ ?_
    refine Zr_ialdN C qm_22 rfl rfl hr (by decide) (rmy hR hr) dX4_message_23 ?_
    refine Zr_icmp_lt C 29 dX4_message_24 (by decide) (fun h24 => ?_) (fun h24 => absurd (nI_lt hkl (by omega)) h24)
    refine Zr_sipush C (640) dX4_message_29 rfl ?_
    refine Zr_iload_n C dX4_message_32 rfl ?_
    refine Zr_iload_n C dX4_message_33 rfl ?_
    refine Zr_callS C cw_X4_68 (k_X4_row (i := i) (j := j)) rfl (Nat.le_of_ble_eq_true rfl) (Nat.le_of_ble_eq_true rfl) rfl (Nat.le_of_ble_eq_true rfl) dX4_message_34 ⟨Nat.zero_le _, Nat.zero_le _⟩ ?_
    refine Zr_imul C dX4_message_37 ?_
    refine Zr_iload_n C dX4_message_38 rfl ?_
    refine Zr_iadd C dX4_message_39 ?_
    refine Zr_topi (y := nI (640 * (10 * i + j) + k)) (x640 _ _) ?_
    refine Zr_istore C dX4_message_40 (by decide) ?_
    refine Zr_iload C dX4_message_42 rfl ?_
    refine Zr_if_ne C 57 dX4_message_44 (by decide) (fun h44 => ?_) (fun h44 => ?_)
    · refine Zr_iload C dX4_message_57 rfl ?_
      refine Zr_iconst C (1) dX4_message_59 rfl ?_
      refine Zr_icmp_ne C 73 dX4_message_60 (by decide) (fun h60 => ?_) (fun h60 => ?_)
      · refine Zr_iload C dX4_message_73 rfl ?_
        refine Zr_iconst C (2) dX4_message_75 rfl ?_
        refine Zr_icmp_ne C 89 dX4_message_76 (by decide) (fun h76 => ?_) (fun h76 => ?_)
        · refine Zr_iconst C (-1) dX4_message_89 rfl ?_
          exact Zr_iret C dX4_message_90 (Nat.zero_le _) (Nat.zero_le _) ⟨by rw [fMsg_at hk hm]; simp [*], rfl, rfl, rfl⟩
        · refine Zr_aload_n C dX4_message_79 rfl ?_
          refine Zr_getR C gf_X4_54 qm0 rfl rfl rfl (by decide) dX4_message_80 ?_
          refine Zr_iload C dX4_message_83 rfl ?_
          refine Zr_ialdN C qm_25 rfl rfl (by omega) (by decide) ((hR.2 _ hr).2 k mm hm).2.2 dX4_message_85 ?_
          refine Zr_goto C 90 dX4_message_86 (by decide) ?_
          exact Zr_iret C dX4_message_90 (Nat.zero_le _) (Nat.zero_le _) ⟨by rw [fMsg_at hk hm]; simp [*], rfl, rfl, rfl⟩
      · refine Zr_aload_n C dX4_message_63 rfl ?_
        refine Zr_getR C gf_X4_51 qm0 rfl rfl rfl (by decide) dX4_message_64 ?_
        refine Zr_iload C dX4_message_67 rfl ?_
        refine Zr_ialdN C qm_24 rfl rfl (by omega) (by decide) ((hR.2 _ hr).2 k mm hm).2.1 dX4_message_69 ?_
        refine Zr_goto C 90 dX4_message_70 (by decide) ?_
        exact Zr_iret C dX4_message_90 (Nat.zero_le _) (Nat.zero_le _) ⟨by rw [fMsg_at hk hm]; simp [*], rfl, rfl, rfl⟩
    · refine Zr_aload_n C dX4_message_47 rfl ?_
      refine Zr_getR C gf_X4_48 qm0 rfl rfl rfl (by decide) dX4_message_48 ?_
      refine Zr_iload C dX4_message_51 rfl ?_
      refine Zr_ialdN C qm_23 rfl rfl (by omega) (by decide) ((hR.2 _ hr).2 k mm hm).1 dX4_message_53 ?_
      refine Zr_goto C 90 dX4_message_54 (by decide) ?_
      exact Zr_iret C dX4_message_90 (Nat.zero_le _) (Nat.zero_le _) ⟨by rw [fMsg_at hk hm]; simp [*], rfl, rfl, rfl⟩
set_option maxHeartbeats 4000000 in
set_option maxRecDepth 100000 in
theorem k_X4_message_f {l : Launch} {D : va_G} {K : zKs} {ad : zAd} {S : zSt} {σ : aS} {n : Nat} {x y z w : Int32} (hB : aB n σ) (hR : rRel σ S) (hx : aBad n x ∨ aBad n y ∨ x = y) : zMet l yX4_message cX4_message 6 (some .int) { frames := 2, cells := 0, slots := 0, locals := 43 } D K rIL (rSh K) ad S [.ref (ad (0, 0)), .int x, .int y, .int z, .int w] (zEq (some (.int (-1))) (rSh K) ad (S)) := by
  refine zEnter (own := RX4) (lv0 := [some (.ref (ad (0, 0))), some (.int x), some (.int y), some (.int z), some (.int w), none]) (by decide) rfl (by simp [Value.category]) (Nat.le_of_ble_eq_true rfl) rfl ?_
  intro p e s m below meth c A C _ hnm
  refine Zr_aload_n C dX4_message_0 rfl ?_
  refine Zr_iload_n C dX4_message_1 rfl ?_
  refine Zr_iload_n C dX4_message_2 rfl ?_
  refine Zr_callV C cw_X4_103 (k_X4_isRow_f hB hR hx) qm0 rfl rfl rfl (Nat.le_of_ble_eq_true rfl) (Nat.le_of_ble_eq_true rfl) rfl (Nat.le_of_ble_eq_true rfl) dX4_message_3 ⟨Nat.zero_le _, Nat.zero_le _⟩ ?_
  refine Zr_if_eq C 27 dX4_message_6 (by decide) (fun h6 => ?_) (fun h6 => absurd rfl h6)
  refine Zr_iconst C (-1) dX4_message_27 rfl ?_
  exact Zr_iret C dX4_message_28 (Nat.zero_le _) (Nat.zero_le _) ⟨rfl, rfl, rfl, rfl⟩
set_option maxHeartbeats 4000000 in
set_option maxRecDepth 100000 in
theorem k_X4_count {l : Launch} {D : va_G} {K : zKs} {ad : zAd} {S : zSt} {σ : aS} {n : Nat} {w : Int32} (hB : aB n σ) (hR : rRel σ S) : zMet l yX4_count cX4_count 4 (some .int) { frames := 1, cells := 0, slots := 0, locals := 24 } D K rIL (rSh K) ad S [.ref (ad (0, 0)), .int w] (zEq (some (.int (fCount σ w))) (rSh K) ad (S)) := by
  refine zEnter (own := RX4) (lv0 := [some (.ref (ad (0, 0))), some (.int w), none, none]) (by decide) rfl (by simp [Value.category]) (Nat.le_of_ble_eq_true rfl) rfl ?_
  intro p e s m below meth c A C _ hnm
  have hb := hB.2.2.2.1
  have key6 : w = 6 → ∀ (d k : Nat), k + d = 100 → Z p l e ({ frames := 1, cells := 0, slots := 0, locals := 24 } : Room) s m ([.ref (ad (0, 0)), .int w] : List Value).toArray below meth c D A 4 (MQ below (zQ (zEq (some (.int (fCount σ w))) (rSh K) ad (S)) rIL D A) ([.ref (ad (0, 0)), .int w] : List Value).toArray s 0 0 A) rIL 0 0 (rSh K) ad S (97) ([some (.ref (ad (0, 0))), some (.int w), some (.int (nI (aSum (fun r => (σ.2.1 r).length) k))), some (.int (nI k))]) ([]) := by
    intro hw d
    induction d with
    | zero =>
      intro k hk
      have hk : k = 100 := by omega
      subst hk
      refine Zr_iload_n C dX4_count_97 rfl ?_
      refine Zr_bipush C (100) dX4_count_98 rfl ?_
      refine Zr_icmp_ge C 118 dX4_count_100 (by decide) (fun h100 => ?_) (fun h100 => absurd (by decide) h100)
      refine Zr_iload_n C dX4_count_118 rfl ?_
      exact Zr_iret C dX4_count_119 (Nat.zero_le _) (Nat.zero_le _) ⟨by rw [hw]; rfl, rfl, rfl, rfl⟩
    | succ d ih =>
      intro k hk
      refine Zr_iload_n C dX4_count_97 rfl ?_
      refine Zr_bipush C (100) dX4_count_98 rfl ?_
      refine Zr_icmp_ge C 118 dX4_count_100 (by decide) (fun h100 => absurd h100 (nI_ge (b := 100) (by omega) (by decide))) (fun h100 => ?_)
      refine Zr_iload_n C dX4_count_103 rfl ?_
      refine Zr_aload_n C dX4_count_104 rfl ?_
      refine Zr_getR C gf_X4_44 qm0 rfl rfl rfl (by decide) dX4_count_105 ?_
      refine Zr_iload_n C dX4_count_108 rfl ?_
      refine Zr_ialdN C qm_22 rfl rfl (by omega) (by decide) (rmy hR (by omega)) dX4_count_109 ?_
      refine Zr_iadd C dX4_count_110 ?_
      refine Zr_topi (y := nI (aSum (fun r => (σ.2.1 r).length) (k + 1))) (by rw [nI_add]; rfl) ?_
      refine Zr_istore_n C dX4_count_111 (by decide) ?_
      refine Zr_iincE C (1) (nI (k + 1)) dX4_count_112 (by decide) rfl rfl (nI_1 _) ?_
      refine Zr_goto C 97 dX4_count_115 (by decide) ?_
      exact ih (k + 1) (by omega)
  have key7 : w = 7 → ∀ (d k : Nat), k + d = 100 → Z p l e ({ frames := 1, cells := 0, slots := 0, locals := 24 } : Room) s m ([.ref (ad (0, 0)), .int w] : List Value).toArray below meth c D A 4 (MQ below (zQ (zEq (some (.int (fCount σ w))) (rSh K) ad (S)) rIL D A) ([.ref (ad (0, 0)), .int w] : List Value).toArray s 0 0 A) rIL 0 0 (rSh K) ad S (122) ([some (.ref (ad (0, 0))), some (.int w), some (.int (nI (aSum (fun r => aOf 1 (σ.2.1 r)) k))), some (.int (nI k))]) ([]) := by
    intro hw d
    induction d with
    | zero =>
      intro k hk
      have hk : k = 100 := by omega
      subst hk
      refine Zr_iload_n C dX4_count_122 rfl ?_
      refine Zr_bipush C (100) dX4_count_123 rfl ?_
      refine Zr_icmp_ge C 143 dX4_count_125 (by decide) (fun h125 => ?_) (fun h125 => absurd (by decide) h125)
      refine Zr_iload_n C dX4_count_143 rfl ?_
      exact Zr_iret C dX4_count_144 (Nat.zero_le _) (Nat.zero_le _) ⟨by rw [hw]; rfl, rfl, rfl, rfl⟩
    | succ d ih =>
      intro k hk
      refine Zr_iload_n C dX4_count_122 rfl ?_
      refine Zr_bipush C (100) dX4_count_123 rfl ?_
      refine Zr_icmp_ge C 143 dX4_count_125 (by decide) (fun h125 => absurd h125 (nI_ge (b := 100) (by omega) (by decide))) (fun h125 => ?_)
      refine Zr_iload_n C dX4_count_128 rfl ?_
      refine Zr_aload_n C dX4_count_129 rfl ?_
      refine Zr_iload_n C dX4_count_130 rfl ?_
      refine Zr_iconst C (1) dX4_count_131 rfl ?_
      refine Zr_callV C cw_X4_86 (k_X4_counted (r := k) hR (by omega)) qm0 rfl rfl rfl (Nat.le_of_ble_eq_true rfl) (Nat.le_of_ble_eq_true rfl) rfl (Nat.le_of_ble_eq_true rfl) dX4_count_132 ⟨Nat.zero_le _, Nat.zero_le _⟩ ?_
      refine Zr_iadd C dX4_count_135 ?_
      refine Zr_topi (y := nI (aSum (fun r => aOf 1 (σ.2.1 r)) (k + 1))) (by rw [nI_add]; rfl) ?_
      refine Zr_istore_n C dX4_count_136 (by decide) ?_
      refine Zr_iincE C (1) (nI (k + 1)) dX4_count_137 (by decide) rfl rfl (nI_1 _) ?_
      refine Zr_goto C 122 dX4_count_140 (by decide) ?_
      exact ih (k + 1) (by omega)
  by_cases h200 : w = 0
  · subst h200
    refine Zr_iconst C (0) dX4_count_0 rfl ?_
    refine Zr_istore_n C dX4_count_1 (by decide) ?_
    refine Zr_iload_n C dX4_count_2 rfl ?_
    refine Zr_tableIn C 56 dX4_count_3 (by decide) (by decide) rfl (by decide) ?_
    refine Zr_aload_n C dX4_count_56 rfl ?_
    refine Zr_getE C gf_X4_60 qm0 rfl rfl rfl (rg hR) dX4_count_57 ?_
    exact Zr_iret C dX4_count_60 (Nat.zero_le _) (Nat.zero_le _) ⟨rfl, rfl, rfl, rfl⟩
  by_cases h201 : w = 1
  · subst h201
    refine Zr_iconst C (0) dX4_count_0 rfl ?_
    refine Zr_istore_n C dX4_count_1 (by decide) ?_
    refine Zr_iload_n C dX4_count_2 rfl ?_
    refine Zr_tableIn C 61 dX4_count_3 (by decide) (by decide) rfl (by decide) ?_
    refine Zr_aload_n C dX4_count_61 rfl ?_
    refine Zr_getE C gf_X4_83 qm0 rfl rfl rfl (rg hR) dX4_count_62 ?_
    refine Zr_callS C cw_X4_159 (k_X4_toInt (hb 2 (by decide))) rfl (Nat.le_of_ble_eq_true rfl) (Nat.le_of_ble_eq_true rfl) rfl (Nat.le_of_ble_eq_true rfl) dX4_count_65 ⟨Nat.zero_le _, Nat.zero_le _⟩ ?_
    exact Zr_iret C dX4_count_68 (Nat.zero_le _) (Nat.zero_le _) ⟨rfl, rfl, rfl, rfl⟩
  by_cases h202 : w = 2
  · subst h202
    refine Zr_iconst C (0) dX4_count_0 rfl ?_
    refine Zr_istore_n C dX4_count_1 (by decide) ?_
    refine Zr_iload_n C dX4_count_2 rfl ?_
    refine Zr_tableIn C 69 dX4_count_3 (by decide) (by decide) rfl (by decide) ?_
    refine Zr_aload_n C dX4_count_69 rfl ?_
    refine Zr_getE C gf_X4_117 qm0 rfl rfl rfl (rg hR) dX4_count_70 ?_
    refine Zr_callS C cw_X4_159 (k_X4_toInt (hb 3 (by decide))) rfl (Nat.le_of_ble_eq_true rfl) (Nat.le_of_ble_eq_true rfl) rfl (Nat.le_of_ble_eq_true rfl) dX4_count_73 ⟨Nat.zero_le _, Nat.zero_le _⟩ ?_
    exact Zr_iret C dX4_count_76 (Nat.zero_le _) (Nat.zero_le _) ⟨rfl, rfl, rfl, rfl⟩
  by_cases h203 : w = 3
  · subst h203
    refine Zr_iconst C (0) dX4_count_0 rfl ?_
    refine Zr_istore_n C dX4_count_1 (by decide) ?_
    refine Zr_iload_n C dX4_count_2 rfl ?_
    refine Zr_tableIn C 77 dX4_count_3 (by decide) (by decide) rfl (by decide) ?_
    refine Zr_aload_n C dX4_count_77 rfl ?_
    refine Zr_getE C gf_X4_126 qm0 rfl rfl rfl (rg hR) dX4_count_78 ?_
    exact Zr_iret C dX4_count_81 (Nat.zero_le _) (Nat.zero_le _) ⟨rfl, rfl, rfl, rfl⟩
  by_cases h204 : w = 4
  · subst h204
    refine Zr_iconst C (0) dX4_count_0 rfl ?_
    refine Zr_istore_n C dX4_count_1 (by decide) ?_
    refine Zr_iload_n C dX4_count_2 rfl ?_
    refine Zr_tableIn C 82 dX4_count_3 (by decide) (by decide) rfl (by decide) ?_
    refine Zr_aload_n C dX4_count_82 rfl ?_
    refine Zr_getE C gf_X4_120 qm0 rfl rfl rfl (rg hR) dX4_count_83 ?_
    exact Zr_iret C dX4_count_86 (Nat.zero_le _) (Nat.zero_le _) ⟨rfl, rfl, rfl, rfl⟩
  by_cases h205 : w = 5
  · subst h205
    refine Zr_iconst C (0) dX4_count_0 rfl ?_
    refine Zr_istore_n C dX4_count_1 (by decide) ?_
    refine Zr_iload_n C dX4_count_2 rfl ?_
    refine Zr_tableIn C 87 dX4_count_3 (by decide) (by decide) rfl (by decide) ?_
    refine Zr_aload_n C dX4_count_87 rfl ?_
    refine Zr_getE C gf_X4_123 qm0 rfl rfl rfl (rg hR) dX4_count_88 ?_
    refine Zr_callS C cw_X4_159 (k_X4_toInt (hb 21 (by decide))) rfl (Nat.le_of_ble_eq_true rfl) (Nat.le_of_ble_eq_true rfl) rfl (Nat.le_of_ble_eq_true rfl) dX4_count_91 ⟨Nat.zero_le _, Nat.zero_le _⟩ ?_
    exact Zr_iret C dX4_count_94 (Nat.zero_le _) (Nat.zero_le _) ⟨rfl, rfl, rfl, rfl⟩
  by_cases h206 : w = 6
  · subst h206
    refine Zr_iconst C (0) dX4_count_0 rfl ?_
    refine Zr_istore_n C dX4_count_1 (by decide) ?_
    refine Zr_iload_n C dX4_count_2 rfl ?_
    refine Zr_tableIn C 95 dX4_count_3 (by decide) (by decide) rfl (by decide) ?_
    refine Zr_iconst C (0) dX4_count_95 rfl ?_
    refine Zr_istore_n C dX4_count_96 (by decide) ?_
    exact key6 rfl 100 0 (by omega)
  by_cases h207 : w = 7
  · subst h207
    refine Zr_iconst C (0) dX4_count_0 rfl ?_
    refine Zr_istore_n C dX4_count_1 (by decide) ?_
    refine Zr_iload_n C dX4_count_2 rfl ?_
    refine Zr_tableIn C 120 dX4_count_3 (by decide) (by decide) rfl (by decide) ?_
    refine Zr_iconst C (0) dX4_count_120 rfl ?_
    refine Zr_istore_n C dX4_count_121 (by decide) ?_
    exact key7 rfl 100 0 (by omega)
  by_cases h208 : w = 8
  · subst h208
    refine Zr_iconst C (0) dX4_count_0 rfl ?_
    refine Zr_istore_n C dX4_count_1 (by decide) ?_
    refine Zr_iload_n C dX4_count_2 rfl ?_
    refine Zr_tableIn C 145 dX4_count_3 (by decide) (by decide) rfl (by decide) ?_
    refine Zr_aload_n C dX4_count_145 rfl ?_
    refine Zr_getE C gf_X4_141 qm0 rfl rfl rfl (rg hR) dX4_count_146 ?_
    exact Zr_iret C dX4_count_149 (Nat.zero_le _) (Nat.zero_le _) ⟨rfl, rfl, rfl, rfl⟩
  by_cases h209 : w = 9
  · subst h209
    refine Zr_iconst C (0) dX4_count_0 rfl ?_
    refine Zr_istore_n C dX4_count_1 (by decide) ?_
    refine Zr_iload_n C dX4_count_2 rfl ?_
    refine Zr_tableIn C 150 dX4_count_3 (by decide) (by decide) rfl (by decide) ?_
    refine Zr_aload_n C dX4_count_150 rfl ?_
    refine Zr_getE C gf_X4_132 qm0 rfl rfl rfl (rg hR) dX4_count_151 ?_
    exact Zr_iret C dX4_count_154 (Nat.zero_le _) (Nat.zero_le _) ⟨rfl, rfl, rfl, rfl⟩
  refine Zr_iconst C (0) dX4_count_0 rfl ?_
  refine Zr_istore_n C dX4_count_1 (by decide) ?_
  refine Zr_iload_n C dX4_count_2 rfl ?_
  refine Zr_tableOut C 155 dX4_count_3 (w_out 9 (by decide) (fun k hk e => by rcases (show k = 0 ∨ k = 1 ∨ k = 2 ∨ k = 3 ∨ k = 4 ∨ k = 5 ∨ k = 6 ∨ k = 7 ∨ k = 8 ∨ k = 9 by omega) with rfl | rfl | rfl | rfl | rfl | rfl | rfl | rfl | rfl | rfl <;> first | exact h200 e | exact h201 e | exact h202 e | exact h203 e | exact h204 e | exact h205 e | exact h206 e | exact h207 e | exact h208 e | exact h209 e)) (by decide) ?_
  refine Zr_iconst C (-1) dX4_count_155 rfl ?_
  exact Zr_iret C dX4_count_156 (Nat.zero_le _) (Nat.zero_le _) ⟨by simp [fCount, h200, h201, h202, h203, h204, h205, h206, h207, h208, h209], rfl, rfl, rfl⟩
/-- the marks of the search: bits, those that i hangs on, none that a closed set must not hold -/
def rMk (σ : aS) (n i : Nat) (g : Nat → Int32) : Prop := (∀ q, q < n → g q = 0 ∨ g q = 1) ∧ (∀ q, q < n → aHangs σ i q → g q = 1) ∧ ∀ T : Nat → Prop, (∀ q, q < n → aHangs σ i q → T q) → (∀ a b, a < n → b < n → T a → aHangs σ a b → T b) → ∀ q, q < n → g q = 1 → T q
theorem rMk_ring {σ : aS} {n i : Nat} {g : Nat → Int32} (h : rMk σ n i g) (hi : i < n) (hc : ∀ a b, a < n → b < n → g a = 1 → aHangs σ a b → g b = 1) : g i = aRing σ n i := by
  unfold aRing
  rcases h.1 i hi with h0 | h1
  · rw [if_neg, h0]
    intro hr
    have := hr (fun q => q < n ∧ g q = 1) (fun q hq hh => ⟨hq, h.2.1 q hq hh⟩) (fun a b ha hb hT hh => ⟨hb, hc a b ha hb hT.2 hh⟩)
    rw [h0] at this
    exact absurd this.2 (by decide)
  · rw [if_pos, h1]
    intro T hT1 hT2
    exact h.2.2 T hT1 hT2 i hi h1
theorem rMk_add {σ : aS} {n i a b : Nat} {g : Nat → Int32} (h : rMk σ n i g) (ha : a < n) (hb : b < n) (hga : g a = 1) (hh : aHangs σ a b) : rMk σ n i (fun x => if x = b then 1 else g x) := by
  refine ⟨fun q hq => ?_, fun q hq hq2 => ?_, fun T h1 h2 q hq hg => ?_⟩
  · dsimp only
    split
    · exact Or.inr rfl
    · exact h.1 q hq
  · dsimp only
    split
    · rfl
    · exact h.2.1 q hq hq2
  · dsimp only at hg
    split at hg
    · rename_i hqb
      rw [hqb]
      exact h2 a b ha hb (h.2.2 T h1 h2 a ha hga) hh
    · exact h.2.2 T h1 h2 q hq hg
theorem aCnt_add {g : Nat → Int32} {b : Nat} (hg : g b = 0) : ∀ {n : Nat}, b < n → aCnt (fun q => (fun x => if x = b then (1 : Int32) else g x) q != 0) n = aCnt (fun q => g q != 0) n + 1
  | 0, h => absurd h (Nat.not_lt_zero _)
  | n + 1, h => by
    simp only [aCnt]
    by_cases hb : b = n
    · subst hb
      rw [aCnt_cong (f := fun q => (fun x => if x = b then (1 : Int32) else g x) q != 0) (g := fun q => g q != 0) (fun k hk => by
        have : k ≠ b := by omega
        simp [this])]
      simp [hg]
    · have ih := aCnt_add hg (n := n) (by omega)
      rw [ih]
      have : ¬ n = b := fun h => hb h.symm
      simp [this]
      omega
set_option maxHeartbeats 4000000 in
set_option maxRecDepth 100000 in
theorem k_X4_isInRing {l : Launch} {D : va_G} {K : zKs} {ad : zAd} {S : zSt} {σ : aS} {n i : Nat} (hB : aB n σ) (hR : rRel σ S) (hi : i < n) : zMet l yX4_isInRing cX4_isInRing 5 (some .boolean) { frames := 2, cells := 0, slots := 0, locals := 46 } D K rIL (rSh K) ad S [.ref (ad (0, 0)), .int (nI i)] (zR (some (.int (aRing σ n i))) (rSh K) ad (rRel σ)) := by
  refine zEnter (own := RX4) (lv0 := [some (.ref (ad (0, 0))), some (.int (nI i)), none, none, none]) (by decide) rfl (by simp [Value.category]) (Nat.le_of_ble_eq_true rfl) rfl ?_
  intro p e s m below meth c A C _ hnm
  have hn := hB.2.2.1
  have key1 : ∀ (d k : Nat) (S : zSt), k + d = n → rRel σ S → (∀ q, q < k → (aHangs σ i q ∧ S 1 26 q = 1) ∨ (¬ aHangs σ i q ∧ S 1 26 q = 0)) → (∀ S, rRel σ S → (∀ q, q < n → (aHangs σ i q ∧ S 1 26 q = 1) ∨ (¬ aHangs σ i q ∧ S 1 26 q = 0)) → Z p l e ({ frames := 2, cells := 0, slots := 0, locals := 46 } : Room) s m ([.ref (ad (0, 0)), .int (nI i)] : List Value).toArray below meth c D A 5 (MQ below (zQ (zR (some (.int (aRing σ n i))) (rSh K) ad (rRel σ)) rIL D A) ([.ref (ad (0, 0)), .int (nI i)] : List Value).toArray s 0 0 A) rIL 0 0 (rSh K) ad S (28) ([some (.ref (ad (0, 0))), some (.int (nI i)), none, none, none]) ([])) → Z p l e ({ frames := 2, cells := 0, slots := 0, locals := 46 } : Room) s m ([.ref (ad (0, 0)), .int (nI i)] : List Value).toArray below meth c D A 5 (MQ below (zQ (zR (some (.int (aRing σ n i))) (rSh K) ad (rRel σ)) rIL D A) ([.ref (ad (0, 0)), .int (nI i)] : List Value).toArray s 0 0 A) rIL 0 0 (rSh K) ad S (2) ([some (.ref (ad (0, 0))), some (.int (nI i)), some (.int (nI k)), none, none]) ([]) := by
    intro d
    induction d with
    | zero =>
      intro k S hk hR hg hex
      have hk : k = n := by omega
      subst hk
      refine Zr_iload_n C dX4_isInRing_2 rfl ?_
      refine Zr_aload_n C dX4_isInRing_3 rfl ?_
      refine Zr_getE C gf_X4_60 qm0 rfl rfl rfl (rg hR) dX4_isInRing_4 ?_
      refine Zr_icmp_ge C 28 dX4_isInRing_7 (by decide) (fun h7 => ?_) (fun h7 => absurd (by rw [hB.1]; exact nI_le (Nat.le_refl _) (by omega)) h7)
      exact Zr_forget 2 (hex S hR hg)
    | succ d ih =>
      intro k S hk hR hg hex
      have hkl : k < n := by omega
      by_cases hh : aHangs σ i k
      · refine Zr_iload_n C dX4_isInRing_2 rfl ?_
        refine Zr_aload_n C dX4_isInRing_3 rfl ?_
        refine Zr_getE C gf_X4_60 qm0 rfl rfl rfl (rg hR) dX4_isInRing_4 ?_
        refine Zr_icmp_ge C 28 dX4_isInRing_7 (by decide) (fun h7 => absurd h7 (by rw [hB.1]; exact nI_ge hkl (by omega))) (fun h7 => ?_)
        refine Zr_aload_n C dX4_isInRing_10 rfl ?_
        refine Zr_getR C gf_X4_57 qm0 rfl rfl rfl (by decide) dX4_isInRing_11 ?_
        refine Zr_iload_n C dX4_isInRing_14 rfl ?_
        refine Zr_aload_n C dX4_isInRing_15 rfl ?_
        refine Zr_iload_n C dX4_isInRing_16 rfl ?_
        refine Zr_iload_n C dX4_isInRing_17 rfl ?_
        refine Zr_callV C cw_X4_129 (k_X4_hangs_t hB hR hi hkl hh) qm0 rfl rfl rfl (Nat.le_of_ble_eq_true rfl) (Nat.le_of_ble_eq_true rfl) rfl (Nat.le_of_ble_eq_true rfl) dX4_isInRing_18 ⟨Nat.zero_le _, Nat.zero_le _⟩ ?_
        refine Zr_zastN C qm_26 rfl rfl (by omega) (by decide) (by first | exact Or.inl rfl | exact Or.inr rfl | assumption) (Rel := fun X => rRel σ X ∧ X = z3 S 1 26 k 1) ⟨rRx hR, rfl⟩ dX4_isInRing_21 (fun S hR => ?_)
        refine Zr_iincE C (1) (nI (k + 1)) dX4_isInRing_22 (by decide) rfl rfl (nI_1 _) ?_
        refine Zr_goto C 2 dX4_isInRing_25 (by decide) ?_
        exact ih (k + 1) _ (by omega) hR.1 (fun q hq => by rw [hR.2]; by_cases hqk : q = k; exact Or.inl ⟨by rw [hqk]; exact hh, by simp [z3, hqk]⟩; simpa [z3, hqk] using hg q (by omega)) hex
      · refine Zr_iload_n C dX4_isInRing_2 rfl ?_
        refine Zr_aload_n C dX4_isInRing_3 rfl ?_
        refine Zr_getE C gf_X4_60 qm0 rfl rfl rfl (rg hR) dX4_isInRing_4 ?_
        refine Zr_icmp_ge C 28 dX4_isInRing_7 (by decide) (fun h7 => absurd h7 (by rw [hB.1]; exact nI_ge hkl (by omega))) (fun h7 => ?_)
        refine Zr_aload_n C dX4_isInRing_10 rfl ?_
        refine Zr_getR C gf_X4_57 qm0 rfl rfl rfl (by decide) dX4_isInRing_11 ?_
        refine Zr_iload_n C dX4_isInRing_14 rfl ?_
        refine Zr_aload_n C dX4_isInRing_15 rfl ?_
        refine Zr_iload_n C dX4_isInRing_16 rfl ?_
        refine Zr_iload_n C dX4_isInRing_17 rfl ?_
        refine Zr_callV C cw_X4_129 (k_X4_hangs_f hB hR hi hkl hh) qm0 rfl rfl rfl (Nat.le_of_ble_eq_true rfl) (Nat.le_of_ble_eq_true rfl) rfl (Nat.le_of_ble_eq_true rfl) dX4_isInRing_18 ⟨Nat.zero_le _, Nat.zero_le _⟩ ?_
        refine Zr_zastN C qm_26 rfl rfl (by omega) (by decide) (by first | exact Or.inl rfl | exact Or.inr rfl | assumption) (Rel := fun X => rRel σ X ∧ X = z3 S 1 26 k 0) ⟨rRx hR, rfl⟩ dX4_isInRing_21 (fun S hR => ?_)
        refine Zr_iincE C (1) (nI (k + 1)) dX4_isInRing_22 (by decide) rfl rfl (nI_1 _) ?_
        refine Zr_goto C 2 dX4_isInRing_25 (by decide) ?_
        exact ih (k + 1) _ (by omega) hR.1 (fun q hq => by rw [hR.2]; by_cases hqk : q = k; exact Or.inr ⟨by rw [hqk]; exact hh, by simp [z3, hqk]⟩; simpa [z3, hqk] using hg q (by omega)) hex
  have keyW : ∀ (d : Nat) (S : zSt), n - aCnt (fun q => S 1 26 q != 0) n < d → rRel σ S → rMk σ n i (S 1 26) → Z p l e ({ frames := 2, cells := 0, slots := 0, locals := 46 } : Room) s m ([.ref (ad (0, 0)), .int (nI i)] : List Value).toArray below meth c D A 5 (MQ below (zQ (zR (some (.int (aRing σ n i))) (rSh K) ad (rRel σ)) rIL D A) ([.ref (ad (0, 0)), .int (nI i)] : List Value).toArray s 0 0 A) rIL 0 0 (rSh K) ad S (30) ([some (.ref (ad (0, 0))), some (.int (nI i)), some (.int 1), none, none]) ([]) := by
    intro d
    induction d with
    | zero => intro S h; exact absurd h (Nat.not_lt_zero _)
    | succ d ih =>
      intro S0 hd hR0 hM0
      have hc0 : aCnt (fun q => S0 1 26 q != 0) n ≤ n := aCnt_le _ _
      have keyA : ∀ (d2 a : Nat) (S : zSt) (mo : Int32), a + d2 = n → rRel σ S → rMk σ n i (S 1 26) → ((mo = 0 ∧ ∀ a' b, a' < a → b < n → S 1 26 a' = 1 → aHangs σ a' b → S 1 26 b = 1) ∨ (mo = 1 ∧ aCnt (fun q => S0 1 26 q != 0) n < aCnt (fun q => S 1 26 q != 0) n)) → aCnt (fun q => S0 1 26 q != 0) n ≤ aCnt (fun q => S 1 26 q != 0) n → Z p l e ({ frames := 2, cells := 0, slots := 0, locals := 46 } : Room) s m ([.ref (ad (0, 0)), .int (nI i)] : List Value).toArray below meth c D A 5 (MQ below (zQ (zR (some (.int (aRing σ n i))) (rSh K) ad (rRel σ)) rIL D A) ([.ref (ad (0, 0)), .int (nI i)] : List Value).toArray s 0 0 A) rIL 0 0 (rSh K) ad S (38) ([some (.ref (ad (0, 0))), some (.int (nI i)), some (.int mo), some (.int (nI a)), none]) ([]) := by
        intro d2
        induction d2 with
        | zero =>
          intro a S mo ha hR hM hI hle
          have ha : a = n := by omega
          subst ha
          have hc : aCnt (fun q => S 1 26 q != 0) a ≤ a := aCnt_le _ _
          rcases hI with ⟨rfl, hcl⟩ | ⟨rfl, hlt⟩
          · have e := rMk_ring hM hi (fun x y hx hy => hcl x y hx hy)
            refine Zr_iload_n C dX4_isInRing_38 rfl ?_
            refine Zr_aload_n C dX4_isInRing_39 rfl ?_
            refine Zr_getE C gf_X4_60 qm0 rfl rfl rfl (rg hR) dX4_isInRing_40 ?_
            refine Zr_icmp_ge C 112 dX4_isInRing_43 (by decide) (fun h43 => ?_) (fun h43 => absurd (by rw [hB.1]; exact nI_le (Nat.le_refl _) (by omega)) h43)
            refine Zr_goto C 30 dX4_isInRing_112 (by decide) ?_
            refine Zr_iload_n C dX4_isInRing_30 rfl ?_
            refine Zr_if_eq C 115 dX4_isInRing_31 (by decide) (fun h31 => ?_) (fun h31 => absurd rfl h31)
            refine Zr_aload_n C dX4_isInRing_115 rfl ?_
            refine Zr_getR C gf_X4_57 qm0 rfl rfl rfl (by decide) dX4_isInRing_116 ?_
            refine Zr_iload_n C dX4_isInRing_119 rfl ?_
            refine Zr_zaldN C qm_26 rfl rfl (by omega) (by decide) e dX4_isInRing_120 ?_
            exact Zr_zret C dX4_isInRing_121 (Nat.zero_le _) (Nat.zero_le _) (by rw [← e]; exact hM.1 i hi) ⟨rfl, rfl, rfl, hR⟩
          · refine Zr_iload_n C dX4_isInRing_38 rfl ?_
            refine Zr_aload_n C dX4_isInRing_39 rfl ?_
            refine Zr_getE C gf_X4_60 qm0 rfl rfl rfl (rg hR) dX4_isInRing_40 ?_
            refine Zr_icmp_ge C 112 dX4_isInRing_43 (by decide) (fun h43 => ?_) (fun h43 => absurd (by rw [hB.1]; exact nI_le (Nat.le_refl _) (by omega)) h43)
            refine Zr_goto C 30 dX4_isInRing_112 (by decide) ?_
            exact Zr_forget 3 (ih S (by omega) hR hM)
        | succ d2 ih2 =>
          intro a S mo ha hR hM hI hle
          have hal : a < n := by omega
          have keyB : ∀ (d3 b : Nat) (S : zSt) (mo : Int32), b + d3 = n → rRel σ S → rMk σ n i (S 1 26) → ((mo = 0 ∧ (∀ a' b', a' < a → b' < n → S 1 26 a' = 1 → aHangs σ a' b' → S 1 26 b' = 1) ∧ ∀ b', b' < b → S 1 26 a = 1 → aHangs σ a b' → S 1 26 b' = 1) ∨ (mo = 1 ∧ aCnt (fun q => S0 1 26 q != 0) n < aCnt (fun q => S 1 26 q != 0) n)) → aCnt (fun q => S0 1 26 q != 0) n ≤ aCnt (fun q => S 1 26 q != 0) n → Z p l e ({ frames := 2, cells := 0, slots := 0, locals := 46 } : Room) s m ([.ref (ad (0, 0)), .int (nI i)] : List Value).toArray below meth c D A 5 (MQ below (zQ (zR (some (.int (aRing σ n i))) (rSh K) ad (rRel σ)) rIL D A) ([.ref (ad (0, 0)), .int (nI i)] : List Value).toArray s 0 0 A) rIL 0 0 (rSh K) ad S (49) ([some (.ref (ad (0, 0))), some (.int (nI i)), some (.int mo), some (.int (nI a)), some (.int (nI b))]) ([]) := by
            intro d3
            induction d3 with
            | zero =>
              intro b S mo hb hR hM hI hle
              have hb : b = n := by omega
              subst hb
              refine Zr_iload C dX4_isInRing_49 rfl ?_
              refine Zr_aload_n C dX4_isInRing_51 rfl ?_
              refine Zr_getE C gf_X4_60 qm0 rfl rfl rfl (rg hR) dX4_isInRing_52 ?_
              refine Zr_icmp_ge C 106 dX4_isInRing_55 (by decide) (fun h55 => ?_) (fun h55 => absurd (by rw [hB.1]; exact nI_le (Nat.le_refl _) (by omega)) h55)
              refine Zr_iincE C (1) (nI (a + 1)) dX4_isInRing_106 (by decide) rfl rfl (nI_1 _) ?_
              refine Zr_goto C 38 dX4_isInRing_109 (by decide) ?_
              exact Zr_forget 4 (ih2 (a + 1) S mo (by omega) hR hM (hI.imp (fun h => ⟨h.1, fun a2 b2 h1 h2 h3 h4 => if h5 : a2 = a then h.2.2 b2 h2 (by rw [← h5]; exact h3) (by rw [← h5]; exact h4) else h.2.1 a2 b2 (by omega) h2 h3 h4⟩) id) hle)
            | succ d3 ih3 =>
              intro b S mo hb hR hM hI hle
              have hbl : b < n := by omega
              by_cases hh : aHangs σ a b
              · refine Zr_iload C dX4_isInRing_49 rfl ?_
                refine Zr_aload_n C dX4_isInRing_51 rfl ?_
                refine Zr_getE C gf_X4_60 qm0 rfl rfl rfl (rg hR) dX4_isInRing_52 ?_
                refine Zr_icmp_ge C 106 dX4_isInRing_55 (by decide) (fun h55 => absurd h55 (by rw [hB.1]; exact nI_ge hbl (by omega))) (fun h55 => ?_)
                refine Zr_aload_n C dX4_isInRing_58 rfl ?_
                refine Zr_getR C gf_X4_57 qm0 rfl rfl rfl (by decide) dX4_isInRing_59 ?_
                refine Zr_iload_n C dX4_isInRing_62 rfl ?_
                refine Zr_zaldN C qm_26 rfl rfl (by omega) (by decide) rfl dX4_isInRing_63 ?_
                refine Zr_if_eq C 106 dX4_isInRing_64 (by decide) (fun h64 => ?_) (fun h64 => ?_)
                · refine Zr_iincE C (1) (nI (a + 1)) dX4_isInRing_106 (by decide) rfl rfl (nI_1 _) ?_
                  refine Zr_goto C 38 dX4_isInRing_109 (by decide) ?_
                  exact Zr_forget 4 (ih2 (a + 1) S mo (by omega) hR hM (hI.imp (fun h => ⟨h.1, fun a2 b2 h1 h2 h3 h4 => if h5 : a2 = a then absurd (h3.symm.trans (show S 1 26 a2 = 0 by rw [h5]; exact h64)) (by decide) else h.2.1 a2 b2 (by omega) h2 h3 h4⟩) id) hle)
                · refine Zr_aload_n C dX4_isInRing_67 rfl ?_
                  refine Zr_getR C gf_X4_57 qm0 rfl rfl rfl (by decide) dX4_isInRing_68 ?_
                  refine Zr_iload C dX4_isInRing_71 rfl ?_
                  refine Zr_zaldN C qm_26 rfl rfl (by omega) (by decide) rfl dX4_isInRing_73 ?_
                  refine Zr_if_ne C 100 dX4_isInRing_74 (by decide) (fun h74 => ?_) (fun h74 => ?_)
                  · refine Zr_iincE C (1) (nI (b + 1)) dX4_isInRing_100 (by decide) rfl rfl (nI_1 _) ?_
                    refine Zr_goto C 49 dX4_isInRing_103 (by decide) ?_
                    first | exact ih3 (b + 1) S mo (by omega) hR hM (hI.imp (fun h => ⟨h.1, h.2.1, fun b2 h2 h3 h4 => if h5 : b2 = b then by rw [h5]; first | exact (hM.1 b hbl).resolve_left h74 | exact absurd (h5 ▸ h4) hh else h.2.2 b2 (by omega) h3 h4⟩) id) hle | exact ih3 (b + 1) _ 1 (by omega) hR.1 (by rw [hR.2]; exact rMk_add hM hal hbl ((hM.1 a hal).resolve_left h64) hh) (Or.inr ⟨rfl, by rw [hR.2, aCnt_add h74 hbl]; omega⟩) (by rw [hR.2, aCnt_add h74 hbl]; omega)
                  · refine Zr_aload_n C dX4_isInRing_77 rfl ?_
                    refine Zr_iload_n C dX4_isInRing_78 rfl ?_
                    refine Zr_iload C dX4_isInRing_79 rfl ?_
                    refine Zr_callV C cw_X4_129 (k_X4_hangs_t hB hR hal hbl hh) qm0 rfl rfl rfl (Nat.le_of_ble_eq_true rfl) (Nat.le_of_ble_eq_true rfl) rfl (Nat.le_of_ble_eq_true rfl) dX4_isInRing_81 ⟨Nat.zero_le _, Nat.zero_le _⟩ ?_
                    refine Zr_if_ne C 90 dX4_isInRing_84 (by decide) (fun h84 => ?_) (fun h84 => absurd h84 (by decide))
                    refine Zr_aload_n C dX4_isInRing_90 rfl ?_
                    refine Zr_getR C gf_X4_57 qm0 rfl rfl rfl (by decide) dX4_isInRing_91 ?_
                    refine Zr_iload C dX4_isInRing_94 rfl ?_
                    refine Zr_iconst C (1) dX4_isInRing_96 rfl ?_
                    refine Zr_zastN C qm_26 rfl rfl (by omega) (by decide) (by first | exact Or.inl rfl | exact Or.inr rfl | assumption) (Rel := fun X => rRel σ X ∧ X 1 26 = (fun x => if x = b then 1 else S 1 26 x)) ⟨rRx hR, z3_row S 1 26 b 1⟩ dX4_isInRing_97 (fun S hR => ?_)
                    refine Zr_iconst C (1) dX4_isInRing_98 rfl ?_
                    refine Zr_istore_n C dX4_isInRing_99 (by decide) ?_
                    refine Zr_iincE C (1) (nI (b + 1)) dX4_isInRing_100 (by decide) rfl rfl (nI_1 _) ?_
                    refine Zr_goto C 49 dX4_isInRing_103 (by decide) ?_
                    first | exact ih3 (b + 1) S mo (by omega) hR hM (hI.imp (fun h => ⟨h.1, h.2.1, fun b2 h2 h3 h4 => if h5 : b2 = b then by rw [h5]; first | exact (hM.1 b hbl).resolve_left h74 | exact absurd (h5 ▸ h4) hh else h.2.2 b2 (by omega) h3 h4⟩) id) hle | exact ih3 (b + 1) _ 1 (by omega) hR.1 (by rw [hR.2]; exact rMk_add hM hal hbl ((hM.1 a hal).resolve_left h64) hh) (Or.inr ⟨rfl, by rw [hR.2, aCnt_add h74 hbl]; omega⟩) (by rw [hR.2, aCnt_add h74 hbl]; omega)
              · refine Zr_iload C dX4_isInRing_49 rfl ?_
                refine Zr_aload_n C dX4_isInRing_51 rfl ?_
                refine Zr_getE C gf_X4_60 qm0 rfl rfl rfl (rg hR) dX4_isInRing_52 ?_
                refine Zr_icmp_ge C 106 dX4_isInRing_55 (by decide) (fun h55 => absurd h55 (by rw [hB.1]; exact nI_ge hbl (by omega))) (fun h55 => ?_)
                refine Zr_aload_n C dX4_isInRing_58 rfl ?_
                refine Zr_getR C gf_X4_57 qm0 rfl rfl rfl (by decide) dX4_isInRing_59 ?_
                refine Zr_iload_n C dX4_isInRing_62 rfl ?_
                refine Zr_zaldN C qm_26 rfl rfl (by omega) (by decide) rfl dX4_isInRing_63 ?_
                refine Zr_if_eq C 106 dX4_isInRing_64 (by decide) (fun h64 => ?_) (fun h64 => ?_)
                · refine Zr_iincE C (1) (nI (a + 1)) dX4_isInRing_106 (by decide) rfl rfl (nI_1 _) ?_
                  refine Zr_goto C 38 dX4_isInRing_109 (by decide) ?_
                  exact Zr_forget 4 (ih2 (a + 1) S mo (by omega) hR hM (hI.imp (fun h => ⟨h.1, fun a2 b2 h1 h2 h3 h4 => if h5 : a2 = a then absurd (h3.symm.trans (show S 1 26 a2 = 0 by rw [h5]; exact h64)) (by decide) else h.2.1 a2 b2 (by omega) h2 h3 h4⟩) id) hle)
                · refine Zr_aload_n C dX4_isInRing_67 rfl ?_
                  refine Zr_getR C gf_X4_57 qm0 rfl rfl rfl (by decide) dX4_isInRing_68 ?_
                  refine Zr_iload C dX4_isInRing_71 rfl ?_
                  refine Zr_zaldN C qm_26 rfl rfl (by omega) (by decide) rfl dX4_isInRing_73 ?_
                  refine Zr_if_ne C 100 dX4_isInRing_74 (by decide) (fun h74 => ?_) (fun h74 => ?_)
                  · refine Zr_iincE C (1) (nI (b + 1)) dX4_isInRing_100 (by decide) rfl rfl (nI_1 _) ?_
                    refine Zr_goto C 49 dX4_isInRing_103 (by decide) ?_
                    first | exact ih3 (b + 1) S mo (by omega) hR hM (hI.imp (fun h => ⟨h.1, h.2.1, fun b2 h2 h3 h4 => if h5 : b2 = b then by rw [h5]; first | exact (hM.1 b hbl).resolve_left h74 | exact absurd (h5 ▸ h4) hh else h.2.2 b2 (by omega) h3 h4⟩) id) hle | exact ih3 (b + 1) _ 1 (by omega) hR.1 (by rw [hR.2]; exact rMk_add hM hal hbl ((hM.1 a hal).resolve_left h64) hh) (Or.inr ⟨rfl, by rw [hR.2, aCnt_add h74 hbl]; omega⟩) (by rw [hR.2, aCnt_add h74 hbl]; omega)
                  · refine Zr_aload_n C dX4_isInRing_77 rfl ?_
                    refine Zr_iload_n C dX4_isInRing_78 rfl ?_
                    refine Zr_iload C dX4_isInRing_79 rfl ?_
                    refine Zr_callV C cw_X4_129 (k_X4_hangs_f hB hR hal hbl hh) qm0 rfl rfl rfl (Nat.le_of_ble_eq_true rfl) (Nat.le_of_ble_eq_true rfl) rfl (Nat.le_of_ble_eq_true rfl) dX4_isInRing_81 ⟨Nat.zero_le _, Nat.zero_le _⟩ ?_
                    refine Zr_if_ne C 90 dX4_isInRing_84 (by decide) (fun h84 => absurd rfl h84) (fun h84 => ?_)
                    refine Zr_goto C 100 dX4_isInRing_87 (by decide) ?_
                    refine Zr_iincE C (1) (nI (b + 1)) dX4_isInRing_100 (by decide) rfl rfl (nI_1 _) ?_
                    refine Zr_goto C 49 dX4_isInRing_103 (by decide) ?_
                    first | exact ih3 (b + 1) S mo (by omega) hR hM (hI.imp (fun h => ⟨h.1, h.2.1, fun b2 h2 h3 h4 => if h5 : b2 = b then by rw [h5]; first | exact (hM.1 b hbl).resolve_left h74 | exact absurd (h5 ▸ h4) hh else h.2.2 b2 (by omega) h3 h4⟩) id) hle | exact ih3 (b + 1) _ 1 (by omega) hR.1 (by rw [hR.2]; exact rMk_add hM hal hbl ((hM.1 a hal).resolve_left h64) hh) (Or.inr ⟨rfl, by rw [hR.2, aCnt_add h74 hbl]; omega⟩) (by rw [hR.2, aCnt_add h74 hbl]; omega)
          refine Zr_iload_n C dX4_isInRing_38 rfl ?_
          refine Zr_aload_n C dX4_isInRing_39 rfl ?_
          refine Zr_getE C gf_X4_60 qm0 rfl rfl rfl (rg hR) dX4_isInRing_40 ?_
          refine Zr_icmp_ge C 112 dX4_isInRing_43 (by decide) (fun h43 => absurd h43 (by rw [hB.1]; exact nI_ge hal (by omega))) (fun h43 => ?_)
          refine Zr_iconst C (0) dX4_isInRing_46 rfl ?_
          refine Zr_istore C dX4_isInRing_47 (by decide) ?_
          exact keyB n 0 S mo (by omega) hR hM (hI.imp (fun h => ⟨h.1, h.2, fun b2 hb2 => absurd hb2 (Nat.not_lt_zero _)⟩) id) hle
      refine Zr_iload_n C dX4_isInRing_30 rfl ?_
      refine Zr_if_eq C 115 dX4_isInRing_31 (by decide) (fun h31 => absurd h31 (by decide)) (fun h31 => ?_)
      refine Zr_iconst C (0) dX4_isInRing_34 rfl ?_
      refine Zr_istore_n C dX4_isInRing_35 (by decide) ?_
      refine Zr_iconst C (0) dX4_isInRing_36 rfl ?_
      refine Zr_istore_n C dX4_isInRing_37 (by decide) ?_
      exact keyA n 0 S0 0 (by omega) hR0 hM0 (Or.inl ⟨rfl, fun a2 b2 h2 => absurd h2 (Nat.not_lt_zero _)⟩) (Nat.le_refl _)
  have hex : ∀ S, rRel σ S → (∀ q, q < n → (aHangs σ i q ∧ S 1 26 q = 1) ∨ (¬ aHangs σ i q ∧ S 1 26 q = 0)) → Z p l e ({ frames := 2, cells := 0, slots := 0, locals := 46 } : Room) s m ([.ref (ad (0, 0)), .int (nI i)] : List Value).toArray below meth c D A 5 (MQ below (zQ (zR (some (.int (aRing σ n i))) (rSh K) ad (rRel σ)) rIL D A) ([.ref (ad (0, 0)), .int (nI i)] : List Value).toArray s 0 0 A) rIL 0 0 (rSh K) ad S (28) ([some (.ref (ad (0, 0))), some (.int (nI i)), none, none, none]) ([]) := by
    intro S hR hg
    refine Zr_iconst C (1) dX4_isInRing_28 rfl ?_
    refine Zr_istore_n C dX4_isInRing_29 (by decide) ?_
    exact keyW (n + 1) S (by omega) hR ⟨fun q hq => (hg q hq).elim (fun h => Or.inr h.2) (fun h => Or.inl h.2), fun q hq hh => (hg q hq).elim (fun h => h.2) (fun h => absurd hh h.1), fun T h1 h2 q hq hgq => (hg q hq).elim (fun h => h1 q hq h.1) (fun h => absurd (h.2.symm.trans hgq) (by decide))⟩
  refine Zr_iconst C (0) dX4_isInRing_0 rfl ?_
  refine Zr_istore_n C dX4_isInRing_1 (by decide) ?_
  exact key1 n 0 S (by omega) hR (fun q hq => absurd hq (Nat.not_lt_zero _)) hex
