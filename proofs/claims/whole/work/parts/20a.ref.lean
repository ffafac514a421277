theorem nI_neg {i : Nat} (h : i < 2 ^ 31) : ¬ nI i < 0 := nI_pos h
theorem aBad.of {n i : Nat} (hi : i < n) (hn : n ≤ 10) : ¬ aBad n (nI i) := by
  rintro (h | h)
  · exact nI_pos (by omega) h
  · exact nI_ge hi (by omega) h
theorem aIx (n : Nat) (hn : n ≤ 10) (x : Int32) : aBad n x ∨ ∃ i : Nat, i < n ∧ x = nI i := by
  rcases pk_ix x (n := n) (by omega) with h | h | h
  · exact Or.inl (Or.inl h)
  · exact Or.inl (Or.inr h)
  · exact Or.inr h
theorem r10 {i j n : Nat} (hi : i < n) (hj : j < n) (hn : n ≤ 10) : 10 * i + j < 100 := by omega
set_option maxHeartbeats 4000000 in
set_option maxRecDepth 100000 in
theorem k_X4_isOne_t {l : Launch} {D : va_G} {K : zKs} {ad : zAd} {S : zSt} {σ : aS} {n i : Nat} (hB : aB n σ) (hR : rRel σ S) (hi : i < n) : zMet l yX4_isOne cX4_isOne 2 (some .boolean) { frames := 0, cells := 0, slots := 0, locals := 0 } D K rIL (rSh K) ad S [.ref (ad (0, 0)), .int (nI i)] (zEq (some (.int 1)) (rSh K) ad (S)) := by
  refine zEnter (own := RX4) (lv0 := [some (.ref (ad (0, 0))), some (.int (nI i))]) (by decide) rfl (by simp [Value.category]) (Nat.le_of_ble_eq_true rfl) rfl ?_
  intro p e s m below meth c A C _ hnm
  have hn := hB.2.2.1
  refine Zr_iload_n C dX4_isOne_0 rfl ?_
  refine Zr_if_lt C 16 dX4_isOne_1 (by decide) (fun h1 => absurd h1 (nI_pos (by omega))) (fun h1 => ?_)
  refine Zr_iload_n C dX4_isOne_4 rfl ?_
  refine Zr_aload_n C dX4_isOne_5 rfl ?_
  refine Zr_getE C gf_X4_60 qm0 rfl rfl rfl (rg hR) dX4_isOne_6 ?_
  refine Zr_icmp_ge C 16 dX4_isOne_9 (by decide) (fun h9 => absurd h9 (by rw [hB.1]; exact nI_ge hi (by omega))) (fun h9 => ?_)
  refine Zr_iconst C (1) dX4_isOne_12 rfl ?_
  refine Zr_goto C 17 dX4_isOne_13 (by decide) ?_
  exact Zr_zret C dX4_isOne_17 (Nat.zero_le _) (Nat.zero_le _) (by first | exact Or.inl rfl | exact Or.inr rfl | assumption) ⟨rfl, rfl, rfl, rfl⟩
set_option maxHeartbeats 4000000 in
set_option maxRecDepth 100000 in
theorem k_X4_isOne_f {l : Launch} {D : va_G} {K : zKs} {ad : zAd} {S : zSt} {σ : aS} {n : Nat} {x : Int32} (hB : aB n σ) (hR : rRel σ S) (hx : aBad n x) : zMet l yX4_isOne cX4_isOne 2 (some .boolean) { frames := 0, cells := 0, slots := 0, locals := 0 } D K rIL (rSh K) ad S [.ref (ad (0, 0)), .int x] (zEq (some (.int 0)) (rSh K) ad (S)) := by
  refine zEnter (own := RX4) (lv0 := [some (.ref (ad (0, 0))), some (.int x)]) (by decide) rfl (by simp [Value.category]) (Nat.le_of_ble_eq_true rfl) rfl ?_
  intro p e s m below meth c A C _ hnm
  refine Zr_iload_n C dX4_isOne_0 rfl ?_
  refine Zr_if_lt C 16 dX4_isOne_1 (by decide) (fun h1 => ?_) (fun h1 => ?_)
  · refine Zr_iconst C (0) dX4_isOne_16 rfl ?_
    exact Zr_zret C dX4_isOne_17 (Nat.zero_le _) (Nat.zero_le _) (by first | exact Or.inl rfl | exact Or.inr rfl | assumption) ⟨rfl, rfl, rfl, rfl⟩
  · refine Zr_iload_n C dX4_isOne_4 rfl ?_
    refine Zr_aload_n C dX4_isOne_5 rfl ?_
    refine Zr_getE C gf_X4_60 qm0 rfl rfl rfl (rg hR) dX4_isOne_6 ?_
    refine Zr_icmp_ge C 16 dX4_isOne_9 (by decide) (fun h9 => ?_) (fun h9 => absurd (hx.resolve_left h1) (by rw [← hB.1]; exact h9))
    refine Zr_iconst C (0) dX4_isOne_16 rfl ?_
    exact Zr_zret C dX4_isOne_17 (Nat.zero_le _) (Nat.zero_le _) (by first | exact Or.inl rfl | exact Or.inr rfl | assumption) ⟨rfl, rfl, rfl, rfl⟩
set_option maxHeartbeats 4000000 in
set_option maxRecDepth 100000 in
theorem k_X4_row {l : Launch} {D : va_G} {K : zKs} {IL : List zI} {sh : zSh} {ad : zAd} {S : zSt} {i j : Nat} : zMet l yX4_row cX4_row 2 (some .int) { frames := 0, cells := 0, slots := 0, locals := 0 } D K IL sh ad S [.int (nI i), .int (nI j)] (zEq (some (.int (nI (10 * i + j)))) sh ad (S)) := by
  refine zEnter (own := RX4) (lv0 := [some (.int (nI i)), some (.int (nI j))]) (by decide) rfl (by simp [Value.category]) (Nat.le_of_ble_eq_true rfl) rfl ?_
  intro p e s m below meth c A C _ hnm
  refine Zr_bipush C (10) dX4_row_0 rfl ?_
  refine Zr_iload_n C dX4_row_2 rfl ?_
  refine Zr_imul C dX4_row_3 ?_
  refine Zr_iload_n C dX4_row_4 rfl ?_
  refine Zr_iadd C dX4_row_5 ?_
  exact Zr_iret C dX4_row_6 (Nat.zero_le _) (Nat.zero_le _) ⟨by rw [show (10 : Int32) = nI 10 from rfl, pk_mul, nI_add], rfl, rfl, rfl⟩
set_option maxHeartbeats 4000000 in
set_option maxRecDepth 100000 in
theorem k_X4_toInt {l : Launch} {D : va_G} {K : zKs} {IL : List zI} {sh : zSh} {ad : zAd} {S : zSt} {b : Int32} (hb : b = 0 ∨ b = 1) : zMet l yX4_toInt cX4_toInt 1 (some .int) { frames := 0, cells := 0, slots := 0, locals := 0 } D K IL sh ad S [.int b] (zEq (some (.int b)) sh ad (S)) := by
  refine zEnter (own := RX4) (lv0 := [some (.int b)]) (by decide) rfl (by simp [Value.category]) (Nat.le_of_ble_eq_true rfl) rfl ?_
  intro p e s m below meth c A C _ hnm
  rcases hb with rfl | rfl
  · refine Zr_iload_n C dX4_toInt_0 rfl ?_
    refine Zr_if_eq C 8 dX4_toInt_1 (by decide) (fun h1 => ?_) (fun h1 => absurd rfl h1)
    refine Zr_iconst C (0) dX4_toInt_8 rfl ?_
    exact Zr_iret C dX4_toInt_9 (Nat.zero_le _) (Nat.zero_le _) ⟨rfl, rfl, rfl, rfl⟩
  · refine Zr_iload_n C dX4_toInt_0 rfl ?_
    refine Zr_if_eq C 8 dX4_toInt_1 (by decide) (fun h1 => absurd h1 (by decide)) (fun h1 => ?_)
    refine Zr_iconst C (1) dX4_toInt_4 rfl ?_
    refine Zr_goto C 9 dX4_toInt_5 (by decide) ?_
    exact Zr_iret C dX4_toInt_9 (Nat.zero_le _) (Nat.zero_le _) ⟨rfl, rfl, rfl, rfl⟩
set_option maxHeartbeats 4000000 in
set_option maxRecDepth 100000 in
theorem k_X4_isRow_t {l : Launch} {D : va_G} {K : zKs} {ad : zAd} {S : zSt} {σ : aS} {n i j : Nat} (hB : aB n σ) (hR : rRel σ S) (hi : i < n) (hj : j < n) (hij : i ≠ j) : zMet l yX4_isRow cX4_isRow 3 (some .boolean) { frames := 1, cells := 0, slots := 0, locals := 21 } D K rIL (rSh K) ad S [.ref (ad (0, 0)), .int (nI i), .int (nI j)] (zEq (some (.int 1)) (rSh K) ad (S)) := by
  refine zEnter (own := RX4) (lv0 := [some (.ref (ad (0, 0))), some (.int (nI i)), some (.int (nI j))]) (by decide) rfl (by simp [Value.category]) (Nat.le_of_ble_eq_true rfl) rfl ?_
  intro p e s m below meth c A C _ hnm
  have hn := hB.2.2.1
  refine Zr_aload_n C dX4_isRow_0 rfl ?_
  refine Zr_iload_n C dX4_isRow_1 rfl ?_
  refine Zr_callV C cw_X4_64 (k_X4_isOne_t hB hR (by assumption)) qm0 rfl rfl rfl (Nat.le_of_ble_eq_true rfl) (Nat.le_of_ble_eq_true rfl) rfl (Nat.le_of_ble_eq_true rfl) dX4_isRow_2 ⟨Nat.zero_le _, Nat.zero_le _⟩ ?_
  refine Zr_if_eq C 25 dX4_isRow_5 (by decide) (fun h5 => absurd h5 (by decide)) (fun h5 => ?_)
  refine Zr_aload_n C dX4_isRow_8 rfl ?_
  refine Zr_iload_n C dX4_isRow_9 rfl ?_
  refine Zr_callV C cw_X4_64 (k_X4_isOne_t hB hR (by assumption)) qm0 rfl rfl rfl (Nat.le_of_ble_eq_true rfl) (Nat.le_of_ble_eq_true rfl) rfl (Nat.le_of_ble_eq_true rfl) dX4_isRow_10 ⟨Nat.zero_le _, Nat.zero_le _⟩ ?_
  refine Zr_if_eq C 25 dX4_isRow_13 (by decide) (fun h13 => absurd h13 (by decide)) (fun h13 => ?_)
  refine Zr_iload_n C dX4_isRow_16 rfl ?_
  refine Zr_iload_n C dX4_isRow_17 rfl ?_
  refine Zr_icmp_eq C 25 dX4_isRow_18 (by decide) (fun h18 => absurd ((nI_eq (by omega) (by omega)).mp h18) hij) (fun h18 => ?_)
  refine Zr_iconst C (1) dX4_isRow_21 rfl ?_
  refine Zr_goto C 26 dX4_isRow_22 (by decide) ?_
  exact Zr_zret C dX4_isRow_26 (Nat.zero_le _) (Nat.zero_le _) (by first | exact Or.inl rfl | exact Or.inr rfl | assumption) ⟨rfl, rfl, rfl, rfl⟩
set_option maxHeartbeats 4000000 in
set_option maxRecDepth 100000 in
theorem k_X4_isRow_f {l : Launch} {D : va_G} {K : zKs} {ad : zAd} {S : zSt} {σ : aS} {n : Nat} {x y : Int32} (hB : aB n σ) (hR : rRel σ S) (hx : aBad n x ∨ aBad n y ∨ x = y) : zMet l yX4_isRow cX4_isRow 3 (some .boolean) { frames := 1, cells := 0, slots := 0, locals := 21 } D K rIL (rSh K) ad S [.ref (ad (0, 0)), .int x, .int y] (zEq (some (.int 0)) (rSh K) ad (S)) := by
  refine zEnter (own := RX4) (lv0 := [some (.ref (ad (0, 0))), some (.int x), some (.int y)]) (by decide) rfl (by simp [Value.category]) (Nat.le_of_ble_eq_true rfl) rfl ?_
  intro p e s m below meth c A C _ hnm
  have hn := hB.2.2.1
  rcases aIx n hn x with h | ⟨i, hi, rfl⟩
  · refine Zr_aload_n C dX4_isRow_0 rfl ?_
    refine Zr_iload_n C dX4_isRow_1 rfl ?_
    refine Zr_callV C cw_X4_64 (k_X4_isOne_f hB hR h) qm0 rfl rfl rfl (Nat.le_of_ble_eq_true rfl) (Nat.le_of_ble_eq_true rfl) rfl (Nat.le_of_ble_eq_true rfl) dX4_isRow_2 ⟨Nat.zero_le _, Nat.zero_le _⟩ ?_
    refine Zr_if_eq C 25 dX4_isRow_5 (by decide) (fun h5 => ?_) (fun h5 => absurd rfl h5)
    refine Zr_iconst C (0) dX4_isRow_25 rfl ?_
    exact Zr_zret C dX4_isRow_26 (Nat.zero_le _) (Nat.zero_le _) (by first | exact Or.inl rfl | exact Or.inr rfl | assumption) ⟨rfl, rfl, rfl, rfl⟩
  · rcases aIx n hn y with h | ⟨j, hj, rfl⟩
    · refine Zr_aload_n C dX4_isRow_0 rfl ?_
      refine Zr_iload_n C dX4_isRow_1 rfl ?_
      refine Zr_callV C cw_X4_64 (k_X4_isOne_t hB hR hi) qm0 rfl rfl rfl (Nat.le_of_ble_eq_true rfl) (Nat.le_of_ble_eq_true rfl) rfl (Nat.le_of_ble_eq_true rfl) dX4_isRow_2 ⟨Nat.zero_le _, Nat.zero_le _⟩ ?_
      refine Zr_if_eq C 25 dX4_isRow_5 (by decide) (fun h5 => absurd h5 (by decide)) (fun h5 => ?_)
      refine Zr_aload_n C dX4_isRow_8 rfl ?_
      refine Zr_iload_n C dX4_isRow_9 rfl ?_
      refine Zr_callV C cw_X4_64 (k_X4_isOne_f hB hR h) qm0 rfl rfl rfl (Nat.le_of_ble_eq_true rfl) (Nat.le_of_ble_eq_true rfl) rfl (Nat.le_of_ble_eq_true rfl) dX4_isRow_10 ⟨Nat.zero_le _, Nat.zero_le _⟩ ?_
      refine Zr_if_eq C 25 dX4_isRow_13 (by decide) (fun h13 => ?_) (fun h13 => absurd rfl h13)
      refine Zr_iconst C (0) dX4_isRow_25 rfl ?_
      exact Zr_zret C dX4_isRow_26 (Nat.zero_le _) (Nat.zero_le _) (by first | exact Or.inl rfl | exact Or.inr rfl | assumption) ⟨rfl, rfl, rfl, rfl⟩
    · have h : nI i = nI j := (hx.resolve_left (aBad.of hi hn)).resolve_left (aBad.of hj hn)
      refine Zr_aload_n C dX4_isRow_0 rfl ?_
      refine Zr_iload_n C dX4_isRow_1 rfl ?_
      refine Zr_callV C cw_X4_64 (k_X4_isOne_t hB hR hi) qm0 rfl rfl rfl (Nat.le_of_ble_eq_true rfl) (Nat.le_of_ble_eq_true rfl) rfl (Nat.le_of_ble_eq_true rfl) dX4_isRow_2 ⟨Nat.zero_le _, Nat.zero_le _⟩ ?_
      refine Zr_if_eq C 25 dX4_isRow_5 (by decide) (fun h5 => absurd h5 (by decide)) (fun h5 => ?_)
      refine Zr_aload_n C dX4_isRow_8 rfl ?_
      refine Zr_iload_n C dX4_isRow_9 rfl ?_
      refine Zr_callV C cw_X4_64 (k_X4_isOne_t hB hR hj) qm0 rfl rfl rfl (Nat.le_of_ble_eq_true rfl) (Nat.le_of_ble_eq_true rfl) rfl (Nat.le_of_ble_eq_true rfl) dX4_isRow_10 ⟨Nat.zero_le _, Nat.zero_le _⟩ ?_
      refine Zr_if_eq C 25 dX4_isRow_13 (by decide) (fun h13 => absurd h13 (by decide)) (fun h13 => ?_)
      refine Zr_iload_n C dX4_isRow_16 rfl ?_
      refine Zr_iload_n C dX4_isRow_17 rfl ?_
      refine Zr_icmp_eq C 25 dX4_isRow_18 (by decide) (fun h18 => ?_) (fun h18 => absurd h h18)
      refine Zr_iconst C (0) dX4_isRow_25 rfl ?_
      exact Zr_zret C dX4_isRow_26 (Nat.zero_le _) (Nat.zero_le _) (by first | exact Or.inl rfl | exact Or.inr rfl | assumption) ⟨rfl, rfl, rfl, rfl⟩
