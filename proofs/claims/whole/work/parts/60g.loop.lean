/-! ===== THE LAW'S LOOP ===== -/
theorem and15 (x : Int32) : ∃ k, k < 16 ∧ x &&& 15 = nI k := by
  refine ⟨x.toBitVec.toNat % 16, Nat.mod_lt _ (by decide), ?_⟩
  apply Int32.toBitVec_inj.mp
  apply BitVec.eq_of_toNat_eq
  have e1 : (x &&& 15).toBitVec.toNat = x.toBitVec.toNat &&& 15 := by
    rw [Int32.toBitVec_and, BitVec.toNat_and]
    rfl
  have e2 : x.toBitVec.toNat &&& 15 = x.toBitVec.toNat % 16 := Nat.and_two_pow_sub_one_eq_mod _ 4
  have e3 : (nI (x.toBitVec.toNat % 16)).toBitVec.toNat = x.toBitVec.toNat % 16 := by
    have hlt : x.toBitVec.toNat % 16 < 16 := Nat.mod_lt _ (by decide)
    show (BitVec.ofNat 32 (x.toBitVec.toNat % 16)).toNat = _
    rw [BitVec.toNat_ofNat]
    exact Nat.mod_eq_of_lt (by omega)
  rw [e1, e2, e3]
theorem law_more {L i : Nat} (hL : L ≤ 2561) (hi : i ≤ L + 1) (h : ¬ nI L - nI 5 < nI i) : i + 5 ≤ L := by
  have h0 : (0 : Int32) ≤ nI i := nI_pos' (by omega)
  by_cases h5 : L < 5
  · exfalso
    have e : nI L - nI 5 < 0 := by
      rcases (show L = 0 ∨ L = 1 ∨ L = 2 ∨ L = 3 ∨ L = 4 by omega) with rfl | rfl | rfl | rfl | rfl <;> decide
    exact h (Int32.lt_of_lt_of_le e h0)
  · have e : nI L - nI 5 = nI (L - 5) := by
      have e2 := nI_add (L - 5) 5
      rw [show L - 5 + 5 = L by omega] at e2
      rw [← e2, Int32.add_sub_cancel]
    rw [e] at h
    rcases Nat.lt_or_ge (L - 5) i with h2 | h2
    · exact absurd (nI_lt h2 (by omega)) h
    · omega
set_option maxHeartbeats 2000000 in
theorem law_loop {p : Program} {l : Launch} {e : Env} {s : State} {m : MethodId} {below : List Frame} {meth : Method} {c : Code} {D : va_G} {K : zKs} {n b L : Nat} {xs : Nat → Int32} {ad ar : zAd} (hL : L ≤ 2561) (C0 : lw_At p s m meth c b L xs) (C : zX p s m #[Value.ref b] meth c RL cL_law 4 ret D K (fun q : Nat => s.heap.size ≤ q)) : ∀ (d i : Nat) (σ : aS) (ca : Nat → Nat) (S T : zSt), i ≤ L + 1 → L + 1 ≤ i + d → aI n n σ → cRel n σ S → rRel σ T → Z p l e room_1 s m #[Value.ref b] below meth c D (fun q : Nat => s.heap.size ≤ q) 4 (lw_Z below #[Value.ref b] s) (xIL n) (400 + aLam σ) (200000 + 2 * aLam σ) (xSh K n (cpo n σ.2.2)) (xA (zA ad ca) ar) (xS S T) 28 [some (.ref b), some (.ref (ad (0, 0))), some (.ref (ar (0, 0))), some (.int (nI i))] [] := by
  obtain ⟨hx, hb, hr, hml, hown, hts, hX, hbl, hlocks, hgv⟩ := C0
  have hbA : ¬ (fun q : Nat => s.heap.size ≤ q) b := Nat.not_le.mpr hbl
  intro d
  induction d with
  | zero =>
    intro i σ ca S T hi hd h hS hT
    have hlm := h.lam
    refine Zr_iload_n C dL_law_28 rfl ?_
    refine Zr_aload_n C dL_law_29 rfl ?_
    refine Zr_slen C hX hbl hbA dL_law_30 ?_
    refine Zr_iconst C (nI 5) dL_law_31 rfl ?_
    refine Zr_isub C dL_law_32 ?_
    refine Zr_icmp_gt C 554 dL_law_33 (by decide) (fun h1 => ?_) (fun h1 => absurd (law_more hL hi h1) (by omega))
    refine Zr_iconst C (1) dL_law_554 rfl ?_
    exact fun H locs ls hP hD hSS hl => va_forget (fun q hq => hSS.2.2 q hq) (W.widen (by omega) (by omega) (lw_ret hx hb hr hlocks dL_law_555))
  | succ d ih =>
    intro i σ ca S T hi hd h hS hT
    have hlm := h.lam
    refine Zr_iload_n C dL_law_28 rfl ?_
    refine Zr_aload_n C dL_law_29 rfl ?_
    refine Zr_slen C hX hbl hbA dL_law_30 ?_
    refine Zr_iconst C (nI 5) dL_law_31 rfl ?_
    refine Zr_isub C dL_law_32 ?_
    refine Zr_icmp_gt C 554 dL_law_33 (by decide) (fun h1 => ?_) (fun h1 => ?_)
    · refine Zr_iconst C (1) dL_law_554 rfl ?_
      exact fun H locs ls hP hD hSS hl => va_forget (fun q hq => hSS.2.2 q hq) (W.widen (by omega) (by omega) (lw_ret hx hb hr hlocks dL_law_555))
    · have hi5 := law_more hL hi h1
      have hL31 : L < 2 ^ 31 := by omega
      have tail : ∀ (σ1 : aS) (ca1 : Nat → Nat) (S1 T1 : zSt), aI n n σ1 → cRel n σ1 S1 → rRel σ1 T1 → Z p l e room_1 s m #[Value.ref b] below meth c D (fun q : Nat => s.heap.size ≤ q) 4 (lw_Z below #[Value.ref b] s) (xIL n) (400 + aLam σ1) (200000 + 2 * aLam σ1) (xSh K n (cpo n σ1.2.2)) (xA (zA ad ca1) ar) (xS S1 T1) 548 [some (.ref b), some (.ref (ad (0, 0))), some (.ref (ar (0, 0))), some (.int (nI i))] [] := by
        intro σ1 ca1 S1 T1 h1 hS1 hT1
        refine Zr_iincE C (nI 5) (nI (i + 5)) dL_law_548 (by decide) rfl rfl (nI_add i 5) ?_
        refine Zr_goto C 28 dL_law_551 (by decide) ?_
        exact ih (i + 5) σ1 ca1 S1 T1 (by omega) (by omega) h1 hS1 hT1
      refine Zr_aload_n C dL_law_36 rfl ?_
      refine Zr_iload_n C dL_law_37 rfl ?_
      refine Zr_sld C hX hbl hbA (show i < L by omega) hL31 dL_law_38 ?_
      refine Zr_bipush C (15) dL_law_39 rfl ?_
      refine Zr_iand C dL_law_41 ?_
      obtain ⟨k, hk, ek⟩ := and15 (xs i)
      refine Zr_topi ek ?_
      rcases (show k = 0 ∨ k = 1 ∨ k = 2 ∨ k = 3 ∨ k = 4 ∨ k = 5 ∨ k = 6 ∨ k = 7 ∨ k = 8 ∨ k = 9 ∨ k = 10 ∨ k = 11 ∨ k = 12 ∨ k = 13 ∨ k = 14 ∨ k = 15 by omega) with rfl | rfl | rfl | rfl | rfl | rfl | rfl | rfl | rfl | rfl | rfl | rfl | rfl | rfl | rfl | rfl
      · refine Zr_tableIn C 120 dL_law_42 (by decide) (by decide) rfl (by decide) ?_
        exact lc_start C hX hbl hbA hL31 hi5 h hS hT tail
      · refine Zr_tableIn C 133 dL_law_42 (by decide) (by decide) rfl (by decide) ?_
        exact lc_send C hX hbl hbA hL31 hi5 h hS hT tail
      · refine Zr_tableIn C 166 dL_law_42 (by decide) (by decide) rfl (by decide) ?_
        exact lc_rest C hX hbl hbA hL31 hi5 h hS hT tail
      · refine Zr_tableIn C 189 dL_law_42 (by decide) (by decide) rfl (by decide) ?_
        exact lc_ask C hX hbl hbA hL31 hi5 h hS hT tail
      · refine Zr_tableIn C 222 dL_law_42 (by decide) (by decide) rfl (by decide) ?_
        exact lc_answer C hX hbl hbA hL31 hi5 h hS hT tail
      · refine Zr_tableIn C 255 dL_law_42 (by decide) (by decide) rfl (by decide) ?_
        exact lc_probe C hX hbl hbA hL31 hi5 h hS hT tail
      · refine Zr_tableIn C 278 dL_law_42 (by decide) (by decide) rfl (by decide) ?_
        exact lc_pass C hX hbl hbA hL31 hi5 h hS hT tail
      · refine Zr_tableIn C 301 dL_law_42 (by decide) (by decide) rfl (by decide) ?_
        exact lc_receive C hX hbl hbA hL31 hi5 h hS hT tail
      · refine Zr_tableIn C 334 dL_law_42 (by decide) (by decide) rfl (by decide) ?_
        exact lc_run C hX hbl hbA hL31 hi5 h hS hT tail
      · refine Zr_tableIn C 367 dL_law_42 (by decide) (by decide) rfl (by decide) ?_
        exact lc_told C hX hbl hbA hL31 hi5 h hS hT tail
      · refine Zr_tableIn C 400 dL_law_42 (by decide) (by decide) rfl (by decide) ?_
        exact lc_waits C hX hbl hbA hL31 hi5 h hS hT tail
      · refine Zr_tableIn C 433 dL_law_42 (by decide) (by decide) rfl (by decide) ?_
        exact lc_message C hX hbl hbA hL31 hi5 h hS hT tail
      · refine Zr_tableIn C 486 dL_law_42 (by decide) (by decide) rfl (by decide) ?_
        exact lc_quiet C hX hbl hbA hL31 hi5 h hS hT tail
      · refine Zr_tableIn C 499 dL_law_42 (by decide) (by decide) rfl (by decide) ?_
        exact lc_wrong C hX hbl hbA hL31 hi5 h hS hT tail
      · refine Zr_tableIn C 512 dL_law_42 (by decide) (by decide) rfl (by decide) ?_
        exact lc_falsely C hX hbl hbA hL31 hi5 h hS hT tail
      · refine Zr_tableIn C 525 dL_law_42 (by decide) (by decide) rfl (by decide) ?_
        exact lc_count C hX hbl hbA hL31 hi5 h hS hT tail
