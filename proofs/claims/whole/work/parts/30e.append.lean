set_option maxHeartbeats 1000000 in
set_option maxRecDepth 100000 in
theorem k_X0_append {l : Launch} {D : va_G} {K : zKs} {n : Nat} {ad : zAd} {ca : Nat → Nat} {S : zSt} {σ : aS} {r : Nat} (hn : n ≤ 10) (hR : cRel n σ S) (hr : cRow n r) {mm : aM} {F : Nat} (hw : aWM n mm) (hF : aLam (aPush σ (cix n r) mm) ≤ F) (hlen : (σ.2.1 (cix n r)).length < 640) : zMet l yX0_append cX0_append 2 none { frames := 2, cells := (F - aLam σ), slots := (2 * (F - aLam σ)), locals := 44 } D K (cIL n) (cSh K n (cpo n σ.2.2)) (zA ad ca) S [.ref (zA ad ca (6, r)), .int (cPack mm)] (cP K n ad none (aPush σ (cix n r) mm)) := by
  refine zEnter (own := RX0) (lv0 := [some (.ref (zA ad ca (6, r))), some (.int (cPack mm))]) (by decide) rfl (by simp [Value.category]) (Nat.le_of_ble_eq_true rfl) rfl ?_
  intro p e s m below meth c A C _ hnm
  obtain ⟨b0, h01, h02, h03, e01, e02, h04, e03, hg00⟩ := hR.r hr
  have ek := cPack_kind hn hw
  have hlp := aLam_push (σ := σ) (m := mm) (cix_lt hn hr)
  have tail : ∀ (cb : Nat → Nat) (S : zSt) (τ : aS) (cl sl : Nat), cRel n τ S → τ.2.1 = σ.2.1 → (aPush σ (cix n r) mm).2.2 = τ.2.2 → τ.1 = σ.1 → (σ.2.1 (cix n r)).length < τ.2.2 (cix n r) → cl ≤ F - aLam σ → sl ≤ 2 * (F - aLam σ) → Z p l e ({ frames := 2, cells := (F - aLam σ), slots := (2 * (F - aLam σ)), locals := 44 } : Room) s m ([.ref (zA ad ca (6, r)), .int (cPack mm)] : List Value).toArray below meth c D A 2 (MQ below (zQ (cP K n ad none (aPush σ (cix n r) mm)) (cIL n) D A) ([.ref (zA ad ca (6, r)), .int (cPack mm)] : List Value).toArray s (F - aLam σ) (2 * (F - aLam σ)) A) (cIL n) cl sl (cSh K n (cpo n τ.2.2)) (zA ad cb) S (16) ([some (.ref (zA ad ca (6, r))), some (.int (cPack mm))]) ([]) := by
    intro cb S τ cl sl hR hL hC hN hlt hcl hsl
    obtain ⟨b, h1, h2, h3, e1, e2, h4, e3, hg⟩ := hR.r hr
    rw [hL] at e2 h4 e3 hg
    have fin : ∀ v : Int32, v = nI (aOf 1 (σ.2.1 (cix n r)) + (if mm.1 = 1 then 1 else 0)) → cRel n (aPush σ (cix n r) mm) (z3 (z3 (z3 S 7 r (cAt b (τ.2.2 (cix n r)) (σ.2.1 (cix n r)).length) (cPack mm)) 6 r 2 (nI ((σ.2.1 (cix n r)).length + 1))) 6 r 3 v) := by
      intro v hv
      have := cR_row (c' := τ.2.2 (cix n r)) (l' := σ.2.1 (cix n r) ++ [mm]) (S' := z3 (z3 (z3 S 7 r (cAt b (τ.2.2 (cix n r)) (σ.2.1 (cix n r)).length) (cPack mm)) 6 r 2 (nI ((σ.2.1 (cix n r)).length + 1))) 6 r 3 v) hn hR hr (fun x y hx hy => by funext z; simp only [z3]; rw [if_neg (by omega), if_neg (by omega), if_neg (by omega)]) (ring_put h1 h2 h3 hlt hg (by simp [z3]; exact e1) (by simp [z3]) (by simp [z3, hv]) (by funext z; simp [z3]))
      have e : aPush σ (cix n r) mm = (τ.1, (fun x => if x = cix n r then σ.2.1 (cix n r) ++ [mm] else τ.2.1 x), fun x => if x = cix n r then τ.2.2 (cix n r) else τ.2.2 x) := by
        refine Prod.ext hN.symm (Prod.ext ?_ ?_)
        · simp only [hL]
          rfl
        · rw [hC]
          funext x
          show _ = if x = cix n r then τ.2.2 (cix n r) else τ.2.2 x
          split
          · rename_i h; rw [h]
          · rfl
      rw [e]
      exact this
    have q32 : (z3 S 7 r (cAt b (τ.2.2 (cix n r)) (σ.2.1 (cix n r)).length) (cPack mm)) 6 r 2 = nI (σ.2.1 (cix n r)).length := by simp [z3]; exact e2
    have q42 : (z3 (z3 S 7 r (cAt b (τ.2.2 (cix n r)) (σ.2.1 (cix n r)).length) (cPack mm)) 6 r 2 (nI ((σ.2.1 (cix n r)).length + 1))) 6 r 3 = nI (aOf 1 (σ.2.1 (cix n r))) := by simp [z3]; exact e3
    refine Zr_aload_n C dX0_append_16 rfl ?_
    refine Zr_getR C gf_X0_11 (cm6 hr) rfl rfl rfl (by simp) dX0_append_17 ?_
    refine Zr_aload_n C dX0_append_20 rfl ?_
    refine Zr_aload_n C dX0_append_21 rfl ?_
    refine Zr_getE C gf_X0_19 (cm6 hr) rfl rfl rfl e2 dX0_append_22 ?_
    refine Zr_callV C cw_X0_15 (k_X0_placeOf (k := (σ.2.1 (cix n r)).length) (cm6 hr) rfl (cm7 hr) rfl e1 h1 (by show τ.2.2 (cix n r) ≤ _; omega) (by omega)) (cm6 hr) rfl rfl rfl (Nat.le_of_ble_eq_true rfl) (Nat.le_of_ble_eq_true rfl) rfl (Nat.le_of_ble_eq_true rfl) dX0_append_25 ⟨hcl, hsl⟩ ?_
    refine Zr_iload_n C dX0_append_28 rfl ?_
    refine Zr_iastN (Rel := fun X => X = _) C (cm7 hr) rfl rfl (cAt_lt h1 (by show _ ≤ τ.2.2 (cix n r); omega)) (by show τ.2.2 (cix n r) < _; omega) rfl dX0_append_29 (fun S1 hS1 => ?_)
    subst hS1
    refine Zr_aload_n C dX0_append_30 rfl ?_
    refine Zr_dup C dX0_append_31 rfl ?_
    refine Zr_getE C gf_X0_19 (cm6 hr) rfl rfl rfl q32 dX0_append_32 ?_
    refine Zr_iconst C (1) dX0_append_35 rfl ?_
    refine Zr_iadd C dX0_append_36 ?_
    refine Zr_topi (y := nI ((σ.2.1 (cix n r)).length + 1)) (nI_1 _) ?_
    refine Zr_put C pf_X0_19 (cm6 hr) rfl rfl rfl (znI _) dX0_append_37 ?_
    refine Zr_aload_n C dX0_append_40 rfl ?_
    refine Zr_dup C dX0_append_41 rfl ?_
    refine Zr_getE C gf_X0_26 (cm6 hr) rfl rfl rfl q42 dX0_append_42 ?_
    refine Zr_iload_n C dX0_append_45 rfl ?_
    refine Zr_callS C cw_X0_29 (k_X3_kindOf) rfl (Nat.le_of_ble_eq_true rfl) (Nat.le_of_ble_eq_true rfl) rfl (Nat.le_of_ble_eq_true rfl) dX0_append_46 ⟨hcl, hsl⟩ ?_
    refine Zr_topi (y := mm.1) ek ?_
    refine Zr_iconst C (1) dX0_append_49 rfl ?_
    refine Zr_icmp_ne C 57 dX0_append_50 (by decide) (fun h50 => ?_) (fun h50 => ?_)
    · refine Zr_iconst C (0) dX0_append_57 rfl ?_
      refine Zr_callS C cw_X0_32 (k_X3_oneIf) rfl (Nat.le_of_ble_eq_true rfl) (Nat.le_of_ble_eq_true rfl) rfl (Nat.le_of_ble_eq_true rfl) dX0_append_58 ⟨hcl, hsl⟩ ?_
      refine Zr_iadd C dX0_append_61 ?_
      refine Zr_topi (y := nI (aOf 1 (σ.2.1 (cix n r)) + (if mm.1 = 1 then 1 else 0))) (by simp [h50, nI_1]) ?_
      refine Zr_put C pf_X0_26 (cm6 hr) rfl rfl rfl (znI _) dX0_append_62 ?_
      exact Zr_vret C dX0_append_65 hcl hsl ⟨rfl, by rw [hC], ⟨_, rfl⟩, fin _ rfl⟩
    · refine Zr_iconst C (1) dX0_append_53 rfl ?_
      refine Zr_goto C 58 dX0_append_54 (by decide) ?_
      refine Zr_callS C cw_X0_32 (k_X3_oneIf) rfl (Nat.le_of_ble_eq_true rfl) (Nat.le_of_ble_eq_true rfl) rfl (Nat.le_of_ble_eq_true rfl) dX0_append_58 ⟨hcl, hsl⟩ ?_
      refine Zr_iadd C dX0_append_61 ?_
      refine Zr_topi (y := nI (aOf 1 (σ.2.1 (cix n r)) + (if mm.1 = 1 then 1 else 0))) (by simp [h50, nI_1]) ?_
      refine Zr_put C pf_X0_26 (cm6 hr) rfl rfl rfl (znI _) dX0_append_62 ?_
      exact Zr_vret C dX0_append_65 hcl hsl ⟨rfl, by rw [hC], ⟨_, rfl⟩, fin _ rfl⟩
  by_cases hfull : (σ.2.1 (cix n r)).length = (σ.2.2 (cix n r))
  · have hC : (aPush σ (cix n r) mm).2.2 = (aG σ (cix n r)).2.2 := by
      simp only [aPush, aG, hfull, if_true]
    have hGF : aLam (aG σ (cix n r)) ≤ F := by
      have : aLam (aG σ (cix n r)) = aLam (aPush σ (cix n r) mm) := by simp only [aLam, hC]
      omega
    refine Zr_aload_n C dX0_append_0 rfl ?_
    refine Zr_getE C gf_X0_19 (cm6 hr) rfl rfl rfl e02 dX0_append_1 ?_
    refine Zr_aload_n C dX0_append_4 rfl ?_
    refine Zr_getR C gf_X0_11 (cm6 hr) rfl rfl rfl (by simp) dX0_append_5 ?_
    refine Zr_alen C 0 (cm7 hr) rfl rfl rfl dX0_append_8 ?_
    refine Zr_icmp_ne C 16 dX0_append_9 (by decide) (fun h9 => absurd (by rw [hfull]; rfl) h9) (fun h9 => ?_)
    refine Zr_aload_n C dX0_append_12 rfl ?_
    refine Zr_callVCv C cw_X0_23 (k_X0_grow hn hR hr hGF (by omega)) (cm6 hr) rfl rfl rfl (Nat.le_of_ble_eq_true rfl) (Nat.le_of_ble_eq_true rfl) rfl (Nat.le_of_ble_eq_true rfl) dX0_append_13 ⟨by show 0 + (F - aLam σ) ≤ F - aLam σ; omega, by show 0 + 2 * (F - aLam σ) ≤ 2 * (F - aLam σ); omega⟩ (fun ca S hR => ?_)
    exact Zr_cs (Nat.zero_add _) (Nat.zero_add _) (tail ca S (aG σ (cix n r)) _ _ hR rfl hC rfl (by show _ < if cix n r = cix n r then 2 * (σ.2.2 (cix n r)) else _; rw [if_pos rfl]; omega) (Nat.le_refl _) (Nat.le_refl _))
  · have hC : (aPush σ (cix n r) mm).2.2 = σ.2.2 := by
      simp only [aPush, hfull, if_false]
      funext x
      split
      · rename_i h; rw [h]
      · rfl
    refine Zr_aload_n C dX0_append_0 rfl ?_
    refine Zr_getE C gf_X0_19 (cm6 hr) rfl rfl rfl e02 dX0_append_1 ?_
    refine Zr_aload_n C dX0_append_4 rfl ?_
    refine Zr_getR C gf_X0_11 (cm6 hr) rfl rfl rfl (by simp) dX0_append_5 ?_
    refine Zr_alen C 0 (cm7 hr) rfl rfl rfl dX0_append_8 ?_
    refine Zr_icmp_ne C 16 dX0_append_9 (by decide) (fun h9 => ?_) (fun h9 => absurd ((nI_eq (by omega) (by show σ.2.2 (cix n r) < _; omega)).mp h9) hfull)
    exact tail ca S σ 0 0 hR rfl hC rfl (by omega) (Nat.zero_le _) (Nat.zero_le _)
