theorem aSum_zero {f : Nat → Nat} : ∀ {n : Nat}, aSum f n = 0 ↔ ∀ k, k < n → f k = 0
  | 0 => by simp [aSum]
  | n + 1 => by
    have ih := aSum_zero (f := f) (n := n)
    simp only [aSum]
    constructor
    · intro h k hk
      by_cases hkn : k = n
      · subst hkn; omega
      · exact ih.mp (by omega) k (by omega)
    · intro h
      rw [ih.mpr (fun k hk => h k (by omega)), h n (by omega)]
theorem aSum_le {f : Nat → Nat} {b : Nat} : ∀ {n : Nat}, (∀ k, k < n → f k ≤ b) → aSum f n ≤ n * b
  | 0, _ => by simp [aSum]
  | n + 1, h => by
    have ih := aSum_le (f := f) (b := b) (n := n) (fun k hk => h k (by omega))
    have := h n (by omega)
    simp only [aSum]
    rw [Nat.succ_mul]
    omega
/-- a sum over the rows of the class -/
def cSm (n : Nat) (f : Nat → Nat) (k : Nat) : Nat := aSum (fun r => if r / n = r % n then 0 else f (cix n r)) k
set_option maxHeartbeats 1000000 in
set_option maxRecDepth 100000 in
theorem k_X3_worksUnderWay {l : Launch} {D : va_G} {K : zKs} {n : Nat} {ad : zAd} {ca : Nat → Nat} {S : zSt} {σ : aS} (hB : aB n σ) (hR : cRel n σ S) : zMet l yX3_worksUnderWay cX3_worksUnderWay 6 (some .int) { frames := 0, cells := 0, slots := 0, locals := 0 } D K (cIL n) (cSh K n (cpo n σ.2.2)) (zA ad ca) S [.ref (zA ad ca (0, 0))] (zEq (some (.int (nI (cSm n (fun x => aOf 1 (σ.2.1 x)) (n * n))))) (cSh K n (cpo n σ.2.2)) (zA ad ca) (S)) := by
  refine zEnter (own := RX3) (lv0 := [some (.ref (zA ad ca (0, 0))), none, none, none, none, none]) (by decide) rfl (by simp [Value.category]) (Nat.le_of_ble_eq_true rfl) rfl ?_
  intro p e s m below meth c A C _ hnm
  have hn := hB.2.2.1
  have hnn := nn_le hn
  have key : ∀ (d k : Nat), k + d = n * n → Z p l e ({ frames := 0, cells := 0, slots := 0, locals := 0 } : Room) s m ([.ref (zA ad ca (0, 0))] : List Value).toArray below meth c D A 6 (MQ below (zQ (zEq (some (.int (nI (cSm n (fun x => aOf 1 (σ.2.1 x)) (n * n))))) (cSh K n (cpo n σ.2.2)) (zA ad ca) (S)) (cIL n) D A) ([.ref (zA ad ca (0, 0))] : List Value).toArray s 0 0 A) (cIL n) 0 0 (cSh K n (cpo n σ.2.2)) (zA ad ca) S (13) ([some (.ref (zA ad ca (0, 0))), some (.int (nI (cSm n (fun x => aOf 1 (σ.2.1 x)) k))), some (.ref (zA ad ca (2, 0))), some (.int (nI (n * n))), some (.int (nI k)), none]) ([]) := by
    intro d
    induction d with
    | zero =>
      intro k hk
      have hk : k = n * n := by omega
      subst hk
      refine Zr_iload C dX3_worksUnderWay_13 rfl ?_
      refine Zr_iload_n C dX3_worksUnderWay_15 rfl ?_
      refine Zr_icmp_ge C 48 dX3_worksUnderWay_16 (by decide) (fun h16 => ?_) (fun h16 => absurd (nI_le (Nat.le_refl _) (by omega)) h16)
      refine Zr_iload_n C dX3_worksUnderWay_48 rfl ?_
      exact Zr_iret C dX3_worksUnderWay_49 (Nat.zero_le _) (Nat.zero_le _) ⟨rfl, rfl, rfl, rfl⟩
    | succ d ih =>
      intro k hk
      have hkl : k < n * n := by omega
      by_cases hd : k / n = k % n
      · have e1 : cSm n (fun x => aOf 1 (σ.2.1 x)) (k + 1) = cSm n (fun x => aOf 1 (σ.2.1 x)) k := by simp only [cSm, aSum, if_pos hd]; omega
        refine Zr_iload C dX3_worksUnderWay_13 rfl ?_
        refine Zr_iload_n C dX3_worksUnderWay_15 rfl ?_
        refine Zr_icmp_ge C 48 dX3_worksUnderWay_16 (by decide) (fun h16 => absurd h16 (nI_ge hkl (by omega))) (fun h16 => ?_)
        refine Zr_aload_n C dX3_worksUnderWay_19 rfl ?_
        refine Zr_iload C dX3_worksUnderWay_20 rfl ?_
        refine Zr_aaldZ C 3 cm2 rfl rfl rfl hkl (by omega) (if_pos hd) dX3_worksUnderWay_22 ?_
        refine Zr_astoreN C dX3_worksUnderWay_23 (by decide) ?_
        refine Zr_iload_n C dX3_worksUnderWay_25 rfl ?_
        refine Zr_aloadN C dX3_worksUnderWay_26 rfl ?_
        refine Zr_ifnonnullN C dX3_worksUnderWay_28 ?_
        refine Zr_iconst C (0) dX3_worksUnderWay_31 rfl ?_
        refine Zr_goto C 40 dX3_worksUnderWay_32 (by decide) ?_
        refine Zr_iadd C dX3_worksUnderWay_40 ?_
        refine Zr_topi (y := nI (cSm n (fun x => aOf 1 (σ.2.1 x)) (k + 1))) (by rw [e1]; exact Int32.add_zero _) ?_
        refine Zr_istore_n C dX3_worksUnderWay_41 (by decide) ?_
        refine Zr_iincE C (1) (nI (k + 1)) dX3_worksUnderWay_42 (by decide) rfl rfl (nI_1 _) ?_
        refine Zr_goto C 13 dX3_worksUnderWay_45 (by decide) ?_
        exact Zr_forget 5 (ih (k + 1) (by omega))
      · have hr : cRow n k := ⟨hkl, hd⟩
        obtain ⟨b, hring⟩ := hR.r hr
        have hv : S 6 k 3 = nI (aOf 1 (σ.2.1 (cix n k))) := hring.2.2.2.2.2.2.1
        have e1 : cSm n (fun x => aOf 1 (σ.2.1 x)) (k + 1) = cSm n (fun x => aOf 1 (σ.2.1 x)) k + aOf 1 (σ.2.1 (cix n k)) := by simp only [cSm, aSum, if_neg hd]
        refine Zr_iload C dX3_worksUnderWay_13 rfl ?_
        refine Zr_iload_n C dX3_worksUnderWay_15 rfl ?_
        refine Zr_icmp_ge C 48 dX3_worksUnderWay_16 (by decide) (fun h16 => absurd h16 (nI_ge hkl (by omega))) (fun h16 => ?_)
        refine Zr_aload_n C dX3_worksUnderWay_19 rfl ?_
        refine Zr_iload C dX3_worksUnderWay_20 rfl ?_
        refine Zr_aaldS C 3 cm2 rfl rfl rfl hkl (by omega) (if_neg hd) dX3_worksUnderWay_22 ?_
        refine Zr_astore C dX3_worksUnderWay_23 (by decide) ?_
        refine Zr_iload_n C dX3_worksUnderWay_25 rfl ?_
        refine Zr_aload C dX3_worksUnderWay_26 rfl ?_
        refine Zr_ifnonnull C 35 dX3_worksUnderWay_28 (by decide) ?_
        refine Zr_aload C dX3_worksUnderWay_35 rfl ?_
        refine Zr_getE C gf_X3_66 (cm6 hr) rfl rfl rfl hv dX3_worksUnderWay_37 ?_
        refine Zr_iadd C dX3_worksUnderWay_40 ?_
        refine Zr_topi (y := nI (cSm n (fun x => aOf 1 (σ.2.1 x)) (k + 1))) (by rw [e1]; exact nI_add _ _) ?_
        refine Zr_istore_n C dX3_worksUnderWay_41 (by decide) ?_
        refine Zr_iincE C (1) (nI (k + 1)) dX3_worksUnderWay_42 (by decide) rfl rfl (nI_1 _) ?_
        refine Zr_goto C 13 dX3_worksUnderWay_45 (by decide) ?_
        exact Zr_forget 5 (ih (k + 1) (by omega))
  refine Zr_iconst C (0) dX3_worksUnderWay_0 rfl ?_
  refine Zr_istore_n C dX3_worksUnderWay_1 (by decide) ?_
  refine Zr_aload_n C dX3_worksUnderWay_2 rfl ?_
  refine Zr_getR C gf_X3_34 cm0 rfl rfl rfl (by simp) dX3_worksUnderWay_3 ?_
  refine Zr_astore_n C dX3_worksUnderWay_6 (by decide) ?_
  refine Zr_aload_n C dX3_worksUnderWay_7 rfl ?_
  refine Zr_alen C 3 cm2 rfl rfl rfl dX3_worksUnderWay_8 ?_
  refine Zr_istore_n C dX3_worksUnderWay_9 (by decide) ?_
  refine Zr_iconst C (0) dX3_worksUnderWay_10 rfl ?_
  refine Zr_istore C dX3_worksUnderWay_11 (by decide) ?_
  exact key (n * n) 0 (by omega)
set_option maxHeartbeats 1000000 in
set_option maxRecDepth 100000 in
theorem k_X3_messagesUnderWay {l : Launch} {D : va_G} {K : zKs} {n : Nat} {ad : zAd} {ca : Nat → Nat} {S : zSt} {σ : aS} (hB : aB n σ) (hR : cRel n σ S) : zMet l yX3_messagesUnderWay cX3_messagesUnderWay 6 (some .int) { frames := 0, cells := 0, slots := 0, locals := 0 } D K (cIL n) (cSh K n (cpo n σ.2.2)) (zA ad ca) S [.ref (zA ad ca (0, 0))] (zEq (some (.int (nI (cSm n (fun x => (σ.2.1 x).length) (n * n))))) (cSh K n (cpo n σ.2.2)) (zA ad ca) (S)) := by
  refine zEnter (own := RX3) (lv0 := [some (.ref (zA ad ca (0, 0))), none, none, none, none, none]) (by decide) rfl (by simp [Value.category]) (Nat.le_of_ble_eq_true rfl) rfl ?_
  intro p e s m below meth c A C _ hnm
  have hn := hB.2.2.1
  have hnn := nn_le hn
  have key : ∀ (d k : Nat), k + d = n * n → Z p l e ({ frames := 0, cells := 0, slots := 0, locals := 0 } : Room) s m ([.ref (zA ad ca (0, 0))] : List Value).toArray below meth c D A 6 (MQ below (zQ (zEq (some (.int (nI (cSm n (fun x => (σ.2.1 x).length) (n * n))))) (cSh K n (cpo n σ.2.2)) (zA ad ca) (S)) (cIL n) D A) ([.ref (zA ad ca (0, 0))] : List Value).toArray s 0 0 A) (cIL n) 0 0 (cSh K n (cpo n σ.2.2)) (zA ad ca) S (13) ([some (.ref (zA ad ca (0, 0))), some (.int (nI (cSm n (fun x => (σ.2.1 x).length) k))), some (.ref (zA ad ca (2, 0))), some (.int (nI (n * n))), some (.int (nI k)), none]) ([]) := by
    intro d
    induction d with
    | zero =>
      intro k hk
      have hk : k = n * n := by omega
      subst hk
      refine Zr_iload C dX3_messagesUnderWay_13 rfl ?_
      refine Zr_iload_n C dX3_messagesUnderWay_15 rfl ?_
      refine Zr_icmp_ge C 48 dX3_messagesUnderWay_16 (by decide) (fun h16 => ?_) (fun h16 => absurd (nI_le (Nat.le_refl _) (by omega)) h16)
      refine Zr_iload_n C dX3_messagesUnderWay_48 rfl ?_
      exact Zr_iret C dX3_messagesUnderWay_49 (Nat.zero_le _) (Nat.zero_le _) ⟨rfl, rfl, rfl, rfl⟩
    | succ d ih =>
      intro k hk
      have hkl : k < n * n := by omega
      by_cases hd : k / n = k % n
      · have e1 : cSm n (fun x => (σ.2.1 x).length) (k + 1) = cSm n (fun x => (σ.2.1 x).length) k := by simp only [cSm, aSum, if_pos hd]; omega
        refine Zr_iload C dX3_messagesUnderWay_13 rfl ?_
        refine Zr_iload_n C dX3_messagesUnderWay_15 rfl ?_
        refine Zr_icmp_ge C 48 dX3_messagesUnderWay_16 (by decide) (fun h16 => absurd h16 (nI_ge hkl (by omega))) (fun h16 => ?_)
        refine Zr_aload_n C dX3_messagesUnderWay_19 rfl ?_
        refine Zr_iload C dX3_messagesUnderWay_20 rfl ?_
        refine Zr_aaldZ C 3 cm2 rfl rfl rfl hkl (by omega) (if_pos hd) dX3_messagesUnderWay_22 ?_
        refine Zr_astoreN C dX3_messagesUnderWay_23 (by decide) ?_
        refine Zr_iload_n C dX3_messagesUnderWay_25 rfl ?_
        refine Zr_aloadN C dX3_messagesUnderWay_26 rfl ?_
        refine Zr_ifnonnullN C dX3_messagesUnderWay_28 ?_
        refine Zr_iconst C (0) dX3_messagesUnderWay_31 rfl ?_
        refine Zr_goto C 40 dX3_messagesUnderWay_32 (by decide) ?_
        refine Zr_iadd C dX3_messagesUnderWay_40 ?_
        refine Zr_topi (y := nI (cSm n (fun x => (σ.2.1 x).length) (k + 1))) (by rw [e1]; exact Int32.add_zero _) ?_
        refine Zr_istore_n C dX3_messagesUnderWay_41 (by decide) ?_
        refine Zr_iincE C (1) (nI (k + 1)) dX3_messagesUnderWay_42 (by decide) rfl rfl (nI_1 _) ?_
        refine Zr_goto C 13 dX3_messagesUnderWay_45 (by decide) ?_
        exact Zr_forget 5 (ih (k + 1) (by omega))
      · have hr : cRow n k := ⟨hkl, hd⟩
        obtain ⟨b, hring⟩ := hR.r hr
        have hv : S 6 k 2 = nI ((σ.2.1 (cix n k)).length) := hring.2.2.2.2.1
        have e1 : cSm n (fun x => (σ.2.1 x).length) (k + 1) = cSm n (fun x => (σ.2.1 x).length) k + (σ.2.1 (cix n k)).length := by simp only [cSm, aSum, if_neg hd]
        refine Zr_iload C dX3_messagesUnderWay_13 rfl ?_
        refine Zr_iload_n C dX3_messagesUnderWay_15 rfl ?_
        refine Zr_icmp_ge C 48 dX3_messagesUnderWay_16 (by decide) (fun h16 => absurd h16 (nI_ge hkl (by omega))) (fun h16 => ?_)
        refine Zr_aload_n C dX3_messagesUnderWay_19 rfl ?_
        refine Zr_iload C dX3_messagesUnderWay_20 rfl ?_
        refine Zr_aaldS C 3 cm2 rfl rfl rfl hkl (by omega) (if_neg hd) dX3_messagesUnderWay_22 ?_
        refine Zr_astore C dX3_messagesUnderWay_23 (by decide) ?_
        refine Zr_iload_n C dX3_messagesUnderWay_25 rfl ?_
        refine Zr_aload C dX3_messagesUnderWay_26 rfl ?_
        refine Zr_ifnonnull C 35 dX3_messagesUnderWay_28 (by decide) ?_
        refine Zr_aload C dX3_messagesUnderWay_35 rfl ?_
        refine Zr_getE C gf_X3_153 (cm6 hr) rfl rfl rfl hv dX3_messagesUnderWay_37 ?_
        refine Zr_iadd C dX3_messagesUnderWay_40 ?_
        refine Zr_topi (y := nI (cSm n (fun x => (σ.2.1 x).length) (k + 1))) (by rw [e1]; exact nI_add _ _) ?_
        refine Zr_istore_n C dX3_messagesUnderWay_41 (by decide) ?_
        refine Zr_iincE C (1) (nI (k + 1)) dX3_messagesUnderWay_42 (by decide) rfl rfl (nI_1 _) ?_
        refine Zr_goto C 13 dX3_messagesUnderWay_45 (by decide) ?_
        exact Zr_forget 5 (ih (k + 1) (by omega))
  refine Zr_iconst C (0) dX3_messagesUnderWay_0 rfl ?_
  refine Zr_istore_n C dX3_messagesUnderWay_1 (by decide) ?_
  refine Zr_aload_n C dX3_messagesUnderWay_2 rfl ?_
  refine Zr_getR C gf_X3_34 cm0 rfl rfl rfl (by simp) dX3_messagesUnderWay_3 ?_
  refine Zr_astore_n C dX3_messagesUnderWay_6 (by decide) ?_
  refine Zr_aload_n C dX3_messagesUnderWay_7 rfl ?_
  refine Zr_alen C 3 cm2 rfl rfl rfl dX3_messagesUnderWay_8 ?_
  refine Zr_istore_n C dX3_messagesUnderWay_9 (by decide) ?_
  refine Zr_iconst C (0) dX3_messagesUnderWay_10 rfl ?_
  refine Zr_istore C dX3_messagesUnderWay_11 (by decide) ?_
  exact key (n * n) 0 (by omega)
theorem cSm_zero {σ : aS} {n : Nat} (hn2 : 2 ≤ n) (hD : ∀ i, i < n → aOf 1 (σ.2.1 (10 * i + i)) = 0) : cSm n (fun x => aOf 1 (σ.2.1 x)) (n * n) = 0 ↔ ∀ i, i < n → ∀ j, j < n → aOf 1 (σ.2.1 (10 * i + j)) = 0 := by
  rw [cSm, aSum_zero]
  constructor
  · intro h i hi j hj
    by_cases hij : i = j
    · subst hij; exact hD i hi
    · have := h (i * n + j) (cLt hi hj)
      rw [if_neg (by rw [(cDiv hj).1, (cDiv hj).2]; exact hij), cix_of hj] at this
      exact this
  · intro h k hk
    split
    · rfl
    · exact h _ (Nat.div_lt_of_lt_mul hk) _ (Nat.mod_lt _ (by omega))
theorem cSm_lt {σ : aS} {n : Nat} (hn : n ≤ 10) (hL : ∀ r, r < 100 → (σ.2.1 r).length < 640) : cSm n (fun x => aOf 1 (σ.2.1 x)) (n * n) < 2 ^ 31 := by
  have h1 : cSm n (fun x => aOf 1 (σ.2.1 x)) (n * n) ≤ n * n * 640 := aSum_le (fun k hk => by
    split
    · omega
    · rename_i hne
      have := hL _ (cix_lt hn ⟨hk, hne⟩)
      exact Nat.le_trans aOf_le (by omega))
  have := nn_le hn
  omega
/-- what the class's quiet counts on -/
def cQ (n : Nat) (σ : aS) : Prop := (∀ i, i < n → aOf 1 (σ.2.1 (10 * i + i)) = 0) ∧ ∀ r, r < 100 → (σ.2.1 r).length < 640
set_option maxHeartbeats 1000000 in
set_option maxRecDepth 100000 in
theorem k_X3_quiet {l : Launch} {D : va_G} {K : zKs} {n : Nat} {ad : zAd} {ca : Nat → Nat} {S : zSt} {σ : aS} (hB : aB n σ) (hR : cRel n σ S) (hQ : cQ n σ) : zMet l yX3_quiet cX3_quiet 2 (some .boolean) { frames := 1, cells := 0, slots := 0, locals := 25 } D K (cIL n) (cSh K n (cpo n σ.2.2)) (zA ad ca) S [.ref (zA ad ca (0, 0))] (zEq (some (.int (if aQuiet σ n = true then 1 else 0))) (cSh K n (cpo n σ.2.2)) (zA ad ca) (S)) := by
  refine zEnter (own := RX3) (lv0 := [some (.ref (zA ad ca (0, 0))), none]) (by decide) rfl (by simp [Value.category]) (Nat.le_of_ble_eq_true rfl) rfl ?_
  intro p e s m below meth c A C _ hnm
  have hn := hB.2.2.1
  have hlt := cSm_lt hn hQ.2
  have hz := cSm_zero hB.2.1 hQ.1
  have key : ∀ (d i : Nat), i + d = n → (∀ j, j < i → σ.1 1 8 j = 0) → Z p l e ({ frames := 1, cells := 0, slots := 0, locals := 25 } : Room) s m ([.ref (zA ad ca (0, 0))] : List Value).toArray below meth c D A 2 (MQ below (zQ (zEq (some (.int (if aQuiet σ n = true then 1 else 0))) (cSh K n (cpo n σ.2.2)) (zA ad ca) (S)) (cIL n) D A) ([.ref (zA ad ca (0, 0))] : List Value).toArray s 0 0 A) (cIL n) 0 0 (cSh K n (cpo n σ.2.2)) (zA ad ca) S (2) ([some (.ref (zA ad ca (0, 0))), some (.int (nI i))]) ([]) := by
    intro d
    induction d with
    | zero =>
      intro i hi hok
      have hi : i = n := by omega
      subst hi
      by_cases hc : cSm i (fun x => aOf 1 (σ.2.1 x)) (i * i) = 0
      · refine Zr_iload_n C dX3_quiet_2 rfl ?_
        refine Zr_aload_n C dX3_quiet_3 rfl ?_
        refine Zr_getE C gf_X3_18 cm0 rfl rfl rfl hR.1.1 dX3_quiet_4 ?_
        refine Zr_icmp_ge C 30 dX3_quiet_7 (by decide) (fun h7 => ?_) (fun h7 => absurd (by rw [hB.1]; exact nI_le (Nat.le_refl _) (by omega)) h7)
        refine Zr_aload_n C dX3_quiet_30 rfl ?_
        refine Zr_callV C cw_X3_204 (k_X3_worksUnderWay hB hR) cm0 rfl rfl rfl (Nat.le_of_ble_eq_true rfl) (Nat.le_of_ble_eq_true rfl) rfl (Nat.le_of_ble_eq_true rfl) dX3_quiet_31 ⟨Nat.zero_le _, Nat.zero_le _⟩ ?_
        refine Zr_if_ne C 41 dX3_quiet_34 (by decide) (fun h34 => absurd (by rw [hc]; rfl) h34) (fun h34 => ?_)
        refine Zr_iconst C (1) dX3_quiet_37 rfl ?_
        refine Zr_goto C 42 dX3_quiet_38 (by decide) ?_
        exact Zr_zret C dX3_quiet_42 (Nat.zero_le _) (Nat.zero_le _) (by first | exact Or.inl rfl | exact Or.inr rfl | assumption) ⟨by rw [if_pos (aQuiet_iff.mpr (fun j hj => ⟨hok j hj, fun q hq => hz.mp hc j hj q hq⟩))], rfl, rfl, rfl⟩
      · refine Zr_iload_n C dX3_quiet_2 rfl ?_
        refine Zr_aload_n C dX3_quiet_3 rfl ?_
        refine Zr_getE C gf_X3_18 cm0 rfl rfl rfl hR.1.1 dX3_quiet_4 ?_
        refine Zr_icmp_ge C 30 dX3_quiet_7 (by decide) (fun h7 => ?_) (fun h7 => absurd (by rw [hB.1]; exact nI_le (Nat.le_refl _) (by omega)) h7)
        refine Zr_aload_n C dX3_quiet_30 rfl ?_
        refine Zr_callV C cw_X3_204 (k_X3_worksUnderWay hB hR) cm0 rfl rfl rfl (Nat.le_of_ble_eq_true rfl) (Nat.le_of_ble_eq_true rfl) rfl (Nat.le_of_ble_eq_true rfl) dX3_quiet_31 ⟨Nat.zero_le _, Nat.zero_le _⟩ ?_
        refine Zr_if_ne C 41 dX3_quiet_34 (by decide) (fun h34 => ?_) (fun h34 => absurd ((nI_eq hlt (by decide)).mp h34) hc)
        refine Zr_iconst C (0) dX3_quiet_41 rfl ?_
        exact Zr_zret C dX3_quiet_42 (Nat.zero_le _) (Nat.zero_le _) (by first | exact Or.inl rfl | exact Or.inr rfl | assumption) ⟨by rw [if_neg (fun h => hc (hz.mpr (fun j hj q hq => (aQuiet_iff.mp h j hj).2 q hq)))], rfl, rfl, rfl⟩
    | succ d ih =>
      intro i hi hok
      have hil : i < n := by omega
      refine Zr_iload_n C dX3_quiet_2 rfl ?_
      refine Zr_aload_n C dX3_quiet_3 rfl ?_
      refine Zr_getE C gf_X3_18 cm0 rfl rfl rfl hR.1.1 dX3_quiet_4 ?_
      refine Zr_icmp_ge C 30 dX3_quiet_7 (by decide) (fun h7 => absurd h7 (by rw [hB.1]; exact nI_ge hil (by omega))) (fun h7 => ?_)
      refine Zr_aload_n C dX3_quiet_10 rfl ?_
      refine Zr_getR C gf_X3_26 cm0 rfl rfl rfl (by simp) dX3_quiet_11 ?_
      refine Zr_iload_n C dX3_quiet_14 rfl ?_
      refine Zr_aaldS C 2 cm1 rfl rfl rfl hil (by omega) rfl dX3_quiet_15 ?_
      refine Zr_getE C gf_X3_49 (cm4 hil) rfl rfl rfl (hR.w hil).1 dX3_quiet_16 ?_
      refine Zr_if_eq C 24 dX3_quiet_19 (by decide) (fun h19 => ?_) (fun h19 => ?_)
      · refine Zr_iincE C (1) (nI (i + 1)) dX3_quiet_24 (by decide) rfl rfl (nI_1 _) ?_
        refine Zr_goto C 2 dX3_quiet_27 (by decide) ?_
        exact ih (i + 1) (by omega) (fun j hj => if hji : j = i then by rw [hji]; exact h19 else hok j (by omega))
      · refine Zr_iconst C (0) dX3_quiet_22 rfl ?_
        exact Zr_zret C dX3_quiet_23 (Nat.zero_le _) (Nat.zero_le _) (by first | exact Or.inl rfl | exact Or.inr rfl | assumption) ⟨by rw [if_neg (fun h => h19 (aQuiet_iff.mp h i hil).1)], rfl, rfl, rfl⟩
  refine Zr_iconst C (0) dX3_quiet_0 rfl ?_
  refine Zr_istore_n C dX3_quiet_1 (by decide) ?_
  exact key n 0 (by omega) (fun j hj => absurd hj (Nat.not_lt_zero _))
set_option maxHeartbeats 1000000 in
set_option maxRecDepth 100000 in
theorem k_X3_judgeEnd {l : Launch} {D : va_G} {K : zKs} {n : Nat} {ad : zAd} {ca : Nat → Nat} {S : zSt} {σ : aS} (hB : aB n σ) (hR : cRel n σ S) (hQ : cQ n σ) : zMet l yX3_judgeEnd cX3_judgeEnd 1 none { frames := 2, cells := 0, slots := 0, locals := 46 } D K (cIL n) (cSh K n (cpo n σ.2.2)) (zA ad ca) S [.ref (zA ad ca (0, 0))] (zR none (cSh K n (cpo n σ.2.2)) (zA ad ca) (cRel n (aJudge n σ))) := by
  refine zEnter (own := RX3) (lv0 := [some (.ref (zA ad ca (0, 0)))]) (by decide) rfl (by simp [Value.category]) (Nat.le_of_ble_eq_true rfl) rfl ?_
  intro p e s m below meth c A C _ hnm
  by_cases h : aQuiet σ n = true
  · refine Zr_aload_n C dX3_judgeEnd_0 rfl ?_
    refine Zr_callV C cw_X3_234 (k_X3_quiet hB hR hQ) cm0 rfl rfl rfl (Nat.le_of_ble_eq_true rfl) (Nat.le_of_ble_eq_true rfl) rfl (Nat.le_of_ble_eq_true rfl) dX3_judgeEnd_1 ⟨Nat.zero_le _, Nat.zero_le _⟩ ?_
    refine Zr_topi (y := 1) (if_pos h) ?_
    refine Zr_if_ne C 17 dX3_judgeEnd_4 (by decide) (fun h4 => ?_) (fun h4 => absurd h4 (by decide))
    exact Zr_vret C dX3_judgeEnd_17 (Nat.zero_le _) (Nat.zero_le _) ⟨rfl, rfl, rfl, by rw [aJudge, if_pos h]; exact hR⟩
  · refine Zr_aload_n C dX3_judgeEnd_0 rfl ?_
    refine Zr_callV C cw_X3_234 (k_X3_quiet hB hR hQ) cm0 rfl rfl rfl (Nat.le_of_ble_eq_true rfl) (Nat.le_of_ble_eq_true rfl) rfl (Nat.le_of_ble_eq_true rfl) dX3_judgeEnd_1 ⟨Nat.zero_le _, Nat.zero_le _⟩ ?_
    refine Zr_topi (y := 0) (if_neg h) ?_
    refine Zr_if_ne C 17 dX3_judgeEnd_4 (by decide) (fun h4 => absurd rfl h4) (fun h4 => ?_)
    refine Zr_aload_n C dX3_judgeEnd_7 rfl ?_
    refine Zr_dup C dX3_judgeEnd_8 rfl ?_
    refine Zr_getE C gf_X3_207 cm0 rfl rfl rfl hR.1.2.2.2.2.1 dX3_judgeEnd_9 ?_
    refine Zr_iconst C (1) dX3_judgeEnd_12 rfl ?_
    refine Zr_iadd C dX3_judgeEnd_13 ?_
    refine Zr_putE C pf_X3_207 cm0 rfl rfl rfl (znI _) (cRm7 hR) dX3_judgeEnd_14 (fun S hR => ?_)
    exact Zr_vret C dX3_judgeEnd_17 (Nat.zero_le _) (Nat.zero_le _) ⟨rfl, rfl, rfl, by rw [aJudge, if_neg h]; exact hR⟩
set_option maxHeartbeats 1000000 in
set_option maxRecDepth 100000 in
theorem k_X3_isInTree {l : Launch} {D : va_G} {K : zKs} {n : Nat} {ad : zAd} {ca : Nat → Nat} {S : zSt} {σ : aS} (hB : aB n σ) (hR : cRel n σ S) {i : Nat} (hi : i < n) : zMet l yX3_isInTree cX3_isInTree 3 (some .boolean) { frames := 0, cells := 0, slots := 0, locals := 0 } D K (cIL n) (cSh K n (cpo n σ.2.2)) (zA ad ca) S [.ref (zA ad ca (0, 0)), .int (nI i), .ref (zA ad ca (4, i))] (zEq (some (.int (if aTree σ i = true then 1 else 0))) (cSh K n (cpo n σ.2.2)) (zA ad ca) (S)) := by
  refine zEnter (own := RX3) (lv0 := [some (.ref (zA ad ca (0, 0))), some (.int (nI i)), some (.ref (zA ad ca (4, i)))]) (by decide) rfl (by simp [Value.category]) (Nat.le_of_ble_eq_true rfl) rfl ?_
  intro p e s m below meth c A C _ hnm
  have hn := hB.2.2.1
  rcases Nat.eq_zero_or_pos i with rfl | hz
  · refine Zr_iload_n C dX3_isInTree_0 rfl ?_
    refine Zr_if_ne C 26 dX3_isInTree_1 (by decide) (fun h1 => absurd rfl h1) (fun h1 => ?_)
    refine Zr_aload_n C dX3_isInTree_4 rfl ?_
    refine Zr_getE C gf_X3_45 cm0 rfl rfl rfl hR.1.2.1 dX3_isInTree_5 ?_
    refine Zr_if_eq C 22 dX3_isInTree_8 (by decide) (fun h8 => ?_) (fun h8 => ?_)
    · refine Zr_iconst C (0) dX3_isInTree_22 rfl ?_
      refine Zr_goto C 39 dX3_isInTree_23 (by decide) ?_
      exact Zr_zret C dX3_isInTree_39 (Nat.zero_le _) (Nat.zero_le _) (by first | exact Or.inl rfl | exact Or.inr rfl | assumption) ⟨by simp [*, aTree], rfl, rfl, rfl⟩
    · refine Zr_aload_n C dX3_isInTree_11 rfl ?_
      refine Zr_getE C gf_X3_213 cm0 rfl rfl rfl hR.1.2.2.1 dX3_isInTree_12 ?_
      refine Zr_if_ne C 22 dX3_isInTree_15 (by decide) (fun h15 => ?_) (fun h15 => ?_)
      · refine Zr_iconst C (0) dX3_isInTree_22 rfl ?_
        refine Zr_goto C 39 dX3_isInTree_23 (by decide) ?_
        exact Zr_zret C dX3_isInTree_39 (Nat.zero_le _) (Nat.zero_le _) (by first | exact Or.inl rfl | exact Or.inr rfl | assumption) ⟨by simp [*, aTree], rfl, rfl, rfl⟩
      · refine Zr_iconst C (1) dX3_isInTree_18 rfl ?_
        refine Zr_goto C 39 dX3_isInTree_19 (by decide) ?_
        exact Zr_zret C dX3_isInTree_39 (Nat.zero_le _) (Nat.zero_le _) (by first | exact Or.inl rfl | exact Or.inr rfl | assumption) ⟨by simp [*, aTree], rfl, rfl, rfl⟩
  · have hz2 : ¬ i = 0 := by omega
    refine Zr_iload_n C dX3_isInTree_0 rfl ?_
    refine Zr_if_ne C 26 dX3_isInTree_1 (by decide) (fun h1 => ?_) (fun h1 => absurd h1 (nI_ne0 hz (by omega)))
    refine Zr_aload_n C dX3_isInTree_26 rfl ?_
    refine Zr_getE C gf_X3_189 (cm4 hi) rfl rfl rfl (hR.w hi).2.2.1 dX3_isInTree_27 ?_
    refine Zr_iconst C (-1) dX3_isInTree_30 rfl ?_
    refine Zr_icmp_eq C 38 dX3_isInTree_31 (by decide) (fun h31 => ?_) (fun h31 => ?_)
    · refine Zr_iconst C (0) dX3_isInTree_38 rfl ?_
      exact Zr_zret C dX3_isInTree_39 (Nat.zero_le _) (Nat.zero_le _) (by first | exact Or.inl rfl | exact Or.inr rfl | assumption) ⟨by simp [*, aTree], rfl, rfl, rfl⟩
    · refine Zr_iconst C (1) dX3_isInTree_34 rfl ?_
      refine Zr_goto C 39 dX3_isInTree_35 (by decide) ?_
      exact Zr_zret C dX3_isInTree_39 (Nat.zero_le _) (Nat.zero_le _) (by first | exact Or.inl rfl | exact Or.inr rfl | assumption) ⟨by simp [*, aTree], rfl, rfl, rfl⟩
theorem aJudge_2 {n : Nat} {σ : aS} : (aJudge n σ).2 = σ.2 := by
  unfold aJudge
  split <;> rfl
theorem wm1 {n : Nat} : aWM n (1, -1, -1) := Or.inl ⟨Or.inl rfl, rfl⟩
theorem wm2 {n : Nat} : aWM n (2, -1, -1) := Or.inl ⟨Or.inr (Or.inl rfl), rfl⟩
theorem wm3 {n : Nat} : aWM n (3, -1, -1) := Or.inl ⟨Or.inr (Or.inr (Or.inl rfl)), rfl⟩
theorem wm4 {n : Nat} : aWM n (4, -1, -1) := Or.inl ⟨Or.inr (Or.inr (Or.inr (Or.inl rfl))), rfl⟩
theorem wm5 {n : Nat} : aWM n (5, -1, -1) := Or.inl ⟨Or.inr (Or.inr (Or.inr (Or.inr rfl))), rfl⟩
theorem aN_sw (σ : aS) (j : Nat) (v w : Int32) : aN (aN σ 1 11 j v) 1 12 j w = aN (aN σ 1 12 j w) 1 11 j v := by
  refine Prod.ext ?_ rfl
  funext a b k
  simp only [aN, z3]
  by_cases h : a = 1 ∧ b = 12 ∧ k = j
  · rw [if_pos h, if_neg (fun h2 => by omega), if_pos h]
  · rw [if_neg h]
    by_cases h2 : a = 1 ∧ b = 11 ∧ k = j
    · rw [if_pos h2, if_pos h2]
    · rw [if_neg h2, if_neg h2, if_neg h]
set_option maxHeartbeats 1000000 in
set_option maxRecDepth 100000 in
theorem k_X3_leaveTreeIfDone {l : Launch} {D : va_G} {K : zKs} {n : Nat} {ad : zAd} {ca : Nat → Nat} {S : zSt} {σ : aS} (hB : aB n σ) (hR : cRel n σ S) {i F : Nat} (hi : i < n) (hQ : cQ n σ) (h0 : ¬ σ.1 1 10 i < 0) (hpar : aQual σ i = true → i ≠ 0 → ∃ j, j < n ∧ j ≠ i ∧ σ.1 1 9 i = nI j) (hF : aLam (aLeave n σ i) ≤ F) : zMet l yX3_leaveTreeIfDone cX3_leaveTreeIfDone 3 none { frames := 4, cells := (F - aLam σ), slots := (2 * (F - aLam σ)), locals := 89 } D K (cIL n) (cSh K n (cpo n σ.2.2)) (zA ad ca) S [.ref (zA ad ca (0, 0)), .int (nI i), .ref (zA ad ca (4, i))] (cP K n ad none (aLeave n σ i)) := by
  refine zEnter (own := RX3) (lv0 := [some (.ref (zA ad ca (0, 0))), some (.int (nI i)), some (.ref (zA ad ca (4, i)))]) (by decide) rfl (by simp [Value.category]) (Nat.le_of_ble_eq_true rfl) rfl ?_
  intro p e s m below meth c A C _ hnm
  have hn := hB.2.2.1
  have zz : 0 ≤ F - aLam σ ∧ 0 ≤ 2 * (F - aLam σ) := ⟨Nat.zero_le _, Nat.zero_le _⟩
  by_cases hq : aQual σ i = true
  · have hq3 := aQual_iff.mp hq
    have ho : σ.1 1 10 i = 0 := by
      exact Int32.le_antisymm (Int32.not_lt.mp hq3.2.2) (Int32.not_lt.mp h0)
    rcases Nat.eq_zero_or_pos i with rfl | hz
    · have hl : aLeave n σ 0 = aJudge n (aN σ 0 0 2 1) := by rw [aLeave, if_pos hq, if_pos rfl]
      have hB2 : aB n (aN σ 0 0 2 1) := hB.g (by decide) (fun _ => Or.inr rfl)
      refine Zr_aload_n C dX3_leaveTreeIfDone_0 rfl ?_
      refine Zr_getE C gf_X3_49 (cm4 hi) rfl rfl rfl (hR.w hi).1 dX3_leaveTreeIfDone_1 ?_
      refine Zr_if_ne C 23 dX3_leaveTreeIfDone_4 (by decide) (fun h4 => absurd hq3.2.1 h4) (fun h4 => ?_)
      refine Zr_aload_n C dX3_leaveTreeIfDone_7 rfl ?_
      refine Zr_getE C gf_X3_71 (cm4 hi) rfl rfl rfl (hR.w hi).2.2.2.1 dX3_leaveTreeIfDone_8 ?_
      refine Zr_if_ne C 23 dX3_leaveTreeIfDone_11 (by decide) (fun h11 => absurd ho h11) (fun h11 => ?_)
      refine Zr_aload_n C dX3_leaveTreeIfDone_14 rfl ?_
      refine Zr_iload_n C dX3_leaveTreeIfDone_15 rfl ?_
      refine Zr_aload_n C dX3_leaveTreeIfDone_16 rfl ?_
      refine Zr_callV C cw_X3_185 (k_X3_isInTree hB hR hi) cm0 rfl rfl rfl (Nat.le_of_ble_eq_true rfl) (Nat.le_of_ble_eq_true rfl) rfl (Nat.le_of_ble_eq_true rfl) dX3_leaveTreeIfDone_17 ⟨Nat.zero_le _, Nat.zero_le _⟩ ?_
      refine Zr_topi (y := 1) (if_pos hq3.1) ?_
      refine Zr_if_ne C 24 dX3_leaveTreeIfDone_20 (by decide) (fun h20 => ?_) (fun h20 => absurd h20 (by decide))
      refine Zr_iload_n C dX3_leaveTreeIfDone_24 rfl ?_
      refine Zr_if_ne C 40 dX3_leaveTreeIfDone_25 (by decide) (fun h25 => absurd rfl h25) (fun h25 => ?_)
      refine Zr_aload_n C dX3_leaveTreeIfDone_28 rfl ?_
      refine Zr_iconst C (1) dX3_leaveTreeIfDone_29 rfl ?_
      refine Zr_putE C pf_X3_213 cm0 rfl rfl rfl (znZ (by first | exact Or.inl rfl | exact Or.inr rfl | assumption)) (cRm5 hR) dX3_leaveTreeIfDone_30 (fun S hR => ?_)
      refine Zr_aload_n C dX3_leaveTreeIfDone_33 rfl ?_
      refine Zr_callVRv C cw_X3_144 (k_X3_judgeEnd (σ := aN σ 0 0 2 1) hB2 hR hQ) cm0 rfl rfl rfl (Nat.le_of_ble_eq_true rfl) (Nat.le_of_ble_eq_true rfl) rfl (Nat.le_of_ble_eq_true rfl) dX3_leaveTreeIfDone_34 ⟨Nat.zero_le _, Nat.zero_le _⟩ (fun S hR => ?_)
      refine Zr_goto C 55 dX3_leaveTreeIfDone_37 (by decide) ?_
      exact Zr_vret C dX3_leaveTreeIfDone_55 (Nat.zero_le _) (Nat.zero_le _) ⟨rfl, by rw [hl, aJudge_2]; rfl, ⟨_, rfl⟩, by rw [hl]; exact hR⟩
    · obtain ⟨j, hj, hji, hj2⟩ := hpar hq (by omega)
      have hl : aLeave n σ i = aN (aPush σ (10 * i + j) (2, -1, -1)) 1 9 i (-1) := by rw [aLeave, if_pos hq, if_neg (by omega), hj2, nI_clamp (by omega)]
      refine Zr_aload_n C dX3_leaveTreeIfDone_0 rfl ?_
      refine Zr_getE C gf_X3_49 (cm4 hi) rfl rfl rfl (hR.w hi).1 dX3_leaveTreeIfDone_1 ?_
      refine Zr_if_ne C 23 dX3_leaveTreeIfDone_4 (by decide) (fun h4 => absurd hq3.2.1 h4) (fun h4 => ?_)
      refine Zr_aload_n C dX3_leaveTreeIfDone_7 rfl ?_
      refine Zr_getE C gf_X3_71 (cm4 hi) rfl rfl rfl (hR.w hi).2.2.2.1 dX3_leaveTreeIfDone_8 ?_
      refine Zr_if_ne C 23 dX3_leaveTreeIfDone_11 (by decide) (fun h11 => absurd ho h11) (fun h11 => ?_)
      refine Zr_aload_n C dX3_leaveTreeIfDone_14 rfl ?_
      refine Zr_iload_n C dX3_leaveTreeIfDone_15 rfl ?_
      refine Zr_aload_n C dX3_leaveTreeIfDone_16 rfl ?_
      refine Zr_callV C cw_X3_185 (k_X3_isInTree hB hR hi) cm0 rfl rfl rfl (Nat.le_of_ble_eq_true rfl) (Nat.le_of_ble_eq_true rfl) rfl (Nat.le_of_ble_eq_true rfl) dX3_leaveTreeIfDone_17 ⟨Nat.zero_le _, Nat.zero_le _⟩ ?_
      refine Zr_topi (y := 1) (if_pos hq3.1) ?_
      refine Zr_if_ne C 24 dX3_leaveTreeIfDone_20 (by decide) (fun h20 => ?_) (fun h20 => absurd h20 (by decide))
      refine Zr_iload_n C dX3_leaveTreeIfDone_24 rfl ?_
      refine Zr_if_ne C 40 dX3_leaveTreeIfDone_25 (by decide) (fun h25 => ?_) (fun h25 => absurd h25 (nI_ne0 hz (by omega)))
      refine Zr_aload_n C dX3_leaveTreeIfDone_40 rfl ?_
      refine Zr_iload_n C dX3_leaveTreeIfDone_41 rfl ?_
      refine Zr_aload_n C dX3_leaveTreeIfDone_42 rfl ?_
      refine Zr_getE C gf_X3_189 (cm4 hi) rfl rfl rfl ((hR.w hi).2.2.1.trans hj2) dX3_leaveTreeIfDone_43 ?_
      refine Zr_iconst C (2) dX3_leaveTreeIfDone_46 rfl ?_
      refine Zr_topi (y := cPack (2, -1, -1)) (by decide) ?_
      refine Zr_callVCv C cw_X3_117 (k_X3_put hB hR hi hj (fun h => hji h.symm) wm2 (by rw [hl] at hF; exact hF) (hQ.2 _ (by omega))) cm0 rfl rfl rfl (Nat.le_of_ble_eq_true rfl) (Nat.le_of_ble_eq_true rfl) rfl (Nat.le_of_ble_eq_true rfl) dX3_leaveTreeIfDone_47 ⟨by show 0 + (F - aLam σ) ≤ F - aLam σ; omega, by show 0 + 2 * (F - aLam σ) ≤ 2 * (F - aLam σ); omega⟩ (fun ca S hR => ?_)
      refine Zr_aload_n C dX3_leaveTreeIfDone_50 rfl ?_
      refine Zr_iconst C (-1) dX3_leaveTreeIfDone_51 rfl ?_
      refine Zr_putE C pf_X3_189 (cm4 hi) rfl rfl rfl (znI _) (cRw3 hR) dX3_leaveTreeIfDone_52 (fun S hR => ?_)
      exact Zr_vret C dX3_leaveTreeIfDone_55 (by show 0 + (F - aLam σ) ≤ F - aLam σ; omega) (by show 0 + 2 * (F - aLam σ) ≤ 2 * (F - aLam σ); omega) ⟨rfl, by rw [hl]; rfl, ⟨_, rfl⟩, by rw [hl]; exact hR⟩
  · have hl : aLeave n σ i = σ := if_neg hq
    by_cases ht : aTree σ i = true
    · refine Zr_aload_n C dX3_leaveTreeIfDone_0 rfl ?_
      refine Zr_getE C gf_X3_49 (cm4 hi) rfl rfl rfl (hR.w hi).1 dX3_leaveTreeIfDone_1 ?_
      refine Zr_if_ne C 23 dX3_leaveTreeIfDone_4 (by decide) (fun h4 => ?_) (fun h4 => ?_)
      · exact Zr_vret C dX3_leaveTreeIfDone_23 (Nat.zero_le _) (Nat.zero_le _) ⟨rfl, by rw [hl], ⟨_, rfl⟩, by rw [hl]; exact hR⟩
      · refine Zr_aload_n C dX3_leaveTreeIfDone_7 rfl ?_
        refine Zr_getE C gf_X3_71 (cm4 hi) rfl rfl rfl (hR.w hi).2.2.2.1 dX3_leaveTreeIfDone_8 ?_
        refine Zr_if_ne C 23 dX3_leaveTreeIfDone_11 (by decide) (fun h11 => ?_) (fun h11 => absurd (aQual_iff.mpr ⟨ht, h4, by rw [h11]; decide⟩) hq)
        exact Zr_vret C dX3_leaveTreeIfDone_23 (Nat.zero_le _) (Nat.zero_le _) ⟨rfl, by rw [hl], ⟨_, rfl⟩, by rw [hl]; exact hR⟩
    · refine Zr_aload_n C dX3_leaveTreeIfDone_0 rfl ?_
      refine Zr_getE C gf_X3_49 (cm4 hi) rfl rfl rfl (hR.w hi).1 dX3_leaveTreeIfDone_1 ?_
      refine Zr_if_ne C 23 dX3_leaveTreeIfDone_4 (by decide) (fun h4 => ?_) (fun h4 => ?_)
      · exact Zr_vret C dX3_leaveTreeIfDone_23 (Nat.zero_le _) (Nat.zero_le _) ⟨rfl, by rw [hl], ⟨_, rfl⟩, by rw [hl]; exact hR⟩
      · refine Zr_aload_n C dX3_leaveTreeIfDone_7 rfl ?_
        refine Zr_getE C gf_X3_71 (cm4 hi) rfl rfl rfl (hR.w hi).2.2.2.1 dX3_leaveTreeIfDone_8 ?_
        refine Zr_if_ne C 23 dX3_leaveTreeIfDone_11 (by decide) (fun h11 => ?_) (fun h11 => ?_)
        · exact Zr_vret C dX3_leaveTreeIfDone_23 (Nat.zero_le _) (Nat.zero_le _) ⟨rfl, by rw [hl], ⟨_, rfl⟩, by rw [hl]; exact hR⟩
        · refine Zr_aload_n C dX3_leaveTreeIfDone_14 rfl ?_
          refine Zr_iload_n C dX3_leaveTreeIfDone_15 rfl ?_
          refine Zr_aload_n C dX3_leaveTreeIfDone_16 rfl ?_
          refine Zr_callV C cw_X3_185 (k_X3_isInTree hB hR hi) cm0 rfl rfl rfl (Nat.le_of_ble_eq_true rfl) (Nat.le_of_ble_eq_true rfl) rfl (Nat.le_of_ble_eq_true rfl) dX3_leaveTreeIfDone_17 ⟨Nat.zero_le _, Nat.zero_le _⟩ ?_
          refine Zr_topi (y := 0) (if_neg ht) ?_
          refine Zr_if_ne C 24 dX3_leaveTreeIfDone_20 (by decide) (fun h20 => absurd rfl h20) (fun h20 => ?_)
          exact Zr_vret C dX3_leaveTreeIfDone_23 (Nat.zero_le _) (Nat.zero_le _) ⟨rfl, by rw [hl], ⟨_, rfl⟩, by rw [hl]; exact hR⟩
set_option maxHeartbeats 1000000 in
set_option maxRecDepth 100000 in
theorem k_X3_takeWork {l : Launch} {D : va_G} {K : zKs} {n : Nat} {ad : zAd} {ca : Nat → Nat} {S : zSt} {σ : aS} (hB : aB n σ) (hR : cRel n σ S) {i j F : Nat} (hi : i < n) (hj : j < n) (hij : i ≠ j) (hlen : (σ.2.1 (10 * j + i)).length < 640) (hroot : j = 0 → aTree (aN (aN (aN σ 1 8 j 1) 1 12 j 1) 1 11 j (σ.1 1 11 j - 1)) 0 = true) (hF : aLam (aWork σ i j) ≤ F) : zMet l yX3_takeWork cX3_takeWork 4 none { frames := 4, cells := (F - aLam σ), slots := (2 * (F - aLam σ)), locals := 89 } D K (cIL n) (cSh K n (cpo n σ.2.2)) (zA ad ca) S [.ref (zA ad ca (0, 0)), .int (nI i), .int (nI j), .ref (zA ad ca (4, j))] (cP K n ad none (aWork σ i j)) := by
  refine zEnter (own := RX3) (lv0 := [some (.ref (zA ad ca (0, 0))), some (.int (nI i)), some (.int (nI j)), some (.ref (zA ad ca (4, j)))]) (by decide) rfl (by simp [Value.category]) (Nat.le_of_ble_eq_true rfl) rfl ?_
  intro p e s m below meth c A C _ hnm
  have hn := hB.2.2.1
  have hB2 : aB n (aN (aN (aN σ 1 8 j 1) 1 12 j 1) 1 11 j (σ.1 1 11 j - 1)) := ((hB.a (fun _ => Or.inr rfl)).a (fun _ => Or.inr rfl)).a (fun h => by omega)
  by_cases ht : aTree (aN (aN (aN σ 1 8 j 1) 1 12 j 1) 1 11 j (σ.1 1 11 j - 1)) j = true
  · have ew : aWork σ i j = aPush (aN (aN (aN σ 1 8 j 1) 1 12 j 1) 1 11 j (σ.1 1 11 j - 1)) (10 * j + i) (2, -1, -1) := if_pos ht
    have hF2 : aLam (aPush (aN (aN (aN σ 1 8 j 1) 1 12 j 1) 1 11 j (σ.1 1 11 j - 1)) (10 * j + i) (2, -1, -1)) ≤ F := by rw [← ew]; exact hF
    rcases Nat.eq_zero_or_pos j with h0 | hz
    · refine Zr_aload_n C dX3_takeWork_0 rfl ?_
      refine Zr_iconst C (1) dX3_takeWork_1 rfl ?_
      refine Zr_putE C pf_X3_49 (cm4 hj) rfl rfl rfl (znZ (by first | exact Or.inl rfl | exact Or.inr rfl | assumption)) (cRw1 hR) dX3_takeWork_2 (fun S hR => ?_)
      refine Zr_aload_n C dX3_takeWork_5 rfl ?_
      refine Zr_dup C dX3_takeWork_6 rfl ?_
      refine Zr_getE C gf_X3_78 (cm4 hj) rfl rfl rfl (hR.w hj).2.2.2.2.1 dX3_takeWork_7 ?_
      refine Zr_iconst C (1) dX3_takeWork_10 rfl ?_
      refine Zr_isub C dX3_takeWork_11 ?_
      refine Zr_putE C pf_X3_78 (cm4 hj) rfl rfl rfl (znI _) (cRw5 hR) dX3_takeWork_12 (fun S hR => ?_)
      refine Zr_aload_n C dX3_takeWork_15 rfl ?_
      refine Zr_iconst C (1) dX3_takeWork_16 rfl ?_
      refine Zr_putE C pf_X3_150 (cm4 hj) rfl rfl rfl (znZ (by first | exact Or.inl rfl | exact Or.inr rfl | assumption)) (cRw2 hR) dX3_takeWork_17 (fun S hR => ?_)
      have hR : cRel n (aN (aN (aN σ 1 8 j 1) 1 12 j 1) 1 11 j (σ.1 1 11 j - 1)) S := by have h := hR; rw [aN_sw] at h; exact h
      refine Zr_iload_n C dX3_takeWork_20 rfl ?_
      refine Zr_if_eq C 33 dX3_takeWork_21 (by decide) (fun h21 => ?_) (fun h21 => absurd (by rw [h0]; rfl) h21)
      refine Zr_aload_n C dX3_takeWork_33 rfl ?_
      refine Zr_iload_n C dX3_takeWork_34 rfl ?_
      refine Zr_iload_n C dX3_takeWork_35 rfl ?_
      refine Zr_iconst C (2) dX3_takeWork_36 rfl ?_
      refine Zr_topi (y := cPack (2, -1, -1)) (by decide) ?_
      refine Zr_callVCv C cw_X3_117 (k_X3_put hB2 hR hj hi (fun h => hij h.symm) wm2 hF2 hlen) cm0 rfl rfl rfl (Nat.le_of_ble_eq_true rfl) (Nat.le_of_ble_eq_true rfl) rfl (Nat.le_of_ble_eq_true rfl) dX3_takeWork_37 ⟨by show 0 + (F - aLam σ) ≤ F - aLam σ; omega, by show 0 + 2 * (F - aLam σ) ≤ 2 * (F - aLam σ); omega⟩ (fun ca S hR => ?_)
      refine Zr_goto C 48 dX3_takeWork_40 (by decide) ?_
      exact Zr_vret C dX3_takeWork_48 (by show 0 + (F - aLam σ) ≤ F - aLam σ; omega) (by show 0 + 2 * (F - aLam σ) ≤ 2 * (F - aLam σ); omega) ⟨rfl, by rw [ew], ⟨_, rfl⟩, by rw [ew]; exact hR⟩
    · refine Zr_aload_n C dX3_takeWork_0 rfl ?_
      refine Zr_iconst C (1) dX3_takeWork_1 rfl ?_
      refine Zr_putE C pf_X3_49 (cm4 hj) rfl rfl rfl (znZ (by first | exact Or.inl rfl | exact Or.inr rfl | assumption)) (cRw1 hR) dX3_takeWork_2 (fun S hR => ?_)
      refine Zr_aload_n C dX3_takeWork_5 rfl ?_
      refine Zr_dup C dX3_takeWork_6 rfl ?_
      refine Zr_getE C gf_X3_78 (cm4 hj) rfl rfl rfl (hR.w hj).2.2.2.2.1 dX3_takeWork_7 ?_
      refine Zr_iconst C (1) dX3_takeWork_10 rfl ?_
      refine Zr_isub C dX3_takeWork_11 ?_
      refine Zr_putE C pf_X3_78 (cm4 hj) rfl rfl rfl (znI _) (cRw5 hR) dX3_takeWork_12 (fun S hR => ?_)
      refine Zr_aload_n C dX3_takeWork_15 rfl ?_
      refine Zr_iconst C (1) dX3_takeWork_16 rfl ?_
      refine Zr_putE C pf_X3_150 (cm4 hj) rfl rfl rfl (znZ (by first | exact Or.inl rfl | exact Or.inr rfl | assumption)) (cRw2 hR) dX3_takeWork_17 (fun S hR => ?_)
      have hR : cRel n (aN (aN (aN σ 1 8 j 1) 1 12 j 1) 1 11 j (σ.1 1 11 j - 1)) S := by have h := hR; rw [aN_sw] at h; exact h
      refine Zr_iload_n C dX3_takeWork_20 rfl ?_
      refine Zr_if_eq C 33 dX3_takeWork_21 (by decide) (fun h21 => absurd h21 (nI_ne0 hz (by omega))) (fun h21 => ?_)
      refine Zr_aload_n C dX3_takeWork_24 rfl ?_
      refine Zr_iload_n C dX3_takeWork_25 rfl ?_
      refine Zr_aload_n C dX3_takeWork_26 rfl ?_
      refine Zr_callV C cw_X3_185 (k_X3_isInTree hB2 hR hj) cm0 rfl rfl rfl (Nat.le_of_ble_eq_true rfl) (Nat.le_of_ble_eq_true rfl) rfl (Nat.le_of_ble_eq_true rfl) dX3_takeWork_27 ⟨Nat.zero_le _, Nat.zero_le _⟩ ?_
      refine Zr_topi (y := 1) (if_pos ht) ?_
      refine Zr_if_eq C 43 dX3_takeWork_30 (by decide) (fun h30 => absurd h30 (by decide)) (fun h30 => ?_)
      refine Zr_aload_n C dX3_takeWork_33 rfl ?_
      refine Zr_iload_n C dX3_takeWork_34 rfl ?_
      refine Zr_iload_n C dX3_takeWork_35 rfl ?_
      refine Zr_iconst C (2) dX3_takeWork_36 rfl ?_
      refine Zr_topi (y := cPack (2, -1, -1)) (by decide) ?_
      refine Zr_callVCv C cw_X3_117 (k_X3_put hB2 hR hj hi (fun h => hij h.symm) wm2 hF2 hlen) cm0 rfl rfl rfl (Nat.le_of_ble_eq_true rfl) (Nat.le_of_ble_eq_true rfl) rfl (Nat.le_of_ble_eq_true rfl) dX3_takeWork_37 ⟨by show 0 + (F - aLam σ) ≤ F - aLam σ; omega, by show 0 + 2 * (F - aLam σ) ≤ 2 * (F - aLam σ); omega⟩ (fun ca S hR => ?_)
      refine Zr_goto C 48 dX3_takeWork_40 (by decide) ?_
      exact Zr_vret C dX3_takeWork_48 (by show 0 + (F - aLam σ) ≤ F - aLam σ; omega) (by show 0 + 2 * (F - aLam σ) ≤ 2 * (F - aLam σ); omega) ⟨rfl, by rw [ew], ⟨_, rfl⟩, by rw [ew]; exact hR⟩
  · have ew : aWork σ i j = aN (aN (aN (aN σ 1 8 j 1) 1 12 j 1) 1 11 j (σ.1 1 11 j - 1)) 1 9 j (nI i) := if_neg ht
    have hz : 0 < j := by
      rcases Nat.eq_zero_or_pos j with h0 | hz
      · exact absurd (by have := hroot h0; rw [h0] at this ⊢; exact this) ht
      · exact hz
    refine Zr_aload_n C dX3_takeWork_0 rfl ?_
    refine Zr_iconst C (1) dX3_takeWork_1 rfl ?_
    refine Zr_putE C pf_X3_49 (cm4 hj) rfl rfl rfl (znZ (by first | exact Or.inl rfl | exact Or.inr rfl | assumption)) (cRw1 hR) dX3_takeWork_2 (fun S hR => ?_)
    refine Zr_aload_n C dX3_takeWork_5 rfl ?_
    refine Zr_dup C dX3_takeWork_6 rfl ?_
    refine Zr_getE C gf_X3_78 (cm4 hj) rfl rfl rfl (hR.w hj).2.2.2.2.1 dX3_takeWork_7 ?_
    refine Zr_iconst C (1) dX3_takeWork_10 rfl ?_
    refine Zr_isub C dX3_takeWork_11 ?_
    refine Zr_putE C pf_X3_78 (cm4 hj) rfl rfl rfl (znI _) (cRw5 hR) dX3_takeWork_12 (fun S hR => ?_)
    refine Zr_aload_n C dX3_takeWork_15 rfl ?_
    refine Zr_iconst C (1) dX3_takeWork_16 rfl ?_
    refine Zr_putE C pf_X3_150 (cm4 hj) rfl rfl rfl (znZ (by first | exact Or.inl rfl | exact Or.inr rfl | assumption)) (cRw2 hR) dX3_takeWork_17 (fun S hR => ?_)
    have hR : cRel n (aN (aN (aN σ 1 8 j 1) 1 12 j 1) 1 11 j (σ.1 1 11 j - 1)) S := by have h := hR; rw [aN_sw] at h; exact h
    refine Zr_iload_n C dX3_takeWork_20 rfl ?_
    refine Zr_if_eq C 33 dX3_takeWork_21 (by decide) (fun h21 => absurd h21 (nI_ne0 hz (by omega))) (fun h21 => ?_)
    refine Zr_aload_n C dX3_takeWork_24 rfl ?_
    refine Zr_iload_n C dX3_takeWork_25 rfl ?_
    refine Zr_aload_n C dX3_takeWork_26 rfl ?_
    refine Zr_callV C cw_X3_185 (k_X3_isInTree hB2 hR hj) cm0 rfl rfl rfl (Nat.le_of_ble_eq_true rfl) (Nat.le_of_ble_eq_true rfl) rfl (Nat.le_of_ble_eq_true rfl) dX3_takeWork_27 ⟨Nat.zero_le _, Nat.zero_le _⟩ ?_
    refine Zr_topi (y := 0) (if_neg ht) ?_
    refine Zr_if_eq C 43 dX3_takeWork_30 (by decide) (fun h30 => ?_) (fun h30 => absurd rfl h30)
    refine Zr_aload_n C dX3_takeWork_43 rfl ?_
    refine Zr_iload_n C dX3_takeWork_44 rfl ?_
    refine Zr_putE C pf_X3_189 (cm4 hj) rfl rfl rfl (znI _) (cRw3 hR) dX3_takeWork_45 (fun S hR => ?_)
    exact Zr_vret C dX3_takeWork_48 (Nat.zero_le _) (Nat.zero_le _) ⟨rfl, by rw [ew]; rfl, ⟨_, rfl⟩, by rw [ew]; exact hR⟩
set_option maxHeartbeats 1000000 in
set_option maxRecDepth 100000 in
theorem k_X3_giveToken {l : Launch} {D : va_G} {K : zKs} {n : Nat} {ad : zAd} {ca : Nat → Nat} {S : zSt} {σ : aS} (hB : aB n σ) (hR : cRel n σ S) {i j F : Nat} (hi : i < n) (hj : j < n) (hij : i ≠ j) (hh : S 3 0 0 = nI i) (hlen : (σ.2.1 (10 * i + j)).length < 640) (hF : aLam (aPush (aN σ 1 13 i 0) (10 * i + j) (3, -1, -1)) ≤ F) : zMet l yX3_giveToken cX3_giveToken 3 none { frames := 4, cells := (F - aLam σ), slots := (2 * (F - aLam σ)), locals := 89 } D K (cIL n) (cSh K n (cpo n σ.2.2)) (zA ad ca) S [.ref (zA ad ca (0, 0)), .int (nI i), .int (nI j)] (cP K n ad none (aPush (aN σ 1 13 i 0) (10 * i + j) (3, -1, -1))) := by
  refine zEnter (own := RX3) (lv0 := [some (.ref (zA ad ca (0, 0))), some (.int (nI i)), some (.int (nI j))]) (by decide) rfl (by simp [Value.category]) (Nat.le_of_ble_eq_true rfl) rfl ?_
  intro p e s m below meth c A C _ hnm
  have hn := hB.2.2.1
  have hB2 : aB n (aN σ 1 13 i 0) := hB.a (fun _ => Or.inl rfl)
  refine Zr_aload_n C dX3_giveToken_0 rfl ?_
  refine Zr_getR C gf_X3_41 cm0 rfl rfl rfl (by simp) dX3_giveToken_1 ?_
  refine Zr_iconst C (-1) dX3_giveToken_4 rfl ?_
  refine Zr_putE C pf_X3_126 cm3 rfl rfl rfl (znI _) (cRh0 hR hn hi hh) dX3_giveToken_5 (fun S hR => ?_)
  refine Zr_aload_n C dX3_giveToken_8 rfl ?_
  refine Zr_iload_n C dX3_giveToken_9 rfl ?_
  refine Zr_iload_n C dX3_giveToken_10 rfl ?_
  refine Zr_iconst C (3) dX3_giveToken_11 rfl ?_
  refine Zr_topi (y := cPack (3, -1, -1)) (by decide) ?_
  refine Zr_callVCv C cw_X3_117 (k_X3_put hB2 hR hi hj hij wm3 hF hlen) cm0 rfl rfl rfl (Nat.le_of_ble_eq_true rfl) (Nat.le_of_ble_eq_true rfl) rfl (Nat.le_of_ble_eq_true rfl) dX3_giveToken_12 ⟨by show 0 + (F - aLam σ) ≤ F - aLam σ; omega, by show 0 + 2 * (F - aLam σ) ≤ 2 * (F - aLam σ); omega⟩ (fun ca S hR => ?_)
  exact Zr_vret C dX3_giveToken_15 (by show 0 + (F - aLam σ) ≤ F - aLam σ; omega) (by show 0 + 2 * (F - aLam σ) ≤ 2 * (F - aLam σ); omega) ⟨rfl, rfl, ⟨_, rfl⟩, hR⟩
