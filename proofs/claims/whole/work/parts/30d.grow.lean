set_option maxRecDepth 20000 in
theorem pf_X0_11r : zPutR RX0 11 0 0 false := zPutR.of (f := 0) (ref := "QuietWatch$Row") (T := TX0) (N := 4) (tys := tyX0) (ty := .array .int) rfl (by decide) inG0 tyX0_ok nmX0 (zg 115 rfl rfl) rfl rfl rfl (fun v => ⟨rfl, rfl⟩)
set_option maxRecDepth 20000 in
theorem wArrI : Cond.arrayClass .int ∈ zgw := (zg 104 rfl rfl)
set_option maxRecDepth 20000 in
theorem wArrZ : Cond.arrayClass .boolean ∈ zgw := (zg 488 rfl rfl)
theorem cEx8 {K : zKs} {n N : Nat} {cp : Nat → Nat} {ad : zAd} {S : zSt} {i : zI} (h : i ∈ cIL n) (q : Nat) : zpic (fun i => if i = (8, 0) then .inr (K.1, N, none) else cSh K n cp i) (fun i => if i = (8, 0) then q else ad i) (fun x y => if (x, y) = (8, 0) then fun _ => 0 else S x y) i = zpic (cSh K n cp) ad S i := by
  obtain ⟨a, b⟩ := i
  have h7 := (c8 h).1
  dsimp only at h7
  rcases (show a = 0 ∨ a = 1 ∨ a = 2 ∨ a = 3 ∨ a = 4 ∨ a = 5 ∨ a = 6 ∨ a = 7 by omega) with rfl | rfl | rfl | rfl | rfl | rfl | rfl | rfl <;> simp [zpic, cSh, zfl]
  · funext k
    split <;> simp
theorem ring_grow {f g f2 g2 : Nat → Int32} {cap : Nat} {l : List aM} (h : cRing f g cap l) (hc : cap ≤ 640) (e1 : f2 1 = 0) (e2 : f2 2 = f 2) (e3 : f2 3 = f 3) (hg : ∀ (k : Nat) (m : aM), l[k]? = some m → g2 k = cPack m) : cRing f2 g2 (2 * cap) l := by
  obtain ⟨b, h1, h2, h3, h4, h5, h6, h7, h8⟩ := h
  refine ⟨0, by omega, by omega, by omega, e1, by rw [e2]; exact h5, by omega, by rw [e3]; exact h7, fun k m hk => ?_⟩
  have hkl := (List.getElem?_eq_some_iff.mp hk).1
  rw [cAt_0 (by omega)]
  exact hg k m hk
set_option maxHeartbeats 1000000 in
set_option maxRecDepth 100000 in
theorem k_X0_grow {l : Launch} {D : va_G} {K : zKs} {n : Nat} {ad : zAd} {ca : Nat → Nat} {S : zSt} {σ : aS} {r : Nat} (hn : n ≤ 10) (hR : cRel n σ S) (hr : cRow n r) {F : Nat} (hF : aLam (aG σ (cix n r)) ≤ F) (hcap : σ.2.2 (cix n r) ≤ 640) : zMet l yX0_grow cX0_grow 3 none { frames := 1, cells := (F - aLam σ), slots := (2 * (F - aLam σ)), locals := 22 } D K (cIL n) (cSh K n (cpo n σ.2.2)) (zA ad ca) S [.ref (zA ad ca (6, r))] (cP K n ad none (aG σ (cix n r))) := by
  refine zEnter (own := RX0) (lv0 := [some (.ref (zA ad ca (6, r))), none, none]) (by decide) rfl (by simp [Value.category]) (Nat.le_of_ble_eq_true rfl) rfl ?_
  intro p e s m below meth c A C _ hnm
  obtain ⟨b, h1, h2, h3, e1, e2, h4, e3, hg⟩ := hR.r hr
  have hF2 : aLam (aG σ (cix n r)) = aLam σ + (σ.2.2 (cix n r)) := aLam_G (cix_lt hn hr)
  have hcl : (σ.2.2 (cix n r)) < 2 ^ 31 := by omega
  have fin : ∀ (q : Nat) (S8 : zSt), (∀ x y, (x, y) ≠ (8, 0) → S8 x y = S x y) → (∀ (k : Nat) (mm : aM), (σ.2.1 (cix n r))[k]? = some mm → S8 8 0 k = cPack mm) → Z p l e ({ frames := 1, cells := (F - aLam σ), slots := (2 * (F - aLam σ)), locals := 22 } : Room) s m ([.ref (zA ad ca (6, r))] : List Value).toArray below meth c D A 3 (MQ below (zQ (cP K n ad none (aG σ (cix n r))) (cIL n) D A) ([.ref (zA ad ca (6, r))] : List Value).toArray s (F - aLam σ) (2 * (F - aLam σ)) A) (cIL n ++ [(8, 0)]) 1 (2 * (σ.2.2 (cix n r))) (fun i : zI => if i = (8, 0) then (.inr (K.1, 2 * σ.2.2 (cix n r), none) : (Nat × List (Option zI)) ⊕ (ClassId × Nat × Option (Nat → Option zI))) else cSh K n (cpo n σ.2.2) i) (fun i : zI => if i = (8, 0) then q else zA ad ca i) S8 (39) ([some (.ref (zA ad ca (6, r))), some (.ref q), none]) ([]) := by
    intro q S8 hS8 hc8
    refine Zr_aload_n C dX0_grow_39 rfl ?_
    refine Zr_aload_n C dX0_grow_40 rfl ?_
    refine Zr_putR C (8, 0) pf_X0_11r (fun h => by cases h) (List.mem_append_left _ (cm6 hr)) rfl rfl (by simp) rfl (Nat.zero_lt_succ _) dX0_grow_41 ?_
    refine Zr_re (IL' := cIL n) (sh' := cSh K n (cpo n (aG σ (cix n r)).2.2)) (ad' := zA ad (fun x => if x = r then q else ca x)) (S' := fun x y => if (x, y) = (7, r) then S8 8 0 else S x y) (cIL_nodup n) (fun i => if i = (7, r) then (8, 0) else i) (fun i hi => ?_) (fun i hi j hj hij => ?_) (fun i hi => ?_) (fun i hi => ?_) ?_
    · by_cases h : i = (7, r)
      · simp [h]
      · simp [h, hi]
    · have h8 : ∀ i, i ∈ cIL n → i ≠ (8, 0) := fun i hi h => by have := (c8 hi).1; rw [h] at this; omega
      by_cases h : i = (7, r) <;> by_cases h' : j = (7, r)
      · rw [h, h']
      · simp [h, h'] at hij; exact absurd hij.symm (h8 j hj)
      · simp [h, h'] at hij; exact absurd hij (h8 i hi)
      · simpa [h, h'] using hij
    · obtain ⟨x, y⟩ := i
      have h8 : (x, y) ≠ (8, 0) := fun h => by have := (c8 hi).1; rw [h] at this; omega
      by_cases h : (x, y) = (7, r)
      · cases h; simp [zA]
      · simp only [h, h8, if_false]
        by_cases hx : x = 7
        · have hyr : ¬ y = r := fun hy => h (by rw [hx, hy])
          simp [zA, hx, hyr]
        · simp [zA, hx]
    · obtain ⟨x, y⟩ := i
      have h7 := (c8 hi).1
      dsimp only at h7
      have hxy : S8 x y = S x y := hS8 x y (fun h => by cases h; omega)
      rcases (show x = 0 ∨ x = 1 ∨ x = 2 ∨ x = 3 ∨ x = 4 ∨ x = 5 ∨ x = 6 ∨ x = 7 by omega) with rfl | rfl | rfl | rfl | rfl | rfl | rfl | rfl
      · simp [zpic, cSh, zfl, zA, hxy]
      · simp [zpic, cSh, zA]
      · simp only [zpic, cSh, zA]
        simp
        funext k
        split <;> simp [zA]
      · simp [zpic, cSh, zfl, hxy]
      · simp [zpic, cSh, zfl, zA, hxy]
      · simp [zpic, cSh, hxy]
      · by_cases hy : y = r
        · subst hy; simp [zpic, cSh, zfl, zA, hxy]
        · simp [zpic, cSh, zfl, zA, hy, hxy]
      · by_cases hy : y = r
        · subst hy; simp [zpic, cSh, cpo, aG]
        · have hne : ¬ cix n y = cix n r := fun hc => hy (cix_inj hn (c67 hi (Or.inr rfl)) hr hc)
          simp [zpic, cSh, cpo, aG, hy, hne, hxy]
    have hrel : cRel n (aG σ (cix n r)) (z3 (fun x y => if (x, y) = (7, r) then S8 8 0 else S x y) 6 r 1 0) := by
      have := cR_row (c' := 2 * (σ.2.2 (cix n r))) (l' := σ.2.1 (cix n r)) (S' := z3 (fun x y => if (x, y) = (7, r) then S8 8 0 else S x y) 6 r 1 0) hn hR hr (fun x y hx hy => by
        funext z
        have hne : ¬ ((x, y) = (7, r)) := fun h => hy (Prod.mk.inj h)
        simp only [z3]
        rw [if_neg (fun h => hx ⟨h.1, h.2.1⟩), if_neg hne]) (ring_grow (hR.r hr) hcap (by simp [z3]) (by simp [z3]) (by simp [z3]) (fun k mm hk => by simp [z3]; exact hc8 k mm hk))
      have e : aG σ (cix n r) = (σ.1, (fun x => if x = cix n r then σ.2.1 (cix n r) else σ.2.1 x), fun x => if x = cix n r then 2 * (σ.2.2 (cix n r)) else σ.2.2 x) := by
        simp only [aG, Prod.mk.injEq, true_and, and_true]
        funext x
        split
        · rename_i h; rw [h]
        · rfl
      rw [e]
      exact this
    refine Zr_aload_n C dX0_grow_44 rfl ?_
    refine Zr_iconst C (0) dX0_grow_45 rfl ?_
    refine Zr_put C pf_X0_36 (cm6 hr) rfl rfl rfl (znI _) dX0_grow_46 ?_
    exact Zr_vret C dX0_grow_49 (by omega) (by omega) ⟨rfl, rfl, ⟨_, rfl⟩, hrel⟩
  have key : ∀ (q d k : Nat) (S8 : zSt), k + d = (σ.2.1 (cix n r)).length → (∀ x y, (x, y) ≠ (8, 0) → S8 x y = S x y) → (∀ (j : Nat) (mm : aM), j < k → (σ.2.1 (cix n r))[j]? = some mm → S8 8 0 j = cPack mm) → Z p l e ({ frames := 1, cells := (F - aLam σ), slots := (2 * (F - aLam σ)), locals := 22 } : Room) s m ([.ref (zA ad ca (6, r))] : List Value).toArray below meth c D A 3 (MQ below (zQ (cP K n ad none (aG σ (cix n r))) (cIL n) D A) ([.ref (zA ad ca (6, r))] : List Value).toArray s (F - aLam σ) (2 * (F - aLam σ)) A) (cIL n ++ [(8, 0)]) 1 (2 * (σ.2.2 (cix n r))) (fun i : zI => if i = (8, 0) then (.inr (K.1, 2 * σ.2.2 (cix n r), none) : (Nat × List (Option zI)) ⊕ (ClassId × Nat × Option (Nat → Option zI))) else cSh K n (cpo n σ.2.2) i) (fun i : zI => if i = (8, 0) then q else zA ad ca i) S8 (12) ([some (.ref (zA ad ca (6, r))), some (.ref q), some (.int (nI k))]) ([]) := by
    intro q d
    induction d with
    | zero =>
      intro k S8 hk hS8 hc8
      have hS6 : S8 6 r = S 6 r := hS8 6 r (by simp)
      refine Zr_iload_n C dX0_grow_12 rfl ?_
      refine Zr_aload_n C dX0_grow_13 rfl ?_
      refine Zr_getE C gf_X0_19 (List.mem_append_left _ (cm6 hr)) rfl rfl rfl ((congrFun hS6 2).trans e2) dX0_grow_14 ?_
      refine Zr_icmp_ge C 39 dX0_grow_17 (by decide) (fun h17 => ?_) (fun h17 => absurd (nI_le (show (σ.2.1 (cix n r)).length ≤ k by omega) (by omega)) h17)
      exact Zr_forget 2 (fin q S8 hS8 (fun j mm hj => hc8 j mm (by have := (List.getElem?_eq_some_iff.mp hj).1; omega) hj))
    | succ d ih =>
      intro k S8 hk hS8 hc8
      have hS6 : S8 6 r = S 6 r := hS8 6 r (by simp)
      have hS7 : S8 7 r = S 7 r := hS8 7 r (by simp)
      obtain ⟨mm, hmm⟩ : ∃ mm, (σ.2.1 (cix n r))[k]? = some mm := ⟨_, List.getElem?_eq_getElem (by omega)⟩
      have hct := cAt_lt h1 (show k ≤ (σ.2.2 (cix n r)) by omega)
      refine Zr_iload_n C dX0_grow_12 rfl ?_
      refine Zr_aload_n C dX0_grow_13 rfl ?_
      refine Zr_getE C gf_X0_19 (List.mem_append_left _ (cm6 hr)) rfl rfl rfl ((congrFun hS6 2).trans e2) dX0_grow_14 ?_
      refine Zr_icmp_ge C 39 dX0_grow_17 (by decide) (fun h17 => absurd h17 (nI_ge (show k < (σ.2.1 (cix n r)).length by omega) (by omega))) (fun h17 => ?_)
      refine Zr_aload_n C dX0_grow_20 rfl ?_
      refine Zr_iload_n C dX0_grow_21 rfl ?_
      refine Zr_aload_n C dX0_grow_22 rfl ?_
      refine Zr_getR C gf_X0_11 (List.mem_append_left _ (cm6 hr)) rfl rfl rfl (by simp) dX0_grow_23 ?_
      refine Zr_aload_n C dX0_grow_26 rfl ?_
      refine Zr_iload_n C dX0_grow_27 rfl ?_
      refine Zr_callV C cw_X0_15 (k_X0_placeOf (b := b) (k := k) (List.mem_append_left _ (cm6 hr)) rfl (List.mem_append_left _ (cm7 hr)) rfl ((congrFun hS6 1).trans e1) h1 (by show (σ.2.2 (cix n r)) ≤ _; omega) (by omega)) (List.mem_append_left _ (cm6 hr)) rfl rfl rfl (Nat.le_of_ble_eq_true rfl) (Nat.le_of_ble_eq_true rfl) rfl (Nat.le_of_ble_eq_true rfl) dX0_grow_28 ⟨by show 1 ≤ F - aLam σ; omega, by show 2 * (σ.2.2 (cix n r)) ≤ 2 * (F - aLam σ); omega⟩ ?_
      refine Zr_ialdN C (List.mem_append_left _ (cm7 hr)) rfl rfl hct (by show σ.2.2 (cix n r) < 2 ^ 31; omega) ((congrFun hS7 _).trans (hg k mm hmm)) dX0_grow_31 ?_
      refine Zr_iastN (Rel := fun X => X = _) C (List.mem_append_right _ (List.mem_singleton.mpr rfl)) rfl rfl (show k < 2 * (σ.2.2 (cix n r)) by omega) (by show 2 * σ.2.2 (cix n r) < 2 ^ 31; omega) rfl dX0_grow_32 (fun S1 hS1 => ?_)
      subst hS1
      refine Zr_iincE C (1) (nI (k + 1)) dX0_grow_33 (by decide) rfl rfl (nI_1 _) ?_
      refine Zr_goto C 12 dX0_grow_36 (by decide) ?_
      exact ih (k + 1) _ (by omega) (fun x y hxy => by funext z; simp only [z3]; rw [if_neg (fun h => hxy (by rw [h.1, h.2.1])), hS8 x y hxy]) (fun j m2 hj hm2 => by by_cases hjk : j = k; (subst hjk; rw [hmm] at hm2; cases hm2; simp [z3]); simpa [z3, hjk] using hc8 j m2 (by omega) hm2)
  refine Zr_aload_n C dX0_grow_0 rfl ?_
  refine Zr_getR C gf_X0_11 (cm6 hr) rfl rfl rfl (by simp) dX0_grow_1 ?_
  refine Zr_alen C 0 (cm7 hr) rfl rfl rfl dX0_grow_4 ?_
  refine Zr_iconst C (2) dX0_grow_5 rfl ?_
  refine Zr_imul C dX0_grow_6 ?_
  refine Zr_topi (y := nI (2 * (σ.2.2 (cix n r)))) (by show nI (σ.2.2 (cix n r)) * nI 2 = _; rw [pk_mul, Nat.mul_comm]) ?_
  refine Zr_newa C (at' := .int) (ty := .int) (a := 8) (b := 0) (N := 2 * (σ.2.2 (cix n r))) 0 rfl rfl zra_int rfl wArrI (fun h => by have := (c8 h).1; omega) (fun i hi q => cEx8 hi q) (nI_pos (by omega)) (nI_clamp (by omega)) (by show 2 * (σ.2.2 (cix n r)) * 4 ≤ _; omega) (by show 0 + 1 ≤ F - aLam σ; omega) (by show 0 + 2 * (σ.2.2 (cix n r)) ≤ 2 * (F - aLam σ); omega) dX0_grow_7 (fun q => ?_)
  refine Zr_cs (Nat.zero_add _) (Nat.zero_add _) ?_
  refine Zr_astore_n C dX0_grow_9 (by decide) ?_
  refine Zr_iconst C (0) dX0_grow_10 rfl ?_
  refine Zr_istore_n C dX0_grow_11 (by decide) ?_
  exact key q (σ.2.1 (cix n r)).length 0 _ (by omega) (fun x y hxy => by simp only [if_neg hxy]) (fun j mm hj => absurd hj (Nat.not_lt_zero _))
