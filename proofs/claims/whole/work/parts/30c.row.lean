def aWM (n : Nat) (m : aM) : Prop := ((m.1 = 1 ∨ m.1 = 2 ∨ m.1 = 3 ∨ m.1 = 4 ∨ m.1 = 5) ∧ m.2 = (-1, -1)) ∨ (m.1 = 6 ∧ ∃ i, i < n ∧ m.2.1 = nI i ∧ ∃ k, k < 51 ∧ m.2.2 = nI k)
theorem cPk : ∀ i, i < 10 → ∀ k, k < 51 → (cPack (6, nI i, nI k) &&& 7 = 6 ∧ cPack (6, nI i, nI k) >>> ((3 : Int32) &&& 31) &&& 15 = nI i ∧ cPack (6, nI i, nI k) >>> ((7 : Int32) &&& 31) = nI k) := by decide +kernel
theorem cPack_kind {n : Nat} {m : aM} (hn : n ≤ 10) (h : aWM n m) : cPack m &&& 7 = m.1 := by
  rcases h with ⟨h, -⟩ | ⟨h, i, hi, h1, k, hk, h2⟩
  · rcases h with h | h | h | h | h <;> (simp only [cPack, h]; rw [if_neg (by decide)]; decide)
  · have e : m = (6, nI i, nI k) := Prod.ext h (Prod.ext h1 h2)
    rw [e]
    exact (cPk i (by omega) k hk).1
theorem cAt_inj {b cap k j : Nat} (hb : b < cap) (hk : k < cap) (hj : j < cap) (h : cAt b cap k = cAt b cap j) : k = j := by
  unfold cAt at h
  split at h <;> split at h <;> omega
theorem cAt_1 {b cap k : Nat} (hb : b < cap) (hk : k + 1 ≤ cap) (hc : 1 < cap) : cAt (cAt b cap 1) cap k = cAt b cap (k + 1) := by
  unfold cAt
  split <;> split <;> split <;> omega
theorem cAt_0 {cap k : Nat} (hk : k < cap) : cAt 0 cap k = k := by
  unfold cAt
  rw [if_pos (by omega)]
  omega
theorem aOf_app {k : Int32} {l : List aM} {m : aM} : aOf k (l ++ [m]) = aOf k l + (if m.1 = k then 1 else 0) := by
  simp [aOf, List.countP_append, List.countP_cons]
theorem aOf_cons {k : Int32} {l : List aM} {m : aM} : aOf k (m :: l) = aOf k l + (if m.1 = k then 1 else 0) := by
  simp [aOf, List.countP_cons]
theorem ring_put {g f2 g2 : Nat → Int32} {cap b : Nat} {l : List aM} {m : aM} (h1 : b < cap) (h2 : 4 ≤ cap) (h3 : cap ≤ 1280) (hl : l.length < cap) (hg : ∀ (k : Nat) (m : aM), l[k]? = some m → g (cAt b cap k) = cPack m) (e1 : f2 1 = nI b) (e2 : f2 2 = nI (l.length + 1)) (e3 : f2 3 = nI (aOf 1 l + (if m.1 = 1 then 1 else 0))) (e4 : g2 = fun x => if x = cAt b cap l.length then cPack m else g x) : cRing f2 g2 cap (l ++ [m]) := by
  refine ⟨b, h1, h2, h3, e1, by rw [e2]; simp, by simp; omega, by rw [e3, aOf_app], fun k mm hk => ?_⟩
  rw [e4]
  dsimp only
  by_cases hkl : k < l.length
  · rw [List.getElem?_append_left hkl] at hk
    rw [if_neg (fun h => by have := cAt_inj h1 (by omega) hl h; omega)]
    exact hg k mm hk
  · rw [List.getElem?_append_right (by omega)] at hk
    have hk0 : k - l.length = 0 := by
      have := (List.getElem?_eq_some_iff.mp hk).1
      simp at this
      omega
    rw [hk0] at hk
    simp at hk
    have hk1 : k = l.length := by omega
    rw [hk1, if_pos rfl, hk]
theorem ring_take {g f2 g2 : Nat → Int32} {cap b : Nat} {l : List aM} {m : aM} (h1 : b < cap) (h2 : 4 ≤ cap) (h3 : cap ≤ 1280) (hl : (m :: l).length ≤ cap) (hg : ∀ (k : Nat) (mm : aM), (m :: l)[k]? = some mm → g (cAt b cap k) = cPack mm) (e1 : f2 1 = nI (cAt b cap 1)) (e2 : f2 2 = nI l.length) (e3 : f2 3 = nI (aOf 1 l)) (e4 : g2 = g) : cRing f2 g2 cap l := by
  simp at hl
  refine ⟨cAt b cap 1, cAt_lt h1 (by omega), h2, h3, e1, e2, by omega, e3, fun k mm hk => ?_⟩
  have hkl := (List.getElem?_eq_some_iff.mp hk).1
  rw [e4, cAt_1 h1 (by omega) (by omega)]
  exact hg (k + 1) mm (by simpa using hk)
theorem cR_row {n : Nat} {τ : aS} {S S' : zSt} {r c' : Nat} {l' : List aM} (hn : n ≤ 10) (h : cRel n τ S) (hr : cRow n r) (he : ∀ a b, ¬ (a = 6 ∧ b = r) → ¬ (a = 7 ∧ b = r) → S' a b = S a b) (hring : cRing (S' 6 r) (S' 7 r) c' l') : cRel n (τ.1, (fun x => if x = cix n r then l' else τ.2.1 x), fun x => if x = cix n r then c' else τ.2.2 x) S' := by
  obtain ⟨h1, h2, h3, h4, h5, h6⟩ := h
  refine ⟨?_, ?_, ?_, fun q hq => ?_, fun q hq i hi => ?_, fun q hq => ?_⟩
  · rw [he 0 0 (by omega) (by omega)]; exact h1
  · rw [he 3 0 (by omega) (by omega)]; exact h2
  · rw [he 3 0 (by omega) (by omega)]; exact h3
  · rw [he 4 q (by omega) (by omega)]; exact h4 q hq
  · rw [he 5 q (by omega) (by omega)]; exact h5 q hq i hi
  · by_cases hqr : q = r
    · subst hqr
      simp only [if_true]
      exact hring
    · have hne : ¬ cix n q = cix n r := fun hc => hqr (cix_inj hn hq hr hc)
      simp only [if_neg hne]
      rw [he 6 q (by omega) (by omega), he 7 q (by omega) (by omega)]
      exact h6 q hq
def aG (σ : aS) (r : Nat) : aS := (σ.1, σ.2.1, fun x => if x = r then 2 * σ.2.2 r else σ.2.2 x)
def aLam (σ : aS) : Nat := aSum σ.2.2 100
theorem aSum_upd {f : Nat → Nat} {r v : Nat} : ∀ {n : Nat}, r < n → aSum (fun x => if x = r then v else f x) n + f r = aSum f n + v
  | 0, h => absurd h (Nat.not_lt_zero _)
  | n + 1, h => by
    simp only [aSum]
    by_cases hr : r = n
    · subst hr
      have e : aSum (fun x => if x = r then v else f x) r = aSum f r := by
        have : ∀ k, k ≤ r → aSum (fun x => if x = r then v else f x) k = aSum f k := by
          intro k
          induction k with
          | zero => intro _; rfl
          | succ k ih => intro hk; simp only [aSum]; rw [ih (by omega), if_neg (by omega)]
        exact this r (Nat.le_refl _)
      rw [e, if_pos rfl]
      omega
    · have ih := aSum_upd (f := f) (r := r) (v := v) (n := n) (by omega)
      rw [if_neg (fun h => hr h.symm)]
      omega
theorem aLam_G {σ : aS} {r : Nat} (hr : r < 100) : aLam (aG σ r) = aLam σ + σ.2.2 r := by
  have := aSum_upd (f := σ.2.2) (v := 2 * σ.2.2 r) hr
  simp only [aLam, aG]
  omega
theorem aLam_push {σ : aS} {r : Nat} {m : aM} (hr : r < 100) : aLam (aPush σ r m) = aLam σ + (if (σ.2.1 r).length = σ.2.2 r then σ.2.2 r else 0) := by
  have := aSum_upd (f := σ.2.2) (v := if (σ.2.1 r).length = σ.2.2 r then 2 * σ.2.2 r else σ.2.2 r) hr
  simp only [aLam, aPush]
  split at this <;> split <;> omega
theorem aLam_push_le {σ : aS} {r : Nat} {m : aM} (hr : r < 100) : aLam σ ≤ aLam (aPush σ r m) := by rw [aLam_push hr]; omega
theorem c8 {n : Nat} {i : zI} (h : i ∈ cIL n) : i.1 ≤ 7 ∧ (i.1 ≤ 3 → i.2 = 0) := by
  simp only [cIL, List.mem_append, List.mem_map, List.mem_cons, List.not_mem_nil, or_false] at h
  rcases h with (((h | ⟨a, -, rfl⟩) | ⟨a, -, rfl⟩) | ⟨a, -, rfl⟩) | ⟨a, -, rfl⟩
  · rcases h with rfl | rfl | rfl | rfl <;> simp
  · simp
  · simp
  · simp
  · simp
theorem c67 {n a b : Nat} (h : (a, b) ∈ cIL n) (hab : a = 6 ∨ a = 7) : cRow n b := by
  simp only [cIL, List.mem_append, List.mem_map, List.mem_cons, List.not_mem_nil, or_false, Prod.mk.injEq] at h
  rcases h with (((h | ⟨q, -, h, -⟩) | ⟨q, -, h, -⟩) | ⟨q, hq, h, rfl⟩) | ⟨q, hq, h, rfl⟩
  · omega
  · omega
  · omega
  · exact cRs_mem.mp hq
  · exact cRs_mem.mp hq
theorem nodup_map {α β : Type} {f : α → β} {l : List α} (hf : ∀ a b, f a = f b → a = b) (h : l.Nodup) : (l.map f).Nodup := by
  induction l with
  | nil => simp
  | cons a l ih =>
    rw [List.nodup_cons] at h
    rw [List.map_cons, List.nodup_cons]
    refine ⟨fun hm => ?_, ih h.2⟩
    obtain ⟨b, hb, hab⟩ := List.mem_map.mp hm
    rw [hf b a hab] at hb
    exact h.1 hb
theorem cRs_nodup (n : Nat) : (cRs n).Nodup := List.Pairwise.filter _ List.nodup_range
theorem cIL_nodup (n : Nat) : (cIL n).Nodup := by
  have hm : ∀ (k : Nat) (l : List Nat), l.Nodup → (l.map (fun p => (k, p))).Nodup := fun k l hl => nodup_map (fun a b h => (Prod.mk.inj h).2) hl
  simp only [cIL]
  refine List.nodup_append.mpr ⟨List.nodup_append.mpr ⟨List.nodup_append.mpr ⟨List.nodup_append.mpr ⟨by decide, hm 4 _ List.nodup_range, ?_⟩, hm 5 _ List.nodup_range, ?_⟩, hm 6 _ (cRs_nodup n), ?_⟩, hm 7 _ (cRs_nodup n), ?_⟩
  all_goals
    intro x hx y hy hxy
    subst hxy
    simp only [List.mem_append, List.mem_map, List.mem_cons, List.not_mem_nil, or_false] at hx hy
    obtain ⟨b, -, rfl⟩ := hy
    simp at hx
set_option maxHeartbeats 4000000 in
set_option maxRecDepth 100000 in
theorem k_X0_takeFirst {l : Launch} {D : va_G} {K : zKs} {n : Nat} {ad : zAd} {ca : Nat → Nat} {S : zSt} {σ : aS} {r : Nat} (hn : n ≤ 10) (hR : cRel n σ S) (hr : cRow n r) {m0 : aM} {tl : List aM} (hl : σ.2.1 (cix n r) = m0 :: tl) (hw : aWM n m0) : zMet l yX0_takeFirst cX0_takeFirst 2 (some .int) { frames := 1, cells := 0, slots := 0, locals := 22 } D K (cIL n) (cSh K n (cpo n σ.2.2)) (zA ad ca) S [.ref (zA ad ca (6, r))] (zR (some (.int (cPack m0))) (cSh K n (cpo n σ.2.2)) (zA ad ca) (cRel n (aTail σ (cix n r)))) := by
  refine zEnter (own := RX0) (lv0 := [some (.ref (zA ad ca (6, r))), none]) (by decide) rfl (by simp [Value.category]) (Nat.le_of_ble_eq_true rfl) rfl ?_
  intro p e s m below meth c A C _ hnm
  obtain ⟨b, h1, h2, h3, e1, e2, h4, e3, hg⟩ := hR.r hr
  rw [hl] at e2 h4 e3 hg
  have hg0 := hg 0 m0 rfl
  have hc0 : cAt b (σ.2.2 (cix n r)) 0 = b := by unfold cAt; rw [if_pos (by omega)]; rfl
  rw [hc0] at hg0
  have ek := cPack_kind hn hw
  have fin : ∀ v : Int32, v = nI (aOf 1 tl) → cRel n (aTail σ (cix n r)) (z3 (z3 (z3 S 6 r 1 (nI (cAt b (σ.2.2 (cix n r)) 1))) 6 r 2 (nI tl.length)) 6 r 3 v) := by
    intro v hv
    have := cR_row (c' := σ.2.2 (cix n r)) (l' := tl) (S' := z3 (z3 (z3 S 6 r 1 (nI (cAt b (σ.2.2 (cix n r)) 1))) 6 r 2 (nI tl.length)) 6 r 3 v) hn hR hr (fun x y hx hy => by funext z; simp only [z3]; rw [if_neg (by omega), if_neg (by omega), if_neg (by omega)]) (ring_take h1 h2 h3 h4 hg (by simp [z3]) (by simp [z3]) (by simp [z3, hv]) (by funext z; simp [z3]))
    have e : aTail σ (cix n r) = (σ.1, (fun x => if x = cix n r then tl else σ.2.1 x), fun x => if x = cix n r then σ.2.2 (cix n r) else σ.2.2 x) := by
      simp only [aTail, hl, List.tail_cons, Prod.mk.injEq, true_and]
      funext x
      split
      · rename_i h; rw [h]
      · rfl
    rw [e]
    exact this
  simp only [List.length_cons] at e2 h4
  rw [aOf_cons] at e3
  refine Zr_aload_n C dX0_takeFirst_0 rfl ?_
  refine Zr_getR C gf_X0_11 (cm6 hr) rfl rfl rfl (by simp) dX0_takeFirst_1 ?_
  refine Zr_aload_n C dX0_takeFirst_4 rfl ?_
  refine Zr_getE C gf_X0_36 (cm6 hr) rfl rfl rfl e1 dX0_takeFirst_5 ?_
  refine Zr_ialdN C (cm7 hr) rfl rfl h1 (by show σ.2.2 (cix n r) < _; omega) hg0 dX0_takeFirst_8 ?_
  refine Zr_istore_n C dX0_takeFirst_9 (by decide) ?_
  refine Zr_aload_n C dX0_takeFirst_10 rfl ?_
  refine Zr_aload_n C dX0_takeFirst_11 rfl ?_
  refine Zr_iconst C (1) dX0_takeFirst_12 rfl ?_
  refine Zr_callV C cw_X0_15 (k_X0_placeOf (k := 1) (cm6 hr) rfl (cm7 hr) rfl e1 h1 (by show σ.2.2 (cix n r) ≤ _; omega) (by omega)) (cm6 hr) rfl rfl rfl (Nat.le_of_ble_eq_true rfl) (Nat.le_of_ble_eq_true rfl) rfl (Nat.le_of_ble_eq_true rfl) dX0_takeFirst_13 ⟨Nat.zero_le _, Nat.zero_le _⟩ ?_
  refine Zr_put C pf_X0_36 (cm6 hr) rfl rfl rfl (znI _) dX0_takeFirst_16 ?_
  refine Zr_aload_n C dX0_takeFirst_19 rfl ?_
  refine Zr_dup C dX0_takeFirst_20 rfl ?_
  refine Zr_getE C gf_X0_19 (cm6 hr) rfl rfl rfl (by simp [z3]; exact e2) dX0_takeFirst_21 ?_
  refine Zr_iconst C (1) dX0_takeFirst_24 rfl ?_
  refine Zr_isub C dX0_takeFirst_25 ?_
  refine Zr_topi (y := nI tl.length) (nI_pred _) ?_
  refine Zr_put C pf_X0_19 (cm6 hr) rfl rfl rfl (znI _) dX0_takeFirst_26 ?_
  refine Zr_aload_n C dX0_takeFirst_29 rfl ?_
  refine Zr_dup C dX0_takeFirst_30 rfl ?_
  refine Zr_getE C gf_X0_26 (cm6 hr) rfl rfl rfl (by simp [z3]; exact e3) dX0_takeFirst_31 ?_
  refine Zr_iload_n C dX0_takeFirst_34 rfl ?_
  refine Zr_callS C cw_X0_29 (k_X3_kindOf) rfl (Nat.le_of_ble_eq_true rfl) (Nat.le_of_ble_eq_true rfl) rfl (Nat.le_of_ble_eq_true rfl) dX0_takeFirst_35 ⟨Nat.zero_le _, Nat.zero_le _⟩ ?_
  refine Zr_topi (y := m0.1) ek ?_
  refine Zr_iconst C (1) dX0_takeFirst_38 rfl ?_
  refine Zr_icmp_ne C 46 dX0_takeFirst_39 (by decide) (fun h39 => ?_) (fun h39 => ?_)
  · refine Zr_iconst C (0) dX0_takeFirst_46 rfl ?_
    refine Zr_callS C cw_X0_32 (k_X3_oneIf) rfl (Nat.le_of_ble_eq_true rfl) (Nat.le_of_ble_eq_true rfl) rfl (Nat.le_of_ble_eq_true rfl) dX0_takeFirst_47 ⟨Nat.zero_le _, Nat.zero_le _⟩ ?_
    refine Zr_isub C dX0_takeFirst_50 ?_
    refine Zr_topi (y := nI (aOf 1 tl)) (by first | (rw [if_neg h39]; simp; done) | (rw [if_pos h39]; exact nI_pred _)) ?_
    refine Zr_put C pf_X0_26 (cm6 hr) rfl rfl rfl (znI _) dX0_takeFirst_51 ?_
    refine Zr_iload_n C dX0_takeFirst_54 rfl ?_
    exact Zr_iret C dX0_takeFirst_55 (Nat.zero_le _) (Nat.zero_le _) ⟨rfl, rfl, rfl, fin _ rfl⟩
  · refine Zr_iconst C (1) dX0_takeFirst_42 rfl ?_
    refine Zr_goto C 47 dX0_takeFirst_43 (by decide) ?_
    refine Zr_callS C cw_X0_32 (k_X3_oneIf) rfl (Nat.le_of_ble_eq_true rfl) (Nat.le_of_ble_eq_true rfl) rfl (Nat.le_of_ble_eq_true rfl) dX0_takeFirst_47 ⟨Nat.zero_le _, Nat.zero_le _⟩ ?_
    refine Zr_isub C dX0_takeFirst_50 ?_
    refine Zr_topi (y := nI (aOf 1 tl)) (by first | (rw [if_neg h39]; simp; done) | (rw [if_pos h39]; exact nI_pred _)) ?_
    refine Zr_put C pf_X0_26 (cm6 hr) rfl rfl rfl (znI _) dX0_takeFirst_51 ?_
    refine Zr_iload_n C dX0_takeFirst_54 rfl ?_
    exact Zr_iret C dX0_takeFirst_55 (Nat.zero_le _) (Nat.zero_le _) ⟨rfl, rfl, rfl, fin _ rfl⟩
