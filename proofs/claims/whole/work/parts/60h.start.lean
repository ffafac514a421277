/-! ===== THE LAW FROM ITS ENTRY ===== -/
theorem clamp_n (x : Int32) : ∃ n, 2 ≤ n ∧ n ≤ 10 ∧ (if (if (10 : Int32) < x then 10 else x) < 2 then 2 else (if (10 : Int32) < x then 10 else x)) = nI n := by
  by_cases h1 : (10 : Int32) < x
  · exact ⟨10, by decide, by decide, by rw [if_pos h1, if_neg (by decide)]; rfl⟩
  · by_cases h2 : x < 2
    · exact ⟨2, by decide, by decide, by rw [if_neg h1, if_pos h2]; rfl⟩
    · have e1 := Int32.le_iff_toInt_le.mp (Int32.not_lt.mp h1)
      have e2 := Int32.le_iff_toInt_le.mp (Int32.not_lt.mp h2)
      have e3 : (10 : Int32).toInt = 10 := rfl
      have e4 : (2 : Int32).toInt = 2 := rfl
      rw [e3] at e1
      rw [e4] at e2
      refine ⟨x.toInt.toNat, by omega, by omega, ?_⟩
      rw [if_neg h1, if_neg h2, ← Int32.toInt_inj, nI_toInt (by omega)]
      omega
theorem cSh_no {K : zKs} {n : Nat} {cap : Nat → Nat} {N : zI → Prop} {i : zI} (hN : ∀ j, N j → 20 ≤ j.1) (h : i ∈ cIL n) : zNo N (cSh K n cap i) := by
  obtain ⟨x, y⟩ := i
  have h8 : x < 8 := c_small h
  have hs : ∀ j : zI, j.1 < 20 → ¬ N j := fun j hj h => absurd (hN j h) (by omega)
  rcases (show x = 0 ∨ x = 1 ∨ x = 2 ∨ x = 3 ∨ x = 4 ∨ x = 5 ∨ x = 6 ∨ x = 7 by omega) with rfl | rfl | rfl | rfl | rfl | rfl | rfl | rfl
  · intro j hj
    refine hs j ?_
    simp at hj
    rcases hj with rfl | rfl | rfl <;> decide
  · intro k j hj
    refine hs j ?_
    cases hj
    exact (by decide : 4 < 20)
  · intro k j hj
    refine hs j ?_
    dsimp only at hj
    split at hj
    · cases hj
    · cases hj; exact (by decide : 6 < 20)
  · intro j hj
    simp at hj
  · intro j hj
    refine hs j ?_
    simp at hj
    rw [hj]
    exact (by decide : 5 < 20)
  · trivial
  · intro j hj
    refine hs j ?_
    simp at hj
    rw [hj]
    exact (by decide : 7 < 20)
  · trivial
theorem s0_mr {n k : Nat} (hk : k ∈ mF) : mr0 k = (s0 n).1 1 k := by
  funext j
  by_cases h9 : k = 9
  · subst h9; simp [mr0, s0]
  · by_cases h13 : k = 13
    · subst h13; simp [mr0, s0]
    · simp [mr0, s0, h9, h13]
theorem s0_00 {n : Nat} : (fun k => if k = 0 then nI n else (0 : Int32)) = (s0 n).1 0 0 := by
  funext j
  simp [s0]
theorem rIL_mF {j : zI} (h : j ∈ rIL) : j = (0, 0) ∨ (j.1 = 1 ∧ j.2 ∈ mF) := by
  revert j
  decide
theorem mIL_x {j : zI} (h : j ∈ rIL) : xU j ∈ mIL mF := by
  rcases rIL_mF h with rfl | ⟨h1, h2⟩
  · decide
  · obtain ⟨a, b⟩ := j
    dsimp only at h1 h2
    subst h1
    exact List.mem_cons_of_mem _ (List.mem_map.mpr ⟨b, h2, rfl⟩)
set_option maxHeartbeats 2000000 in
/-- the law, from its entry -/
theorem whole_start {p : Program} {e : Env} {s : State} {m : MethodId} {below : List Frame} {meth : Method} {c : Code} (l : Launch) {b L : Nat} {xs : Nat → Int32} (hL : L ≤ 2561) (C0 : lw_At p s m meth c b L xs) : W p l e room_1 s m #[Value.ref b] below meth c s.heap [] 0 0 (lw_Z below #[Value.ref b] s) (entryFrame m ([Value.ref b] : List Value).toArray 4) := by
  obtain ⟨hx, hb, hr, hml, hown, hts, hX, hbl, hlocks, hgv⟩ := id C0
  have hbA : ¬ (fun q : Nat => s.heap.size ≤ q) b := Nat.not_le.mpr hbl
  obtain ⟨D, K, hK⟩ := lw_zK hts
  have C : zX p s m #[Value.ref b] meth c RL cL_law 4 ret D K (fun q : Nat => s.heap.size ≤ q) := ⟨⟨hx, hb, hml, hown, fun w hw => hts w (List.mem_filter.mp hw).1⟩, hK, fun _ h => h, hr, hlocks⟩
  have hL31 : L < 2 ^ 31 := by omega
  obtain ⟨n, hn2, hn10, hcl⟩ := clamp_n (xV L xs)
  have start : Z p l e room_1 s m #[Value.ref b] below meth c D (fun q : Nat => s.heap.size ≤ q) 4 (lw_Z below #[Value.ref b] s) [] 0 0 (fun _ => .inr (K.1, 0, none)) (fun _ => 0) (fun _ _ _ => 0) 0 [some (.ref b), none, none, none] [] := by
    refine Zr_new C nw_L_7 (0, 0) [(0, 0)] (by simp) (by simp) (fun i hi => by cases hi) (by simp) (by simp) (Nat.le_of_ble_eq_true rfl) (Nat.le_of_ble_eq_true rfl) dL_law_0 (fun sh1 ad1 S1 h1 => ?_)
    refine Zr_dup C dL_law_3 rfl ?_
    refine Zr_aload_n C dL_law_4 rfl ?_
    refine Zr_iconst C (nI 0) dL_law_5 rfl ?_
    refine Zr_cell C (by simp) hX hbl hbA hL31 (Nat.le_of_ble_eq_true rfl) (Nat.le_of_ble_eq_true rfl) (Nat.le_of_ble_eq_true rfl) ⟨Nat.le_of_ble_eq_true rfl, Nat.le_of_ble_eq_true rfl⟩ dL_law_6 ?_
    refine Zr_invI C (st := [.ref (ad1 (0, 0))]) [.int (xV L xs)] ci_L_15 (k_X3_init hn2 hn10 hcl h1.1 h1.2.1) (by simp) (fun i hi => hi) rfl (Nat.le_of_ble_eq_true rfl) (Nat.le_of_ble_eq_true rfl) rfl (Nat.le_of_ble_eq_true rfl) dL_law_9 ⟨Nat.le_of_ble_eq_true rfl, Nat.le_of_ble_eq_true rfl⟩ (cIL n) (fun v sh2 ad2 S2 hp => ?_)
    obtain ⟨rfl, p1, p2, p3, p4, p5, p6⟩ := hp
    refine ⟨⟨cIL_nodup n, fun i hi => Or.inl hi⟩, ?_⟩
    have e00 : ad1 (0, 0) = ad2 (0, 0) := (p6.2 (0, 0) (by simp)).symm
    rw [e00]
    refine Zr_astore_n C dL_law_12 (by decide) ?_
    have h20 : (20, 0) ∉ cIL n := fun h => absurd (c_small h) (by decide)
    refine Zr_new C nw_L_18 (20, 0) ((20, 0) :: cIL n) (by simp) h20 (fun i hi => by rw [p1 i hi]; exact cSh_no (fun j hj => by rw [hj]; decide) hi) (List.nodup_cons.mpr ⟨h20, cIL_nodup n⟩) (fun i hi => List.mem_cons.mp hi) (Nat.le_of_ble_eq_true rfl) (Nat.le_of_ble_eq_true rfl) dL_law_13 (fun sh3 ad3 S3 h3 => ?_)
    refine Zr_dup C dL_law_16 rfl ?_
    refine Zr_aload_n C dL_law_17 rfl ?_
    refine Zr_iconst C (nI 0) dL_law_18 rfl ?_
    refine Zr_cell C (List.nodup_cons.mpr ⟨h20, cIL_nodup n⟩) hX hbl hbA hL31 (Nat.le_of_ble_eq_true rfl) (Nat.le_of_ble_eq_true rfl) (Nat.le_of_ble_eq_true rfl) ⟨Nat.le_of_ble_eq_true rfl, Nat.le_of_ble_eq_true rfl⟩ dL_law_19 ?_
    refine Zr_invI C (st := [.ref (ad3 (20, 0))]) [.int (xV L xs)] ci_L_20 (k_X4_init hcl h3.1 h3.2.1) (by simp) (fun i hi => by rw [List.mem_singleton.mp hi]; exact List.mem_cons_self) rfl (Nat.le_of_ble_eq_true rfl) (Nat.le_of_ble_eq_true rfl) rfl (Nat.le_of_ble_eq_true rfl) dL_law_22 ⟨Nat.le_of_ble_eq_true rfl, Nat.le_of_ble_eq_true rfl⟩ (xIL n) (fun v sh4 ad4 S4 hp => ?_)
    obtain ⟨rfl, q1, q2, q3, q4⟩ := hp
    have keep : ∀ i ∈ cIL n, ¬ (i.1 = 20 ∨ i.1 = 21) ∧ i ≠ (20, 0) := fun i hi => by
      have := c_small hi
      exact ⟨by omega, fun h => by rw [h] at this; exact absurd this (by decide)⟩
    refine ⟨⟨xIL_nodup n, fun i hi => ?_⟩, ?_⟩
    · rcases xIL_mem hi with ⟨h1, h2⟩ | ⟨h1, h2, h3'⟩
      · obtain ⟨k1, k2⟩ := keep i h2
        refine Or.inr ⟨List.mem_cons_of_mem _ h2, by simp [k2], fun h => ?_, q4.2 i (fun h => k1 (Or.inr h)), q4.pic k1 ?_⟩
        · rcases List.mem_cons.mp h with h | h
          · exact k2 h
          · obtain ⟨x, -, hx⟩ := List.mem_map.mp h
            exact k1 (Or.inr (by rw [← hx]))
        · rw [(h3.2.2 i k2).1, p1 i h2]
          exact cSh_no (fun j hj => by rw [hj]; decide) h2
      · rw [← h3']
        exact Or.inl (mIL_x h2)
    have e20 : ad3 (20, 0) = ad4 (20, 0) := (q4.2 (20, 0) (by simp)).symm
    have e00' : ad2 (0, 0) = ad4 (0, 0) := by
      rw [q4.2 (0, 0) (by simp), (h3.2.2 (0, 0) (by simp)).2.1]
    rw [e20]
    refine Zr_astore_n C dL_law_25 (by decide) ?_
    refine Zr_iconst C (nI 1) dL_law_26 rfl ?_
    refine Zr_istore_n C dL_law_27 (by decide) ?_
    have sc : ∀ i ∈ cIL n, sh4 i = cSh K n (fun _ => 4) i ∧ S4 i.1 i.2 = S2 i.1 i.2 := fun i hi => by
      obtain ⟨k1, k2⟩ := keep i hi
      exact ⟨by rw [(q4.1 i k1).1, (h3.2.2 i k2).1, p1 i hi], by rw [(q4.1 i k1).2, (h3.2.2 i k2).2.2]⟩
    have hC : cRel n (s0 n) S4 := by
      refine s0_c hn10 ?_ ?_ (fun q hq => ⟨?_, ?_⟩) (fun r hr => ⟨?_, ?_⟩)
      · exact (sc (0, 0) cm0).2.trans p2
      · exact (sc (3, 0) cm3).2.trans p3
      · exact (sc (4, q) (cm4 hq)).2.trans (p4 q hq).1
      · exact (sc (5, q) (cm5 hq)).2.trans (p4 q hq).2
      · exact (sc (6, r) (cm6 hr)).2.trans (p5 r hr).1
      · exact (sc (7, r) (cm7 hr)).2.trans (p5 r hr).2
    have hzA : zA ad4 (fun r => ad4 (7, r)) = ad4 := by
      funext i
      obtain ⟨x, y⟩ := i
      by_cases h : x = 7
      · subst h; simp [zA]
      · simp [zA, h]
    rw [e00']
    refine Zr_re (IL' := xIL n) (sh' := xSh K n (cpo n (s0 n).2.2)) (ad' := xA (zA ad4 (fun r => ad4 (7, r))) (fun j => ad4 (xU j))) (S' := xS S4 (s0 n).1) (xIL_nodup n) id (fun i hi => hi) (fun _ _ _ _ h => h) (fun i hi => ?_) (fun i hi => ?_) ?_
    · rcases xIL_mem hi with ⟨h1, h2⟩ | ⟨h1, h2, h3'⟩
      · rw [xA_c h2, hzA]
        rfl
      · rw [← h3', xA_r]
        rfl
    · rcases xIL_mem hi with ⟨h1, h2⟩ | ⟨h1, h2, h3'⟩
      · rw [xP_c h2, hzA]
        simp only [zpic, id]
        rw [(sc i h2).1]
        rfl
      · rw [← h3', xP_r h2]
        rcases rIL_mF h2 with h0 | ⟨h0, hk⟩
        · rw [h0]
          show _ = zpic sh4 ad4 S4 (20, 0)
          have em : mds mF = [none, none, none, none, none, none, none, none, some (21, 8), some (21, 9), some (21, 10), some (21, 11), some (21, 12), some (21, 13), some (21, 14), some (21, 15), some (21, 16), some (21, 17), some (21, 18), none, none, none, some (21, 22), some (21, 23), some (21, 24), some (21, 25), some (21, 26)] := by decide
          rw [zpic_objE (q1.trans (by rw [em])) (q3.trans s0_00)]
          simp [zpic, rSh, zfl, xU]
        · generalize xD i = j at h0 hk
          obtain ⟨x, y⟩ := j
          dsimp only at h0 hk
          subst h0
          obtain ⟨cA, N, er⟩ := rSh1 K y
          show _ = zpic sh4 ad4 S4 (21, y)
          rw [zpic_arr er, zpic_arr ((q2 y hk).1.trans er)]
          show _ = Sum.inl (cA, N, Sum.inl (S4 21 y))
          rw [(q2 y hk).2, s0_mr (n := n) hk]
    refine Zr_widen (cells' := 400 + aLam (s0 n)) (slots' := 200000 + 2 * aLam (s0 n)) (Nat.le_trans (Nat.le_of_ble_eq_true rfl : _ ≤ 400) (Nat.le_add_right _ _)) (Nat.le_trans (Nat.le_of_ble_eq_true rfl : _ ≤ 200000) (Nat.le_add_right _ _)) ?_
    exact law_loop hL C0 C (L + 1) 1 (s0 n) _ S4 (s0 n).1 (by omega) (by omega) (s0_I hn2 hn10) hC (s0_r n)
  have hl := lv_entry ([.ref b]) (n := 4) (Nat.le_of_ble_eq_true rfl)
  rw [lg_entry_eq]
  generalize (lg_sl ([.ref b]) ++ List.replicate (4 - (lg_sl ([.ref b])).length) Slot.unset).toArray = ls at hl ⊢
  have hl : lv_has ls 4 [(0, .ref b)] := hl
  have hzl : zl ls 4 [some (.ref b), none, none, none] := ⟨hl, fun q hq => by
    have hq : q ∈ [((0 : Nat), Value.ref b)] := hq
    rw [List.mem_singleton.mp hq]
    rfl⟩
  exact start s.heap [] ls (fun k q h => by simp [zws] at h) ⟨fun i j p q h => by simp [zws] at h, fun k q h => by simp [zws] at h⟩ va_S.rf hzl
