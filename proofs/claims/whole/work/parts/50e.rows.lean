theorem nI_dm : ∀ n, n < 11 → ∀ k, k < 100 → n ≠ 0 → (nI k / nI n = nI (k / n) ∧ nI k - nI k / nI n * nI n = nI (k % n)) := by decide +kernel
theorem nI_sq : ∀ n, n < 11 → nI n * nI n = nI (n * n) := by decide +kernel
def oR (n k : Nat) : List Nat := (List.range k).filter (fun x => decide (x / n ≠ x % n))
theorem oR_mem {n k x : Nat} : x ∈ oR n k ↔ x < k ∧ x / n ≠ x % n := by simp [oR]
theorem oR_nodup (n k : Nat) : (oR n k).Nodup := List.Pairwise.filter _ List.nodup_range
def oIL (n k : Nat) : List zI := (2, 0) :: ((oR n k).map (fun p => (6, p)) ++ (oR n k).map (fun p => (7, p)))
theorem oIL_mem {n k : Nat} {i : zI} : i ∈ oIL n k ↔ i = (2, 0) ∨ (i.1 = 6 ∧ i.2 < k ∧ i.2 / n ≠ i.2 % n) ∨ (i.1 = 7 ∧ i.2 < k ∧ i.2 / n ≠ i.2 % n) := by
  obtain ⟨a, b⟩ := i
  simp only [oIL, List.mem_cons, List.mem_append, List.mem_map, oR_mem, Prod.mk.injEq]
  constructor
  · rintro (h | ⟨x, hx, rfl, rfl⟩ | ⟨x, hx, rfl, rfl⟩)
    · exact Or.inl h
    · exact Or.inr (Or.inl ⟨rfl, hx⟩)
    · exact Or.inr (Or.inr ⟨rfl, hx⟩)
  · rintro (h | ⟨rfl, hx⟩ | ⟨rfl, hx⟩)
    · exact Or.inl h
    · exact Or.inr (Or.inl ⟨b, hx, rfl, rfl⟩)
    · exact Or.inr (Or.inr ⟨b, hx, rfl, rfl⟩)
theorem oIL_nodup (n k : Nat) : (oIL n k).Nodup := by
  refine List.nodup_cons.mpr ⟨by simp, List.nodup_append.mpr ⟨nd_pair 6 (oR_nodup n k), nd_pair 7 (oR_nodup n k), ?_⟩⟩
  intro x hx y hy hxy
  subst hxy
  simp only [List.mem_map] at hx hy
  obtain ⟨a, -, rfl⟩ := hx
  obtain ⟨b, -, h⟩ := hy
  cases h
def kNR (K : zKs) (n k : Nat) (sh : zSh) (ad : zAd) (S : zSt) (sh' : zSh) (ad' : zAd) (S' : zSt) : Prop := (∀ q, q < k → q / n ≠ q % n → sh' (6, q) = .inl (0, [some (7, q), none, none, none]) ∧ sh' (7, q) = .inr (K.1, 4, none) ∧ S' 6 q = (fun _ => 0) ∧ S' 7 q = (fun _ => 0)) ∧ zKp (fun i => i.1 = 2 ∨ i.1 = 6 ∨ i.1 = 7) (fun i => i.1 = 2 ∨ i.1 = 6 ∨ i.1 = 7) sh ad S sh' ad' S'
def kRR (K : zKs) (n : Nat) (sh : zSh) (ad : zAd) (S : zSt) : Option Value → zSh → zAd → zSt → Prop := fun v sh' ad' S' => v = some (.ref (ad' (2, 0))) ∧ sh' (2, 0) = .inr (K.2.2.2, n * n, some (fun r => if r / n = r % n then none else some (6, r))) ∧ kNR K n (n * n) sh ad S sh' ad' S'
abbrev kf6 (n k : Nat) : Nat → Option zI := fun q => if q < k ∧ q / n ≠ q % n then some (6, q) else none
set_option maxHeartbeats 2000000 in
theorem k_X3_newRows {l : Launch} {D : va_G} {K : zKs} {n : Nat} {sh : zSh} {ad : zAd} {S : zSt} (hn2 : 2 ≤ n) (hn : n ≤ 10) : zMetG l yX3_newRows cX3_newRows 4 (some (.array (.object "QuietWatch$Row"))) { frames := 2, cells := 1 + 2 * (n * n), slots := n * n + 8 * (n * n), locals := 45 } D K [] sh ad S [.int (nI n)] (oIL n (n * n)) (kRR K n sh ad S) := by
  refine zEnterG (own := RX3) (lv0 := [some (.int (nI n)), none, none, none]) (by decide) rfl (by simp [Value.category]) (Nat.le_of_ble_eq_true rfl) rfl ?_
  intro p e s m below meth c A C _ hnm
  have hnn : n * n ≤ 100 := Nat.mul_le_mul hn hn
  have hn0 : ¬ nI n = 0 := fun h => by have := (nI_eq (a := n) (b := 0) (by omega) (by omega)).mp h; omega
  have loop : ∀ (d k q0 : Nat) (sh' : zSh) (ad' : zAd) (S' : zSt), k + d = n * n → ad' (2, 0) = q0 → sh' (2, 0) = .inr (K.2.2.2, n * n, some (kf6 n k)) → kNR K n k sh ad S sh' ad' S' → Z p l e { frames := 2, cells := 1 + 2 * (n * n), slots := n * n + 8 * (n * n), locals := 45 } s m ([.int (nI n)] : List Value).toArray below meth c D A 4 (MQ below (zQ (kRR K n sh ad S) (oIL n (n * n)) D A) ([.int (nI n)] : List Value).toArray s (1 + 2 * (n * n)) (n * n + 8 * (n * n)) A) (oIL n k) (1 + 2 * k) (n * n + 8 * k) sh' ad' S' 9 [some (.int (nI n)), some (.ref q0), some (.int (nI k)), none] [] := by
    intro d
    induction d with
    | zero =>
      intro k q0 sh' ad' S' hk hq hs hW
      have hkn : k = n * n := by omega
      subst hkn
      refine Zr_iload_n C dX3_newRows_9 rfl ?_
      refine Zr_aload_n C dX3_newRows_10 rfl ?_
      refine Zr_alen C 3 (oIL_mem.mpr (Or.inl rfl)) hq.symm hs rfl dX3_newRows_11 ?_
      refine Zr_icmp_ge C 54 dX3_newRows_12 (by decide) (fun h => ?_) (fun h => absurd (nI_le (Nat.le_refl _) (by omega)) h)
      refine Zr_aload_n C dX3_newRows_54 rfl ?_
      refine Zr_fit (f' := fun r => if r / n = r % n then none else some (6, r)) hs (fun q hq => by simp only [kf6, hq, true_and]; by_cases h : q / n = q % n <;> simp [h]) ?_
      refine Zr_aret C (Or.inr ⟨_, rfl⟩) (Or.inr ⟨_, rfl⟩) dX3_newRows_55 (Nat.le_refl _) (Nat.le_refl _) ⟨by rw [hq], by simp, fun q hq hd => ?_, fun i hi => ?_, hW.2.2⟩
      · simpa using hW.1 q hq hd
      · have hne : i ≠ (2, 0) := fun h => hi (Or.inl (by rw [h]))
        exact ⟨by dsimp only; rw [if_neg hne]; exact (hW.2.1 i hi).1, (hW.2.1 i hi).2⟩
    | succ d ih =>
      intro k q0 sh' ad' S' hk hq hs hW
      have hkn : k < n * n := by omega
      have hdm := nI_dm n (by omega) k (by omega) (by omega)
      have hdl : k / n < 2 ^ 31 := Nat.lt_of_le_of_lt (Nat.div_le_self k n) (by omega)
      have hml : k % n < 2 ^ 31 := Nat.lt_trans (Nat.mod_lt k (by omega)) (by omega)
      refine Zr_iload_n C dX3_newRows_9 rfl ?_
      refine Zr_aload_n C dX3_newRows_10 rfl ?_
      refine Zr_alen C 3 (oIL_mem.mpr (Or.inl rfl)) hq.symm hs rfl dX3_newRows_11 ?_
      refine Zr_icmp_ge C 54 dX3_newRows_12 (by decide) (fun h => absurd h (nI_ge hkn (by omega))) (fun h => ?_)
      refine Zr_iload_n C dX3_newRows_15 rfl ?_
      refine Zr_iload_n C dX3_newRows_16 rfl ?_
      refine Zr_idiv C dX3_newRows_17 hn0 ?_
      refine Zr_topi hdm.1 ?_
      refine Zr_iload_n C dX3_newRows_18 rfl ?_
      refine Zr_iload_n C dX3_newRows_19 rfl ?_
      refine Zr_irem C dX3_newRows_20 hn0 ?_
      refine Zr_topi hdm.2 ?_
      refine Zr_icmp_ne C 28 dX3_newRows_21 (by decide) (fun h2 => ?_) (fun h2 => ?_)
      · have hdg : k / n ≠ k % n := fun h => h2 (by rw [h])
        refine Zr_iconst C (0) dX3_newRows_28 rfl ?_
        refine Zr_istore_n C dX3_newRows_29 (by decide) ?_
        refine Zr_aload_n C dX3_newRows_30 rfl ?_
        refine Zr_iload_n C dX3_newRows_31 rfl ?_
        refine Zr_iload_n C dX3_newRows_32 rfl ?_
        refine Zr_if_eq C 40 dX3_newRows_33 (by decide) (fun h3 => ?_) (fun h3 => absurd rfl h3)
        have hno4 : ∀ i ∈ oIL n k, zNo (fun j => j = (6, k)) (sh' i) ∧ zNo (fun j => j = (7, k)) (sh' i) := by
          intro i hi
          obtain ⟨a, b⟩ := i
          rcases oIL_mem.mp hi with h | ⟨h, hb⟩ | ⟨h, hb⟩
          · rw [h, hs]
            refine ⟨fun x j hx hj => ?_, fun x j hx hj => ?_⟩
            · simp only [kf6] at hx
              split at hx
              · cases hx; cases hj; omega
              · cases hx
            · simp only [kf6] at hx
              split at hx
              · cases hx; cases hj
              · cases hx
          · dsimp only at h hb
            subst h
            rw [(hW.1 b hb.1 hb.2).1]
            refine ⟨?_, ?_⟩
            · simp [zNo]
            · simp [zNo]; omega
          · dsimp only at h hb
            subst h
            rw [(hW.1 b hb.1 hb.2).2.1]
            exact ⟨trivial, trivial⟩
        have hnin : (6, k) ∉ oIL n k := fun h => by rcases oIL_mem.mp h with h | ⟨h, hb, -⟩ | ⟨h, hb, -⟩ <;> simp at *
        refine Zr_new C nw_X3_67 (6, k) ((6, k) :: oIL n k) (by simp) hnin (fun i hi => (hno4 i hi).1) (List.nodup_cons.mpr ⟨hnin, oIL_nodup n k⟩) (fun i hi => List.mem_cons.mp hi) (by show 1 + 2 * k + 1 ≤ 1 + 2 * (n * n); omega) (by show n * n + 8 * k + 4 ≤ n * n + 8 * (n * n); omega) dX3_newRows_40 (fun sh1 ad1 S1 h1 => ?_)
        refine Zr_dup C dX3_newRows_43 rfl ?_
        refine Zr_invI C (st := [.ref (ad1 (6, k)), .int (nI k), .ref q0]) [] ci_X3_229 (k_X0_init h1.1 h1.2.1) (by simp) (fun i hi => by rw [List.mem_singleton.mp hi]; exact List.mem_cons_self) rfl (Nat.le_refl 2) (Nat.le_of_ble_eq_true rfl) rfl (Nat.le_of_ble_eq_true rfl) dX3_newRows_44 ⟨by show 1 + 2 * k + 1 + 1 ≤ 1 + 2 * (n * n); omega, by show n * n + 8 * k + 4 + 4 ≤ n * n + 8 * (n * n); omega⟩ (oIL n (k + 1)) (fun v sh2 ad2 S2 hp => ?_)
        obtain ⟨rfl, p1, p2, p3, p4, p5⟩ := hp
        have e10 : ad2 (2, 0) = q0 := by rw [p5.2 (2, 0) (by simp), (h1.2.2 (2, 0) (by simp)).2.1]; exact hq
        have s10 : sh2 (2, 0) = .inr (K.2.2.2, n * n, some (kf6 n k)) := by rw [(p5.1 (2, 0) (by simp)).1, (h1.2.2 (2, 0) (by simp)).1]; exact hs
        refine ⟨⟨oIL_nodup _ _, fun i hi => ?_⟩, ?_⟩
        · by_cases h4 : i = (6, k)
          · left; simp [h4]
          by_cases h5 : i = (7, k)
          · left; simp [h5]
          right
          have hik : i ∈ oIL n k := by
            obtain ⟨a, b⟩ := i
            rcases oIL_mem.mp hi with h | ⟨h, hb, hb2⟩ | ⟨h, hb, hb2⟩
            · exact oIL_mem.mpr (Or.inl h)
            · dsimp only at h hb hb2
              subst h
              exact oIL_mem.mpr (Or.inr (Or.inl ⟨rfl, by have : b ≠ k := fun h => h4 (by rw [h]); omega, hb2⟩))
            · dsimp only at h hb hb2
              subst h
              exact oIL_mem.mpr (Or.inr (Or.inr ⟨rfl, by have : b ≠ k := fun h => h5 (by rw [h]); omega, hb2⟩))
          refine ⟨List.mem_cons_of_mem _ hik, by simp [h4], by simp [h4, h5], p5.2 i h5, p5.pic (fun h => by rcases h with h | h <;> contradiction) ?_⟩
          rw [(h1.2.2 i h4).1]
          exact (hno4 i hik).2
        have e4 : ad2 (6, k) = ad1 (6, k) := p5.2 (6, k) (by simp)
        refine Zr_aast C 3 (6, k) (r := (RX0, TX0, 4)) (oIL_mem.mpr (Or.inl rfl)) e10.symm s10 rfl (oIL_mem.mpr (Or.inr (Or.inl ⟨rfl, by dsimp only; omega, hdg⟩))) e4.symm p1 rfl hkn (by omega) dX3_newRows_47 ?_
        refine Zr_iincE C (1) (nI (k + 1)) dX3_newRows_48 (by decide) rfl rfl (nI_1 _) ?_
        refine Zr_goto C 9 dX3_newRows_51 (by decide) ?_
        refine Zr_widen (cells' := 1 + 2 * (k + 1)) (slots' := n * n + 8 * (k + 1)) (by show 1 + 2 * k + 1 + 1 ≤ _; omega) (by show n * n + 8 * k + 4 + 4 ≤ _; omega) ?_
        refine Zr_forget 3 ?_
        refine ih (k + 1) q0 _ ad2 S2 (by omega) e10 ?_ ⟨fun q hq hqd => ?_, fun i hi => ?_, fun i hi => ?_⟩
        · simp only [if_true, kf6]
          congr 4
          funext y
          by_cases h1 : y = k
          · subst h1; simp [hdg]
          · rw [if_neg h1]
            by_cases h2 : y < k ∧ y / n ≠ y % n
            · rw [if_pos h2]; exact (if_pos ⟨by omega, h2.2⟩).symm
            · rw [if_neg h2]; exact (if_neg (fun h3 => h2 ⟨by omega, h3.2⟩)).symm
        · by_cases hqk : q = k
          · subst hqk
            exact ⟨by simpa using p1, by simpa using p2, p3, p4⟩
          · obtain ⟨w1, w2, w3, w4⟩ := hW.1 q (by omega) hqd
            have a4 := p5.1 (6, q) (by simp [hqk])
            have a5 := p5.1 (7, q) (by simp [hqk])
            have b4 := h1.2.2 (6, q) (by simp [hqk])
            have b5 := h1.2.2 (7, q) (by simp)
            exact ⟨by simp only [Prod.mk.injEq]; rw [if_neg (by omega)]; exact a4.1.trans (b4.1.trans w1), by simp only [Prod.mk.injEq]; rw [if_neg (by omega)]; exact a5.1.trans (b5.1.trans w2), a4.2.trans (b4.2.2.trans w3), a5.2.trans (b5.2.2.trans w4)⟩
        · have n1 : i ≠ (2, 0) := fun h => hi (Or.inl (by rw [h]))
          have n4 : i ≠ (6, k) := fun h => hi (Or.inr (Or.inl (by rw [h])))
          have n5 : i ≠ (7, k) := fun h => hi (Or.inr (Or.inr (by rw [h])))
          have a := p5.1 i (fun h => by rcases h with h | h <;> contradiction)
          have b := h1.2.2 i n4
          have w := hW.2.1 i hi
          exact ⟨by dsimp only; rw [if_neg n1]; exact a.1.trans (b.1.trans w.1), a.2.trans (b.2.2.trans w.2)⟩
        · have n4 : i ≠ (6, k) := fun h => hi (Or.inr (Or.inl (by rw [h])))
          have n5 : i ≠ (7, k) := fun h => hi (Or.inr (Or.inr (by rw [h])))
          exact (p5.2 i n5).trans ((h1.2.2 i n4).2.1.trans (hW.2.2 i hi))
      · have hdg : k / n = k % n := (nI_eq hdl hml).mp h2
        refine Zr_iconst C (1) dX3_newRows_24 rfl ?_
        refine Zr_goto C 29 dX3_newRows_25 (by decide) ?_
        refine Zr_istore_n C dX3_newRows_29 (by decide) ?_
        refine Zr_aload_n C dX3_newRows_30 rfl ?_
        refine Zr_iload_n C dX3_newRows_31 rfl ?_
        refine Zr_iload_n C dX3_newRows_32 rfl ?_
        refine Zr_if_eq C 40 dX3_newRows_33 (by decide) (fun h3 => absurd h3 (by decide)) (fun h3 => ?_)
        refine Zr_null C dX3_newRows_36 ?_
        refine Zr_goto C 47 dX3_newRows_37 (by decide) ?_
        refine Zr_aastN C 3 (Cn := RX0) (oIL_mem.mpr (Or.inl rfl)) hq.symm hs rfl hkn (by omega) (by simp [kf6]) dX3_newRows_47 ?_
        refine Zr_iincE C (1) (nI (k + 1)) dX3_newRows_48 (by decide) rfl rfl (nI_1 _) ?_
        refine Zr_goto C 9 dX3_newRows_51 (by decide) ?_
        refine Zr_widen (cells' := 1 + 2 * (k + 1)) (slots' := n * n + 8 * (k + 1)) (by omega) (by omega) ?_
        refine Zr_forget 3 ?_
        have hIL : oIL n (k + 1) = oIL n k := by
          have : oR n (k + 1) = oR n k := by
            simp only [oR, List.range_succ, List.filter_append]
            simp [hdg]
          simp only [oIL, this]
        rw [← hIL]
        refine ih (k + 1) q0 sh' ad' S' (by omega) hq ?_ ⟨fun q hq hqd => hW.1 q (by have : q ≠ k := fun h => hqd (by rw [h]; exact hdg); omega) hqd, hW.2⟩
        rw [hs]
        congr 4
        funext y
        by_cases h2 : y < k ∧ y / n ≠ y % n
        · exact (if_pos h2).trans (if_pos ⟨by omega, h2.2⟩).symm
        · exact (if_neg h2).trans (if_neg (fun h3 => h2 ⟨by have : y ≠ k := fun h => h3.2 (by rw [h]; exact hdg); omega, h3.2⟩)).symm
  refine Zr_iload_n C dX3_newRows_0 rfl ?_
  refine Zr_iload_n C dX3_newRows_1 rfl ?_
  refine Zr_imul C dX3_newRows_2 ?_
  refine Zr_topi (nI_sq n (by omega)) ?_
  refine Zr_newq C (N := n * n) 3 (2, 0) (oIL n 0) rfl qw_X3_67 qo_X0 (by simp) (by simp) (oIL_nodup n 0) (by simp [oIL, oR]) (nI_pos (by omega)) (nI_clamp (by omega)) (by omega) (by show 0 + 1 ≤ 1 + 2 * (n * n); omega) (by show 0 + n * n ≤ n * n + 8 * (n * n); omega) dX3_newRows_3 (fun sh1 ad1 S1 h1 => ?_)
  refine Zr_astore_n C dX3_newRows_6 (by decide) ?_
  refine Zr_iconst C (0) dX3_newRows_7 rfl ?_
  refine Zr_istore_n C dX3_newRows_8 (by decide) ?_
  refine Zr_cs (cells' := 1 + 2 * 0) (slots' := n * n + 8 * 0) (by omega) (by omega) ?_
  refine loop (n * n) 0 (ad1 (2, 0)) sh1 ad1 S1 (by omega) rfl ?_ ⟨fun q hq => absurd hq (Nat.not_lt_zero _), fun i hi => ?_, fun i hi => ?_⟩
  · rw [h1.1]
    congr 4
  · have := h1.2.2 i (fun h => hi (Or.inl (by rw [h])))
    exact ⟨this.1, this.2.2⟩
  · exact (h1.2.2 i (fun h => hi (Or.inl (by rw [h])))).2.1
