/-! ===== newWorkers, newRows ===== -/
theorem zD_same {A : Nat → Prop} {IL : List zI} {sh sh' : zSh} {ad : zAd} {S S' : zSt} (h : va_D A (zws IL sh ad S)) : va_D A (zws IL sh' ad S') := by
  have key : ∀ (k : Nat) (q : Nat × va_E), (zws IL sh' ad S')[k]? = some q → ∃ e, (zws IL sh ad S)[k]? = some (q.1, e) := by
    intro k q hk
    simp only [zws, List.getElem?_map, Option.map_eq_some_iff] at hk ⊢
    obtain ⟨i, hi, rfl⟩ := hk
    exact ⟨zpic sh ad S i, i, hi, rfl⟩
  refine ⟨fun i j p q hp hq hpq => ?_, fun k q hk => ?_⟩
  · obtain ⟨e1, h1⟩ := key i p hp
    obtain ⟨e2, h2⟩ := key j q hq
    exact h.1 i j _ _ h1 h2 hpq
  · obtain ⟨e1, h1⟩ := key k q hk
    exact h.2 k (q.1, e1) h1
theorem arrV_cong {cI : ClassId} {N : Nat} {f g : Nat → Value} (h : ∀ k, k < N → f k = g k) : arrV cI N f = arrV cI N g := by
  simp only [arrV]
  congr 2
  funext j
  exact h j.1 j.2
section ZF
variable {p : Program} {l : Launch} {e : Env} {R : Room} {s : State} {m : MethodId} {args : Array Value} {below : List Frame} {meth : Method} {c : Code} {Q : State → Prop} {cells slots : Nat}
variable {own : String} {cc : ByteArray} {nL : Nat} {ret : Option FieldType} {D : va_G} {K : zKs} {A : Nat → Prop} {IL : List zI} {sh : zSh} {ad : zAd} {S : zSt} {pc : Nat} {lv : List (Option Value)} {st : List Value}
theorem Zr_fit {a b n : Nat} {cA : ClassId} {f f' : Nat → Option zI} (hs : sh (a, b) = .inr (cA, n, some f)) (hf : ∀ k, k < n → f k = f' k) (k : Z p l e R s m args below meth c D A nL Q IL cells slots (fun x => if x = (a, b) then .inr (cA, n, some f') else sh x) ad S pc lv st) : Z p l e R s m args below meth c D A nL Q IL cells slots sh ad S pc lv st := by
  intro H locs ls hP hD hS hl
  refine k H locs ls (zP_iff.mpr fun i hi => ?_) (zD_same hD) hS hl
  have h1 := zP_iff.mp hP i hi
  by_cases hx : i = (a, b)
  · subst hx
    rw [zpic_ref hs] at h1
    rw [zpic_ref (f := f') (cA := cA) (n := n) (by simp)]
    refine h1.trans ?_
    rw [vp_cell_q, vp_cell_q]
    exact congrArg some (arrV_cong fun j hj => by rw [hf j hj])
  · have e : zpic (fun x => if x = (a, b) then .inr (cA, n, some f') else sh x) ad S i = zpic sh ad S i := by simp [zpic, hx]
    rw [e]
    exact h1
end ZF
def wIL (k : Nat) : List zI := (1, 0) :: ((List.range k).map (fun p => (4, p)) ++ (List.range k).map (fun p => (5, p)))
theorem wIL_mem {k : Nat} {i : zI} : i ∈ wIL k ↔ i = (1, 0) ∨ (i.1 = 4 ∧ i.2 < k) ∨ (i.1 = 5 ∧ i.2 < k) := by
  obtain ⟨a, b⟩ := i
  simp only [wIL, List.mem_cons, List.mem_append, List.mem_map, List.mem_range, Prod.mk.injEq]
  constructor
  · rintro (h | ⟨x, hx, rfl, rfl⟩ | ⟨x, hx, rfl, rfl⟩)
    · exact Or.inl h
    · exact Or.inr (Or.inl ⟨rfl, hx⟩)
    · exact Or.inr (Or.inr ⟨rfl, hx⟩)
  · rintro (h | ⟨rfl, hx⟩ | ⟨rfl, hx⟩)
    · exact Or.inl h
    · exact Or.inr (Or.inl ⟨b, hx, rfl, rfl⟩)
    · exact Or.inr (Or.inr ⟨b, hx, rfl, rfl⟩)
theorem nd_pair (k : Nat) {l : List Nat} (h : l.Nodup) : (l.map (fun p => (k, p))).Nodup := nodup_map (fun a b h => (Prod.mk.inj h).2) h
theorem wIL_nodup (k : Nat) : (wIL k).Nodup := by
  refine List.nodup_cons.mpr ⟨by simp, List.nodup_append.mpr ⟨nd_pair 4 List.nodup_range, nd_pair 5 List.nodup_range, ?_⟩⟩
  intro x hx y hy hxy
  subst hxy
  simp only [List.mem_map] at hx hy
  obtain ⟨a, -, rfl⟩ := hx
  obtain ⟨b, -, h⟩ := hy
  cases h
def kNW (K : zKs) (n k : Nat) (sh : zSh) (ad : zAd) (S : zSt) (sh' : zSh) (ad' : zAd) (S' : zSt) : Prop := (∀ q, q < k → sh' (4, q) = .inl (2, [some (5, q), none, none, none, none, none, none, none, none, none, none]) ∧ sh' (5, q) = .inr (K.1, n, none) ∧ S' 4 q = kw0 ∧ S' 5 q = (fun _ => 0)) ∧ zKp (fun i => i.1 = 1 ∨ i.1 = 4 ∨ i.1 = 5) (fun i => i.1 = 1 ∨ i.1 = 4 ∨ i.1 = 5) sh ad S sh' ad' S'
def kRW (K : zKs) (n : Nat) (sh : zSh) (ad : zAd) (S : zSt) : Option Value → zSh → zAd → zSt → Prop := fun v sh' ad' S' => v = some (.ref (ad' (1, 0))) ∧ sh' (1, 0) = .inr (K.2.2.1, n, some (fun q => some (4, q))) ∧ kNW K n n sh ad S sh' ad' S'
abbrev kf4 (k : Nat) : Nat → Option zI := fun q => if q < k then some (4, q) else none
set_option maxHeartbeats 1000000 in
theorem k_X3_newWorkers {l : Launch} {D : va_G} {K : zKs} {n : Nat} {sh : zSh} {ad : zAd} {S : zSt} (hn : n ≤ 10) : zMetG l yX3_newWorkers cX3_newWorkers 3 (some (.array (.object "QuietWatch$Worker"))) { frames := 2, cells := 1 + 2 * n, slots := n + 21 * n, locals := 45 } D K [] sh ad S [.int (nI n)] (wIL n) (kRW K n sh ad S) := by
  refine zEnterG (own := RX3) (lv0 := [some (.int (nI n)), none, none]) (by decide) rfl (by simp [Value.category]) (Nat.le_of_ble_eq_true rfl) rfl ?_
  intro p e s m below meth c A C _ hnm
  have loop : ∀ (d k q0 : Nat) (sh' : zSh) (ad' : zAd) (S' : zSt), k + d = n → ad' (1, 0) = q0 → sh' (1, 0) = .inr (K.2.2.1, n, some (kf4 k)) → kNW K n k sh ad S sh' ad' S' → Z p l e { frames := 2, cells := 1 + 2 * n, slots := n + 21 * n, locals := 45 } s m ([.int (nI n)] : List Value).toArray below meth c D A 3 (MQ below (zQ (kRW K n sh ad S) (wIL n) D A) ([.int (nI n)] : List Value).toArray s (1 + 2 * n) (n + 21 * n) A) (wIL k) (1 + 2 * k) (n + 21 * k) sh' ad' S' 7 [some (.int (nI n)), some (.ref q0), some (.int (nI k))] [] := by
    intro d
    induction d with
    | zero =>
      intro k q0 sh' ad' S' hk hq hs hW
      have hkn : k = n := by omega
      subst hkn
      refine Zr_iload_n C dX3_newWorkers_7 rfl ?_
      refine Zr_iload_n C dX3_newWorkers_8 rfl ?_
      refine Zr_icmp_ge C 29 dX3_newWorkers_9 (by decide) (fun h => ?_) (fun h => absurd (nI_le (Nat.le_refl k) (by omega)) h)
      refine Zr_aload_n C dX3_newWorkers_29 rfl ?_
      refine Zr_fit (f' := fun q => some (4, q)) hs (fun q hq => by simp [hq]) ?_
      refine Zr_aret C (Or.inr ⟨_, rfl⟩) (Or.inr ⟨_, rfl⟩) dX3_newWorkers_30 (Nat.le_refl _) (Nat.le_refl _) ⟨by rw [hq], by simp, fun q hq => ?_, fun i hi => ?_, hW.2.2⟩
      · simpa using hW.1 q hq
      · have hne : i ≠ (1, 0) := fun h => hi (Or.inl (by rw [h]))
        exact ⟨by dsimp only; rw [if_neg hne]; exact (hW.2.1 i hi).1, (hW.2.1 i hi).2⟩
    | succ d ih =>
      intro k q0 sh' ad' S' hk hq hs hW
      have hkn : k < n := by omega
      refine Zr_iload_n C dX3_newWorkers_7 rfl ?_
      refine Zr_iload_n C dX3_newWorkers_8 rfl ?_
      refine Zr_icmp_ge C 29 dX3_newWorkers_9 (by decide) (fun h => absurd h (nI_ge hkn (by omega))) (fun h => ?_)
      refine Zr_aload_n C dX3_newWorkers_12 rfl ?_
      refine Zr_iload_n C dX3_newWorkers_13 rfl ?_
      have hno4 : ∀ i ∈ wIL k, zNo (fun j => j = (4, k)) (sh' i) ∧ zNo (fun j => j = (5, k)) (sh' i) := by
        intro i hi
        obtain ⟨a, b⟩ := i
        rcases wIL_mem.mp hi with h | ⟨h, hb⟩ | ⟨h, hb⟩
        · rw [h, hs]
          refine ⟨fun x j hx hj => ?_, fun x j hx hj => ?_⟩
          · simp only [kf4] at hx
            split at hx
            · cases hx; cases hj; omega
            · cases hx
          · simp only [kf4] at hx
            split at hx
            · cases hx; cases hj
            · cases hx
        · dsimp only at h hb
          subst h
          rw [(hW.1 b hb).1]
          refine ⟨?_, ?_⟩
          · simp [zNo]
          · simp [zNo]; omega
        · dsimp only at h hb
          subst h
          rw [(hW.1 b hb).2.1]
          exact ⟨trivial, trivial⟩
      have hnin : (4, k) ∉ wIL k := fun h => by rcases wIL_mem.mp h with h | ⟨h, hb⟩ | ⟨h, hb⟩ <;> simp at *
      refine Zr_new C nw_X3_50 (4, k) ((4, k) :: wIL k) (by simp) hnin (fun i hi => (hno4 i hi).1) (List.nodup_cons.mpr ⟨hnin, wIL_nodup k⟩) (fun i hi => List.mem_cons.mp hi) (by show 1 + 2 * k + 1 ≤ 1 + 2 * n; omega) (by show n + 21 * k + 11 ≤ n + 21 * n; omega) dX3_newWorkers_14 (fun sh1 ad1 S1 h1 => ?_)
      refine Zr_dup C dX3_newWorkers_17 rfl ?_
      refine Zr_iload_n C dX3_newWorkers_18 rfl ?_
      refine Zr_invI C (st := [.ref (ad1 (4, k)), .int (nI k), .ref q0]) [.int (nI n)] ci_X3_227 (k_X2_init hn h1.1 h1.2.1) (by simp) (fun i hi => by rw [List.mem_singleton.mp hi]; exact List.mem_cons_self) rfl (Nat.le_refl 2) (Nat.le_of_ble_eq_true rfl) rfl (Nat.le_of_ble_eq_true rfl) dX3_newWorkers_19 ⟨by show 1 + 2 * k + 1 + 1 ≤ 1 + 2 * n; omega, by show n + 21 * k + 11 + n ≤ n + 21 * n; omega⟩ (wIL (k + 1)) (fun v sh2 ad2 S2 hp => ?_)
      obtain ⟨rfl, p1, p2, p3, p4, p5⟩ := hp
      have e10 : ad2 (1, 0) = q0 := by rw [p5.2 (1, 0) (by simp), (h1.2.2 (1, 0) (by simp)).2.1]; exact hq
      have s10 : sh2 (1, 0) = .inr (K.2.2.1, n, some (kf4 k)) := by rw [(p5.1 (1, 0) (by simp)).1, (h1.2.2 (1, 0) (by simp)).1]; exact hs
      refine ⟨⟨wIL_nodup _, fun i hi => ?_⟩, ?_⟩
      · by_cases h4 : i = (4, k)
        · left; simp [h4]
        by_cases h5 : i = (5, k)
        · left; simp [h5]
        right
        have hik : i ∈ wIL k := by
          obtain ⟨a, b⟩ := i
          rcases wIL_mem.mp hi with h | ⟨h, hb⟩ | ⟨h, hb⟩
          · exact wIL_mem.mpr (Or.inl h)
          · dsimp only at h hb
            subst h
            exact wIL_mem.mpr (Or.inr (Or.inl ⟨rfl, by have : b ≠ k := fun h => h4 (by rw [h]); omega⟩))
          · dsimp only at h hb
            subst h
            exact wIL_mem.mpr (Or.inr (Or.inr ⟨rfl, by have : b ≠ k := fun h => h5 (by rw [h]); omega⟩))
        refine ⟨List.mem_cons_of_mem _ hik, by simp [h4], by simp [h4, h5], p5.2 i h5, p5.pic (fun h => by rcases h with h | h <;> contradiction) ?_⟩
        rw [(h1.2.2 i h4).1]
        exact (hno4 i hik).2
      have e4 : ad2 (4, k) = ad1 (4, k) := p5.2 (4, k) (by simp)
      refine Zr_aast C 2 (4, k) (r := (RX2, TX2, 11)) (wIL_mem.mpr (Or.inl rfl)) e10.symm s10 rfl (wIL_mem.mpr (Or.inr (Or.inl ⟨rfl, by dsimp only; omega⟩))) e4.symm p1 rfl hkn (by omega) dX3_newWorkers_22 ?_
      refine Zr_iincE C (1) (nI (k + 1)) dX3_newWorkers_23 (by decide) rfl rfl (nI_1 _) ?_
      refine Zr_goto C 7 dX3_newWorkers_26 (by decide) ?_
      refine Zr_widen (cells' := 1 + 2 * (k + 1)) (slots' := n + 21 * (k + 1)) (by show 1 + 2 * k + 1 + 1 ≤ _; omega) (by show n + 21 * k + 11 + n ≤ _; omega) ?_
      refine ih (k + 1) q0 _ ad2 S2 (by omega) e10 ?_ ⟨fun q hq => ?_, fun i hi => ?_, fun i hi => ?_⟩
      · simp only [if_true, kf4]
        congr 4
        funext y
        by_cases h1 : y = k
        · subst h1; simp
        · by_cases h2 : y < k
          · rw [if_neg h1, if_pos h2]; exact (if_pos (by omega)).symm
          · rw [if_neg h1, if_neg h2]; exact (if_neg (by omega)).symm
      · by_cases hqk : q = k
        · subst hqk
          exact ⟨by simpa using p1, by simpa using p2, p3, p4⟩
        · obtain ⟨w1, w2, w3, w4⟩ := hW.1 q (by omega)
          have a4 := p5.1 (4, q) (by simp [hqk])
          have a5 := p5.1 (5, q) (by simp [hqk])
          have b4 := h1.2.2 (4, q) (by simp [hqk])
          have b5 := h1.2.2 (5, q) (by simp)
          exact ⟨by simp only [Prod.mk.injEq]; rw [if_neg (by omega)]; exact a4.1.trans (b4.1.trans w1), by simp only [Prod.mk.injEq]; rw [if_neg (by omega)]; exact a5.1.trans (b5.1.trans w2), a4.2.trans (b4.2.2.trans w3), a5.2.trans (b5.2.2.trans w4)⟩
      · have n1 : i ≠ (1, 0) := fun h => hi (Or.inl (by rw [h]))
        have n4 : i ≠ (4, k) := fun h => hi (Or.inr (Or.inl (by rw [h])))
        have n5 : i ≠ (5, k) := fun h => hi (Or.inr (Or.inr (by rw [h])))
        have a := p5.1 i (fun h => by rcases h with h | h <;> contradiction)
        have b := h1.2.2 i n4
        have w := hW.2.1 i hi
        exact ⟨by dsimp only; rw [if_neg n1]; exact a.1.trans (b.1.trans w.1), a.2.trans (b.2.2.trans w.2)⟩
      · have n4 : i ≠ (4, k) := fun h => hi (Or.inr (Or.inl (by rw [h])))
        have n5 : i ≠ (5, k) := fun h => hi (Or.inr (Or.inr (by rw [h])))
        exact (p5.2 i n5).trans ((h1.2.2 i n4).2.1.trans (hW.2.2 i hi))
  refine Zr_iload_n C dX3_newWorkers_0 rfl ?_
  refine Zr_newq C (N := n) 2 (1, 0) (wIL 0) rfl qw_X3_50 qo_X2 (by simp) (by simp) (wIL_nodup 0) (by simp [wIL]) (nI_pos (by omega)) (nI_clamp (by omega)) (by omega) (by show 0 + 1 ≤ 1 + 2 * n; omega) (by show 0 + n ≤ n + 21 * n; omega) dX3_newWorkers_1 (fun sh1 ad1 S1 h1 => ?_)
  refine Zr_astore_n C dX3_newWorkers_4 (by decide) ?_
  refine Zr_iconst C (0) dX3_newWorkers_5 rfl ?_
  refine Zr_istore_n C dX3_newWorkers_6 (by decide) ?_
  refine Zr_cs (cells' := 1 + 2 * 0) (slots' := n + 21 * 0) (by omega) (by omega) ?_
  refine loop n 0 (ad1 (1, 0)) sh1 ad1 S1 (by omega) rfl ?_ ⟨fun q hq => absurd hq (Nat.not_lt_zero _), fun i hi => ?_, fun i hi => ?_⟩
  · rw [h1.1]
    congr 4
  · have := h1.2.2 i (fun h => hi (Or.inl (by rw [h])))
    exact ⟨this.1, this.2.2⟩
  · exact (h1.2.2 i (fun h => hi (Or.inl (by rw [h])))).2.1
