/-! ===== THE INVARIANT: its pieces, by themselves ===== -/
def cK (k : Int32) (σ : aS) : Nat → Nat := fun r => aOf k (σ.2.1 r)
theorem cK_push_ne {k : Int32} {σ : aS} {r : Nat} {m : aM} (h : m.1 ≠ k) : cK k (aPush σ r m) = cK k σ := by
  funext x
  simp only [cK, aPush]
  split
  · next hx => subst hx; rw [aOf_app, if_neg h]; rfl
  · rfl
theorem cK_push_eq {k : Int32} {σ : aS} {r : Nat} {m : aM} (h : m.1 = k) : cK k (aPush σ r m) = fun x => if x = r then cK k σ r + 1 else cK k σ x := by
  funext x
  simp only [cK, aPush]
  split
  · rw [aOf_app, if_pos h]
  · rfl
theorem cK_tail_ne {k : Int32} {σ : aS} {r : Nat} {m : aM} {tl : List aM} (hL : σ.2.1 r = m :: tl) (h : m.1 ≠ k) : cK k (aTail σ r) = cK k σ := by
  funext x
  simp only [cK, aTail]
  split
  · next hx => subst hx; rw [hL, aOf_cons, if_neg h]; rfl
  · rfl
theorem cK_tail_eq {k : Int32} {σ : aS} {r : Nat} {m : aM} {tl : List aM} (hL : σ.2.1 r = m :: tl) (h : m.1 = k) : cK k (aTail σ r) = (fun x => if x = r then cK k σ r - 1 else cK k σ x) ∧ 0 < cK k σ r := by
  refine ⟨?_, ?_⟩
  · funext x
    simp only [cK, aTail]
    split
    · next hx => subst hx; rw [hL, aOf_cons, if_pos h]; rfl
    · rfl
  · simp only [cK]
    rw [hL, aOf_cons, if_pos h]
    omega
theorem cK_all_ne {k : Int32} {σ : aS} {p n : Nat} {f : Nat → Bool} {m : aM} (h : m.1 ≠ k) : cK k (aAll σ p f n m) = cK k σ := by
  funext x
  simp only [cK, aAll]
  split
  · rw [aOf_app, if_neg h]; rfl
  · rfl
theorem cK_all_eq {k : Int32} {σ : aS} {p n : Nat} {f : Nat → Bool} {m : aM} (h : m.1 = k) : cK k (aAll σ p f n m) = fun x => if x / 10 = p ∧ x % 10 < n ∧ f (x % 10) = true then cK k σ x + 1 else cK k σ x := by
  funext x
  simp only [cK, aAll]
  split
  · rw [aOf_app, if_pos h]
  · rfl
/-- rows and room -/
def aVal (n r : Nat) : Prop := r / 10 < n ∧ r % 10 < n ∧ r / 10 ≠ r % 10
theorem aVal_of {n p q : Nat} (hn : n ≤ 10) (hp : p < n) (hq : q < n) (hpq : p ≠ q) : aVal n (10 * p + q) := by
  have h1 : (10 * p + q) / 10 = p := by omega
  have h2 : (10 * p + q) % 10 = q := by omega
  unfold aVal
  rw [h1, h2]
  exact ⟨hp, hq, hpq⟩
def iE (n : Nat) (L : Nat → List aM) (cp : Nat → Nat) : Prop := (∀ r, r < 100 → ¬ aVal n r → L r = []) ∧ (∀ r, r < 100 → ∀ m ∈ L r, aWM n m) ∧ (∀ r, r < 100 → aOf 1 (L r) ≤ 20) ∧ ∀ r, r < 100 → cp r ≤ 1280
theorem iE_push {n : Nat} {σ : aS} {r : Nat} {m : aM} (h : iE n σ.2.1 σ.2.2) (hv : aVal n r) (hm : aWM n m) (h1 : m.1 = 1 → aOf 1 (σ.2.1 r) < 20) (hl : (σ.2.1 r).length ≤ 640) : iE n (aPush σ r m).2.1 (aPush σ r m).2.2 := by
  obtain ⟨a, b, c, d⟩ := h
  refine ⟨fun x hx hx2 => ?_, fun x hx mm hmm => ?_, fun x hx => ?_, fun x hx => ?_⟩
  · have : ¬ x = r := fun e => hx2 (e ▸ hv)
    simp only [aPush, if_neg this]
    exact a x hx hx2
  · by_cases e : x = r
    · subst e
      simp only [aPush, if_true, List.mem_append, List.mem_singleton] at hmm
      rcases hmm with hmm | hmm
      · exact b x hx mm hmm
      · exact hmm ▸ hm
    · simp only [aPush, if_neg e] at hmm
      exact b x hx mm hmm
  · by_cases e : x = r
    · subst e
      simp only [aPush, if_true]
      rw [aOf_app]
      by_cases hk : m.1 = 1
      · have := h1 hk; rw [if_pos hk]; omega
      · rw [if_neg hk]; exact c x hx
    · simp only [aPush, if_neg e]; exact c x hx
  · by_cases e : x = r
    · subst e
      simp only [aPush, if_true]
      have := d x hx
      split <;> omega
    · simp only [aPush, if_neg e]; exact d x hx
theorem iE_tail {n : Nat} {σ : aS} {r : Nat} (h : iE n σ.2.1 σ.2.2) : iE n (aTail σ r).2.1 (aTail σ r).2.2 := by
  obtain ⟨a, b, c, d⟩ := h
  refine ⟨fun x hx hx2 => ?_, fun x hx mm hmm => ?_, fun x hx => ?_, d⟩
  · by_cases e : x = r
    · subst e; simp [aTail, a x hx hx2]
    · simp only [aTail, if_neg e]; exact a x hx hx2
  · by_cases e : x = r
    · subst e
      simp only [aTail, if_true] at hmm
      exact b x hx mm (List.mem_of_mem_tail hmm)
    · simp only [aTail, if_neg e] at hmm
      exact b x hx mm hmm
  · by_cases e : x = r
    · subst e
      simp only [aTail, if_true]
      have := c x hx
      refine Nat.le_trans ?_ this
      unfold aOf
      exact List.Sublist.countP_le (List.tail_sublist _)
    · simp only [aTail, if_neg e]; exact c x hx
theorem iE_all {n : Nat} {σ : aS} {p : Nat} {f : Nat → Bool} {m : aM} (h : iE n σ.2.1 σ.2.2) (hn : n ≤ 10) (hp : p < n) (hf : f p = false) (hm : aWM n m) (h1 : m.1 ≠ 1) (hl : ∀ r, r < 100 → (σ.2.1 r).length ≤ 640) : iE n (aAll σ p f n m).2.1 (aAll σ p f n m).2.2 := by
  obtain ⟨a, b, c, d⟩ := h
  refine ⟨fun x hx hx2 => ?_, fun x hx mm hmm => ?_, fun x hx => ?_, fun x hx => ?_⟩
  · simp only [aAll]
    rw [if_neg]
    · exact a x hx hx2
    · rintro ⟨e1, e2, e3⟩
      refine hx2 ⟨by omega, e2, fun e => ?_⟩
      rw [← e, e1, hf] at e3
      cases e3
  · simp only [aAll] at hmm
    split at hmm
    · simp only [List.mem_append, List.mem_singleton] at hmm
      rcases hmm with hmm | hmm
      · exact b x hx mm hmm
      · exact hmm ▸ hm
    · exact b x hx mm hmm
  · simp only [aAll]
    split
    · rw [aOf_app, if_neg h1]; exact c x hx
    · exact c x hx
  · simp only [aAll]
    have := d x hx
    have := hl x hx
    split
    · split <;> omega
    · omega
/-- the tree -/
def iT (n p0 : Nat) (σ : aS) : Prop := tInv n p0 (σ.1 0 0 1) (σ.1 0 0 2) (σ.1 1 8) (σ.1 1 9) (σ.1 1 10) (fun p q => cK 1 σ (10 * p + q)) (fun p q => cK 2 σ (10 * p + q))
theorem t_cong {n p0 : Nat} {g1 g2 h1 h2 : Int32} {N8 N9 N10 M8 M9 M10 : Nat → Int32} {c1 c2 d1 d2 : Nat → Nat → Nat} (h : tInv n p0 h1 h2 M8 M9 M10 d1 d2) (e1 : g1 = h1) (e2 : g2 = h2) (e8 : ∀ x, x < n → N8 x = M8 x) (e9 : ∀ x, x < n → N9 x = M9 x) (e10 : ∀ x, x < n → N10 x = M10 x) (k1 : ∀ a b, a < n → b < n → c1 a b = d1 a b) (k2 : ∀ a b, a < n → b < n → c2 a b = d2 a b) : tInv n p0 g1 g2 N8 N9 N10 c1 c2 := by
  subst e1 e2
  obtain ⟨a, b, c, d, f, rk, k⟩ := h
  have hW : ∀ x, x < n → tW n N9 c1 c2 x = tW n M9 d1 d2 x := by
    intro x hx
    unfold tW tKids
    rw [aSum_cong (fun y hy => k1 x y hx hy), aSum_cong (fun y hy => k2 y x hy hx), aCnt_cong (f := fun q => q != 0 && N9 q == nI x) (g := fun q => q != 0 && M9 q == nI x) (fun y hy => by rw [e9 y hy])]
  have hI : ∀ x, x < n → tIn g1 g2 N9 x = tIn g1 g2 M9 x := by
    intro x hx
    unfold tIn
    rw [e9 x hx]
  refine ⟨fun x hx => ?_, fun x hx h0 => ?_, fun x hx ht => ?_, fun x hx hp ht h8 => ?_, f, rk, fun x hx h0 j hj e => ?_⟩
  · rw [hW x hx, e10 x hx]; exact a x hx
  · rw [e9 x hx]; exact b x hx h0
  · rw [hI x hx] at ht; rw [e8 x hx, e10 x hx]; exact c x hx ht
  · rw [hI x hx] at ht; rw [e8 x hx] at h8; rw [e10 x hx]; exact d x hx hp ht h8
  · rw [e9 x hx] at e; exact k x hx h0 j hj e
theorem r_eq {a b p q n : Nat} (hn : n ≤ 10) (hb : b < n) (hq : q < n) : (10 * a + b = 10 * p + q) ↔ (a = p ∧ b = q) := by omega
/-- the token -/
def iK (n : Nat) (N13 : Nat → Int32) (c3 : Nat → Nat) : Prop := aCnt (fun p => N13 p != 0) n + aSum c3 100 ≤ 1
/-- requests -/
def iQ (n : Nat) (N16 N17 N30 : Nat → Int32) (c4 c5 : Nat → Nat) : Prop := (∀ p q, p < n → q < n → c4 (10 * p + q) + (if N17 (10 * q + p) = 0 then 0 else 1) + c5 (10 * q + p) = (if N16 (10 * p + q) = 0 then 0 else 1) ∧ (N30 (10 * p + q) ≠ 0 ↔ c5 (10 * q + p) ≠ 0)) ∧ ∀ p, p < n → N16 (10 * p + p) = 0
/-- probes -/
def aPr (i : Nat) (l : List aM) : Nat := l.countP (fun m => m.1 == 6 && m.2.1 == nI i)
def iP (n : Nat) (N15 N18 : Nat → Int32) (L : Nat → List aM) : Prop := ∃ (pb : Nat → Nat) (mt : Nat → Nat → Nat), (∀ i, i < n → N15 i = nI (pb i) ∧ pb i ≤ 50) ∧ (∀ k i, k < n → i < n → N18 (10 * k + i) = nI (mt k i) ∧ mt k i ≤ pb i) ∧ (∀ r, r < 100 → ∀ m ∈ L r, m.1 = 6 → ∀ i, i < n → m.2.1 = nI i → ∃ u, m.2.2 = nI u ∧ u ≤ pb i) ∧ ∀ k q i, k < n → q < n → i < n → aPr i (L (10 * k + q)) ≤ if i = k then pb k else mt k i
theorem aPr_app {i : Nat} {l : List aM} {m : aM} : aPr i (l ++ [m]) = aPr i l + (if m.1 = 6 ∧ m.2.1 = nI i then 1 else 0) := by
  unfold aPr
  rw [List.countP_append]
  simp [List.countP_cons, List.countP_nil]
theorem iP_push {n : Nat} {N15 N18 : Nat → Int32} {σ : aS} {r : Nat} {m : aM} (h : iP n N15 N18 σ.2.1) (hm : m.1 ≠ 6) : iP n N15 N18 (aPush σ r m).2.1 := by
  obtain ⟨pb, mt, a, b, c, d⟩ := h
  refine ⟨pb, mt, a, b, fun x hx mm hmm h6 => ?_, fun k q i hk hq hi => ?_⟩
  · by_cases e : x = r
    · subst e
      simp only [aPush, if_true, List.mem_append, List.mem_singleton] at hmm
      rcases hmm with hmm | hmm
      · exact c x hx mm hmm h6
      · exact absurd (hmm ▸ h6) hm
    · simp only [aPush, if_neg e] at hmm
      exact c x hx mm hmm h6
  · by_cases e : 10 * k + q = r
    · simp only [aPush, e, if_true]
      rw [aPr_app, if_neg (fun h => hm h.1), ← e]
      exact d k q i hk hq hi
    · simp only [aPush, if_neg e]
      exact d k q i hk hq hi
theorem iP_tail {n : Nat} {N15 N18 : Nat → Int32} {σ : aS} {r : Nat} (h : iP n N15 N18 σ.2.1) : iP n N15 N18 (aTail σ r).2.1 := by
  obtain ⟨pb, mt, a, b, c, d⟩ := h
  refine ⟨pb, mt, a, b, fun x hx mm hmm h6 => ?_, fun k q i hk hq hi => ?_⟩
  · by_cases e : x = r
    · subst e
      simp only [aTail, if_true] at hmm
      exact c x hx mm (List.mem_of_mem_tail hmm) h6
    · simp only [aTail, if_neg e] at hmm
      exact c x hx mm hmm h6
  · by_cases e : 10 * k + q = r
    · simp only [aTail, e, if_true]
      refine Nat.le_trans ?_ (d k q i hk hq hi)
      rw [e]
      unfold aPr
      exact List.Sublist.countP_le (List.tail_sublist _)
    · simp only [aTail, if_neg e]
      exact d k q i hk hq hi
theorem iP_all {n : Nat} {N15 N18 : Nat → Int32} {σ : aS} {p : Nat} {f : Nat → Bool} {m : aM} (h : iP n N15 N18 σ.2.1) (hm : m.1 ≠ 6) : iP n N15 N18 (aAll σ p f n m).2.1 := by
  obtain ⟨pb, mt, a, b, c, d⟩ := h
  refine ⟨pb, mt, a, b, fun x hx mm hmm h6 => ?_, fun k q i hk hq hi => ?_⟩
  · simp only [aAll] at hmm
    split at hmm
    · simp only [List.mem_append, List.mem_singleton] at hmm
      rcases hmm with hmm | hmm
      · exact c x hx mm hmm h6
      · exact absurd (hmm ▸ h6) hm
    · exact c x hx mm hmm h6
  · simp only [aAll]
    split
    · rw [aPr_app, if_neg (fun h => hm h.1)]
      exact d k q i hk hq hi
    · exact d k q i hk hq hi
/-- probes go out: u is p's newest, or what mattered at p last -/
theorem iP_probe {n : Nat} {N15 N18 M15 M18 : Nat → Int32} {σ : aS} {p j u : Nat} {f : Nat → Bool} (h : iP n N15 N18 σ.2.1) (hn : n ≤ 10) (hp : p < n) (hj : j < n) (hu : u ≤ 50)
    (hc : (j = p ∧ (∃ v, N15 p = nI v ∧ v < u) ∧ (∀ x, x < n → M15 x = if x = p then nI u else N15 x) ∧ ∀ x, x < 100 → M18 x = N18 x) ∨ (j ≠ p ∧ (∀ v, v ≤ 50 → N15 j = nI v → u ≤ v) ∧ (∀ v, v ≤ 50 → N18 (10 * p + j) = nI v → v < u) ∧ (∀ x, x < n → M15 x = N15 x) ∧ ∀ x, x < 100 → M18 x = if x = 10 * p + j then nI u else N18 x)) :
    iP n M15 M18 (aAll σ p f n (6, nI j, nI u)).2.1 := by
  obtain ⟨pb, mt, a, b, c, d⟩ := h
  have hmem : ∀ (x : Nat) (mm : aM), mm ∈ (aAll σ p f n (6, nI j, nI u)).2.1 x → mm ∈ σ.2.1 x ∨ mm = (6, nI j, nI u) := by
    intro x mm hmm
    simp only [aAll] at hmm
    split at hmm
    · simpa only [List.mem_append, List.mem_singleton] using hmm
    · exact Or.inl hmm
  have hcnt : ∀ (x i : Nat), i < n → aPr i ((aAll σ p f n (6, nI j, nI u)).2.1 x) ≤ aPr i (σ.2.1 x) + (if x / 10 = p ∧ i = j then 1 else 0) := by
    intro x i hi
    simp only [aAll]
    split
    · next hx =>
      rw [aPr_app]
      by_cases hij : i = j
      · subst hij
        rw [if_pos ⟨rfl, rfl⟩, if_pos ⟨hx.1, rfl⟩]
        exact Nat.le_refl _
      · rw [if_neg (fun hh => hij ((nI_eq (by omega) (by omega)).mp hh.2).symm)]
        omega
    · omega
  rcases hc with ⟨hjp, ⟨v, hv, hvu⟩, e15, e18⟩ | ⟨hjp, h1, h2, e15, e18⟩
  · subst hjp
    have hpv : pb j = v := by
      have := (a j hj)
      rw [hv] at this
      have hle := this.2
      rcases Nat.lt_or_ge v (2 ^ 31) with hl | hl
      · exact ((nI_eq hl (by omega)).mp this.1).symm
      · omega
    refine ⟨fun x => if x = j then u else pb x, mt, fun i hi => ?_, fun k i hk hi => ?_, fun x hx mm hmm h6 i hi hmi => ?_, fun k q i hk hq hi => ?_⟩
    · rw [e15 i hi]
      dsimp only
      split
      · exact ⟨rfl, hu⟩
      · exact a i hi
    · rw [e18 _ (by omega)]
      refine ⟨(b k i hk hi).1, ?_⟩
      have := (b k i hk hi).2
      dsimp only
      split
      · next e => subst e; omega
      · exact this
    · dsimp only
      rcases hmem x mm hmm with hmm | hmm
      · obtain ⟨w, hw, hle⟩ := c x hx mm hmm h6 i hi hmi
        refine ⟨w, hw, ?_⟩
        split
        · next e => subst e; omega
        · exact hle
      · subst hmm
        refine ⟨u, rfl, ?_⟩
        have : j = i := (nI_eq (by omega) (by omega)).mp hmi
        rw [if_pos this.symm]
        exact Nat.le_refl _
    · have h3 := hcnt (10 * k + q) i hi
      have h4 := d k q i hk hq hi
      have h5 : (10 * k + q) / 10 = k := by omega
      rw [h5] at h3
      dsimp only
      by_cases hkj : k = j
      · subst hkj
        by_cases hik : i = k
        · subst hik
          simp only [if_true, and_self] at h3 h4 ⊢
          omega
        · simp only [hik, and_false, if_false] at h3 h4 ⊢
          omega
      · simp only [hkj, false_and, if_false] at h3 h4 ⊢
        exact Nat.le_trans h3 h4
  · have hpb := h1 (pb j) (a j hj).2 (a j hj).1
    have hbj := b p j hp hj
    have hmt := h2 (mt p j) (by have := (a j hj).2; omega) hbj.1
    refine ⟨pb, fun x y => if x = p ∧ y = j then u else mt x y, fun i hi => ?_, fun k i hk hi => ?_, fun x hx mm hmm h6 i hi hmi => ?_, fun k q i hk hq hi => ?_⟩
    · rw [e15 i hi]; exact a i hi
    · rw [e18 _ (by omega)]
      dsimp only
      by_cases hki : k = p ∧ i = j
      · obtain ⟨rfl, rfl⟩ := hki
        simp only [if_true, and_self]
        exact ⟨trivial, hpb⟩
      · rw [if_neg (by omega), if_neg hki]
        exact b k i hk hi
    · rcases hmem x mm hmm with hmm | hmm
      · exact c x hx mm hmm h6 i hi hmi
      · subst hmm
        have : j = i := (nI_eq (by omega) (by omega)).mp hmi
        subst this
        exact ⟨u, rfl, hpb⟩
    · have h3 := hcnt (10 * k + q) i hi
      have h4 := d k q i hk hq hi
      have h5 : (10 * k + q) / 10 = k := by omega
      rw [h5] at h3
      dsimp only
      by_cases hki : k = p ∧ i = j
      · obtain ⟨rfl, rfl⟩ := hki
        have hne : ¬ i = k := hjp
        simp only [if_true, and_self, hne, if_false] at h3 h4 ⊢
        omega
      · rw [if_neg hki] at h3
        rw [if_neg hki]
        exact Nat.le_trans h3 h4
