/-! ===== THE INVARIANT ===== -/
def aI (n p0 : Nat) (σ : aS) : Prop := aB n σ ∧ iE n σ.2.1 σ.2.2 ∧ iT n p0 σ ∧ iK n (σ.1 1 13) (cK 3 σ) ∧ iQ n (σ.1 1 16) (σ.1 1 17) (σ.1 1 30) (cK 4 σ) (cK 5 σ) ∧ iP n (σ.1 1 15) (σ.1 1 18) σ.2.1
theorem aPr_sum {n : Nat} (hn : n ≤ 10) : ∀ {l : List aM}, (∀ m ∈ l, aWM n m) → aOf 6 l = aSum (fun i => aPr i l) n
  | [], _ => by
    have : aSum (fun i => aPr i []) n = 0 := aSum_zero.mpr (fun k _ => rfl)
    rw [this]
    rfl
  | m :: l, h => by
    have ih := aPr_sum hn (l := l) (fun x hx => h x (List.mem_cons_of_mem _ hx))
    have e : ∀ i, aPr i (m :: l) = aPr i l + (if m.1 = 6 ∧ m.2.1 = nI i then 1 else 0) := by
      intro i
      unfold aPr
      rw [List.countP_cons]
      simp
    rw [aOf_cons]
    rcases h m (List.mem_cons_self ..) with ⟨hk, -⟩ | ⟨h6, i, hi, h1, -⟩
    · have h6 : m.1 ≠ 6 := by rcases hk with h | h | h | h | h <;> (rw [h]; decide)
      rw [if_neg h6, ih]
      refine aSum_cong (fun k _ => ?_)
      rw [e, if_neg (fun hh => h6 hh.1)]
      rfl
    · rw [if_pos h6, ih]
      have hu := aSum_upd (f := fun k => aPr k l) (r := i) (v := aPr i l + 1) hi
      have hc : aSum (fun k => aPr k (m :: l)) n = aSum (fun x => if x = i then aPr i l + 1 else aPr x l) n := by
        refine aSum_cong (fun k hk => ?_)
        rw [e]
        by_cases hki : k = i
        · subst hki; rw [if_pos ⟨h6, h1⟩, if_pos rfl]
        · rw [if_neg (fun hh => hki ((nI_eq (by omega) (by omega)).mp (h1.symm.trans hh.2)).symm), if_neg hki]; rfl
      rw [hc]
      omega
theorem len_kinds {n : Nat} : ∀ {l : List aM}, (∀ m ∈ l, aWM n m) → l.length = aOf 1 l + aOf 2 l + aOf 3 l + aOf 4 l + aOf 5 l + aOf 6 l
  | [], _ => rfl
  | m :: l, h => by
    have ih := len_kinds (l := l) (fun x hx => h x (List.mem_cons_of_mem _ hx))
    simp only [List.length_cons, aOf_cons]
    rcases h m (List.mem_cons_self ..) with ⟨hk, -⟩ | ⟨h6, -⟩
    · rcases hk with hk | hk | hk | hk | hk <;> (rw [hk]; simp; omega)
    · rw [h6]; simp; omega
section
variable {n p0 : Nat} {σ : aS}
theorem aI.n10 (h : aI n p0 σ) : n ≤ 10 := h.1.2.2.1
theorem aI.n2 (h : aI n p0 σ) : 2 ≤ n := h.1.2.1
theorem aI.len (h : aI n p0 σ) : ∀ r, r < 100 → (σ.2.1 r).length ≤ 623 := by
  intro r hr
  have hn := h.n10
  obtain ⟨-, ⟨e1, e2, e3, -⟩, hT, hK, hQ, hP⟩ := h
  by_cases hv : aVal n r
  · obtain ⟨hp, hq, hpq⟩ := hv
    have hr2 : r = 10 * (r / 10) + r % 10 := by omega
    have k1 := e3 r hr
    have k2 : aOf 2 (σ.2.1 r) ≤ 100 := by
      have a1 := (hT.1 (r % 10) hq).2
      have a2 := aSum_ge (f := fun a => cK 2 σ (10 * a + r % 10)) hp
      simp only [tW] at a1
      rw [← hr2] at a2
      have : cK 2 σ r = aOf 2 (σ.2.1 r) := rfl
      omega
    have k3 : aOf 3 (σ.2.1 r) ≤ 1 := by
      have a2 := aSum_ge (f := cK 3 σ) hr
      unfold iK at hK
      have : cK 3 σ r = aOf 3 (σ.2.1 r) := rfl
      omega
    have k4 : aOf 4 (σ.2.1 r) ≤ 1 := by
      have a1 := (hQ.1 (r / 10) (r % 10) hp hq).1
      rw [← hr2] at a1
      have : cK 4 σ r = aOf 4 (σ.2.1 r) := rfl
      split at a1 <;> split at a1 <;> omega
    have k5 : aOf 5 (σ.2.1 r) ≤ 1 := by
      have a1 := (hQ.1 (r % 10) (r / 10) hq hp).1
      rw [← hr2] at a1
      have : cK 5 σ r = aOf 5 (σ.2.1 r) := rfl
      split at a1 <;> split at a1 <;> omega
    have k6 : aOf 6 (σ.2.1 r) ≤ 500 := by
      rw [aPr_sum hn (e2 r hr)]
      obtain ⟨pb, mt, a, b, c, d⟩ := hP
      have := aSum_le (f := fun i => aPr i (σ.2.1 r)) (b := 50) (n := n) (fun i hi => by
        have d1 := d (r / 10) (r % 10) i hp hq hi
        rw [← hr2] at d1
        have a1 := (a i hi).2
        have a2 := (a (r / 10) hp).2
        have b1 := (b (r / 10) i hp hi).2
        split at d1 <;> omega)
      have : n * 50 ≤ 500 := by omega
      omega
    have := len_kinds (e2 r hr)
    omega
  · rw [e1 r hr hv]
    exact Nat.zero_le _
theorem aI.lam (h : aI n p0 σ) : aLam σ ≤ 128000 := by
  have := aSum_le (f := σ.2.2) (b := 1280) (n := 100) (fun r hr => h.2.1.2.2.2 r hr)
  unfold aLam
  omega
theorem aI.dg (h : aI n p0 σ) {i : Nat} (hi : i < n) : σ.1 1 16 (10 * i + i) = 0 ∧ σ.1 1 17 (10 * i + i) = 0 := by
  have hQ := h.2.2.2.2.1
  refine ⟨hQ.2 i hi, ?_⟩
  have a1 := (hQ.1 i i hi hi).1
  rw [if_pos (hQ.2 i hi)] at a1
  by_cases h17 : σ.1 1 17 (10 * i + i) = 0
  · exact h17
  · rw [if_neg h17] at a1; omega
theorem aI.own (h : aI n p0 σ) {p : Nat} (hp : p < n) (h0 : ¬ 0 < σ.1 1 10 p) : σ.1 1 10 p = 0 := by
  obtain ⟨e, hle⟩ := h.2.2.1.1 p hp
  rcases Nat.eq_zero_or_pos (tW n (σ.1 1 9) (fun p q => cK 1 σ (10 * p + q)) (fun p q => cK 2 σ (10 * p + q)) p) with hz | hz
  · rw [e, hz]; rfl
  · exfalso
    apply h0
    rw [e]
    have a1 : ¬ nI (tW n (σ.1 1 9) (fun p q => cK 1 σ (10 * p + q)) (fun p q => cK 2 σ (10 * p + q)) p) ≤ 0 := fun hc => by
      have := (nI_le0 (by omega)).mp hc
      omega
    exact Int32.not_le.mp a1
theorem aI.weak (h : aI n n σ) (p : Nat) : aI n p σ := ⟨h.1, h.2.1, t_weak h.2.2.1 p, h.2.2.2⟩
theorem aI.safe (h : aI n n σ) : aSafe n σ := by
  have hn := h.n10
  refine ⟨h.1, fun k hk => ?_, fun i hi h0 h9 => ?_, fun r hr => ?_, fun r hr m hm => ?_⟩
  · cases hq : aQual σ k with
    | false => rfl
    | true =>
      exfalso
      obtain ⟨q1, q2, q3⟩ := aQual_iff.mp hq
      exact h.2.2.1.2.2.2.1 k hk (by omega) q1 q2 (h.own hk q3)
  · rcases h.2.2.1.2.1 i hi h0 with h1 | h1
    · exact absurd h1 h9
    · exact h1
  · have := h.len r hr; omega
  · rcases h.2.1.2.1 r hr m hm with ⟨hk, -⟩ | ⟨h6, i, hi, h1, -⟩
    · rcases hk with hk | hk | hk | hk | hk <;> simp [hk]
    · exact Or.inr (Or.inr (Or.inr (Or.inr (Or.inr ⟨h6, i, hi, h1⟩))))
theorem aOf_pos {k : Int32} {l : List aM} {m : aM} (hm : m ∈ l) (hk : m.1 = k) : 0 < aOf k l := by
  unfold aOf
  exact List.countP_pos_iff.mpr ⟨m, hm, by simp [hk]⟩
theorem aI.ok (h : aI n n σ) : cOK n σ := by
  have hn := h.n10
  have hn2 := h.n2
  refine ⟨h.safe, h.2.1.2.1, h.2.1.2.2.1, fun i hi => ?_, fun i hi => ?_, fun a ha q hq => ?_, fun i hi => h.dg hi, ?_, ?_, h.2.1.1⟩
  · obtain ⟨e, hle⟩ := h.2.2.1.1 i hi
    exact ⟨_, hle, e⟩
  · obtain ⟨pb, mt, a, -⟩ := h.2.2.2.2.2
    exact ⟨pb i, (a i hi).2, (a i hi).1⟩
  · exact (h.2.2.2.2.1.1 a q ha hq).2
  · rintro ⟨r, m, hr, hr0, hm, hk⟩
    cases ht : aTree σ 0 with
    | true => rfl
    | false =>
      exfalso
      by_cases hv : aVal n r
      · have := t_root h.2.2.1 hn ht (r / 10) hv.1 0 (by omega)
        have e : 10 * (r / 10) + 0 = r := by omega
        rw [e] at this
        have h2 := aOf_pos hm hk
        unfold cK at this
        omega
      · rw [h.2.1.1 r hr hv] at hm
        cases hm
  · rintro ⟨r, m, hr, hm, hk⟩ i hi
    have h2 := aOf_pos hm hk
    have a2 := aSum_ge (f := cK 3 σ) hr
    have hK := h.2.2.2.1
    unfold iK at hK
    have e : cK 3 σ r = aOf 3 (σ.2.1 r) := rfl
    have hz : aCnt (fun p => σ.1 1 13 p != 0) n = 0 := by omega
    simpa using aCnt_zero.mp hz i hi
theorem aI.ak (h : aI n n σ) : cAk n σ := by
  rintro i j hi hj ⟨m, hm, hk⟩
  have h2 := aOf_pos hm hk
  have a2 := aSum_ge (f := fun a => cK 2 σ (10 * a + j)) hi
  obtain ⟨e, hle⟩ := h.2.2.1.1 j hj
  have e2 : cK 2 σ (10 * i + j) = aOf 2 (σ.2.1 (10 * i + j)) := rfl
  rw [e]
  refine nI_ne0 ?_ (by omega)
  simp only [tW]
  omega
end
theorem aB_v {n : Nat} {σ : aS} {a b k : Nat} {v : Int32} (h : aB n σ) (h0 : ¬ (a = 0 ∧ b = 0 ∧ k = 0)) (hv : v = 0 ∨ v = 1) : aB n (aN σ a b k v) := by
  obtain ⟨h1, h2, h3, h4, h5⟩ := h
  refine ⟨?_, h2, h3, fun x hx => ?_, fun x y hx => ?_⟩
  · simp only [aN, z3]; rw [if_neg (by omega)]; exact h1
  · simp only [aN, z3]; split
    · exact hv
    · exact h4 x hx
  · simp only [aN, z3]; split
    · exact hv
    · exact h5 x y hx
theorem aB_o {n : Nat} {σ : aS} {a b k : Nat} {v : Int32} (h : aB n σ) (h0 : ¬ (a = 0 ∧ b = 0 ∧ (k = 0 ∨ k = 1 ∨ k = 2 ∨ k = 3 ∨ k = 21))) (hv : ¬ (a = 1 ∧ (b = 8 ∨ b = 12 ∨ b = 13 ∨ b = 16 ∨ b = 17))) : aB n (aN σ a b k v) := by
  obtain ⟨h1, h2, h3, h4, h5⟩ := h
  refine ⟨?_, h2, h3, fun x hx => ?_, fun x y hx => ?_⟩
  · simp only [aN, z3]; rw [if_neg (by omega)]; exact h1
  · simp only [aN, z3]; rw [if_neg (by omega)]; exact h4 x hx
  · simp only [aN, z3]; rw [if_neg (by omega)]; exact h5 x y hx
theorem aB_p {n : Nat} {σ τ : aS} (h : aB n σ) (e : τ.1 = σ.1) : aB n τ := by
  unfold aB at *
  rw [e]
  exact h
theorem aWM_s {n : Nat} {k : Int32} (h : k = 1 ∨ k = 2 ∨ k = 3 ∨ k = 4 ∨ k = 5) : aWM n (k, -1, -1) := Or.inl ⟨h, rfl⟩
theorem iK_pass {n p r : Nat} {N13 M13 : Nat → Int32} {c3 : Nat → Nat} (h : iK n N13 c3) (hp : p < n) (h1 : N13 p ≠ 0) (hr : r < 100) (e : ∀ x, x < n → M13 x = if x = p then 0 else N13 x) : iK n M13 (fun x => if x = r then c3 r + 1 else c3 x) := by
  unfold iK at *
  have a := aCnt_upd (f := fun x => N13 x != 0) (r := p) (b := false) hp
  have b := aSum_upd (f := c3) (r := r) (v := c3 r + 1) hr
  have c : aCnt (fun x => M13 x != 0) n = aCnt (fun x => if x = p then false else N13 x != 0) n := aCnt_cong (fun k hk => by
    rw [e k hk]
    by_cases hkp : k = p
    · simp [hkp]
    · simp [hkp])
  rw [c]
  have hb : (N13 p != 0) = true := by simp [h1]
  simp only [hb, if_true, if_false, Bool.false_eq_true] at a
  omega
theorem iK_recv {n q r : Nat} {N13 M13 : Nat → Int32} {c3 : Nat → Nat} (h : iK n N13 c3) (hq : q < n) (hr : r < 100) (h0 : 0 < c3 r) (e : ∀ x, x < n → M13 x = if x = q then 1 else N13 x) : iK n M13 (fun x => if x = r then c3 r - 1 else c3 x) := by
  unfold iK at *
  have a := aCnt_upd (f := fun x => N13 x != 0) (r := q) (b := true) hq
  have b := aSum_upd (f := c3) (r := r) (v := c3 r - 1) hr
  have d := aSum_ge (f := c3) hr
  have c : aCnt (fun x => M13 x != 0) n = aCnt (fun x => if x = q then true else N13 x != 0) n := aCnt_cong (fun k hk => by
    rw [e k hk]
    by_cases hkp : k = q
    · simp [hkp]
    · simp [hkp])
  rw [c]
  simp only [if_true] at a
  split at a <;> omega
theorem iQ_ask {n p : Nat} {N16 N17 N30 M16 : Nat → Int32} {c4 c5 : Nat → Nat} {f : Nat → Bool} (h : iQ n N16 N17 N30 c4 c5) (hn : n ≤ 10) (hp : p < n) (hz : ∀ q, q < n → N16 (10 * p + q) = 0) (hf : f p = false) (e : ∀ x, x < 100 → M16 x = if x / 10 = p ∧ x % 10 < n ∧ f (x % 10) = true then 1 else N16 x) : iQ n M16 N17 N30 (fun x => if x / 10 = p ∧ x % 10 < n ∧ f (x % 10) = true then c4 x + 1 else c4 x) c5 := by
  obtain ⟨h1, h2⟩ := h
  refine ⟨fun a b ha hb => ?_, fun a ha => ?_⟩
  · rw [e _ (by omega)]
    have d1 : (10 * a + b) / 10 = a := by omega
    have d2 : (10 * a + b) % 10 = b := by omega
    have := h1 a b ha hb
    refine ⟨?_, this.2⟩
    dsimp only
    rw [d1, d2]
    by_cases hc : a = p ∧ b < n ∧ f b = true
    · rw [if_pos hc, if_pos hc]
      obtain ⟨rfl, -, -⟩ := hc
      have h3 := this.1
      rw [hz b hb, if_pos rfl] at h3
      have h4 : (if (1 : Int32) = 0 then 0 else 1) = 1 := rfl
      rw [h4]
      omega
    · rw [if_neg hc, if_neg hc]
      exact this.1
  · rw [e _ (by omega)]
    have d2 : (10 * a + a) % 10 = a := by omega
    have d1 : (10 * a + a) / 10 = a := by omega
    rw [d1, d2, if_neg]
    · exact h2 a ha
    · rintro ⟨rfl, -, h3⟩
      rw [hf] at h3
      cases h3
theorem iQ_answer {n p q : Nat} {N16 N17 N30 M17 M30 : Nat → Int32} {c4 c5 : Nat → Nat} (h : iQ n N16 N17 N30 c4 c5) (hn : n ≤ 10) (hp : p < n) (hq : q < n) (h17 : N17 (10 * q + p) ≠ 0) (e17 : ∀ x, x < 100 → M17 x = if x = 10 * q + p then 0 else N17 x) (e30 : ∀ x, x < 100 → M30 x = if x = 10 * p + q then 1 else N30 x) : iQ n N16 M17 M30 c4 (fun x => if x = 10 * q + p then c5 (10 * q + p) + 1 else c5 x) := by
  obtain ⟨h1, h2⟩ := h
  refine ⟨fun a b ha hb => ?_, h2⟩
  rw [e17 _ (by omega), e30 _ (by omega)]
  have := h1 a b ha hb
  dsimp only
  by_cases hc : a = p ∧ b = q
  · obtain ⟨rfl, rfl⟩ := hc
    rw [if_neg h17] at this
    simp only [if_true]
    refine ⟨by omega, ?_⟩
    simp
  · rw [if_neg (show ¬ 10 * b + a = 10 * q + p by omega), if_neg (show ¬ 10 * b + a = 10 * q + p by omega), if_neg (show ¬ 10 * a + b = 10 * p + q by omega)]
    exact this
theorem iQ_req {n p q : Nat} {N16 N17 N30 M17 : Nat → Int32} {c4 c5 : Nat → Nat} (h : iQ n N16 N17 N30 c4 c5) (hn : n ≤ 10) (hp : p < n) (hq : q < n) (h4 : 0 < c4 (10 * p + q)) (e17 : ∀ x, x < 100 → M17 x = if x = 10 * q + p then 1 else N17 x) : iQ n N16 M17 N30 (fun x => if x = 10 * p + q then c4 (10 * p + q) - 1 else c4 x) c5 := by
  obtain ⟨h1, h2⟩ := h
  refine ⟨fun a b ha hb => ?_, h2⟩
  rw [e17 _ (by omega)]
  have := h1 a b ha hb
  dsimp only
  by_cases hc : a = p ∧ b = q
  · obtain ⟨rfl, rfl⟩ := hc
    simp only [if_true]
    refine ⟨?_, this.2⟩
    rw [if_neg (by decide)]
    have h3 := this.1
    split at h3 <;> split at h3 <;> simp_all <;> omega
  · rw [if_neg (show ¬ 10 * a + b = 10 * p + q by omega), if_neg (show ¬ 10 * b + a = 10 * q + p by omega)]
    exact this
theorem iQ_rep {n p q : Nat} {N16 N17 N30 M16 M30 : Nat → Int32} {c4 c5 : Nat → Nat} (h : iQ n N16 N17 N30 c4 c5) (hn : n ≤ 10) (hp : p < n) (hq : q < n) (h5 : 0 < c5 (10 * p + q)) (e16 : ∀ x, x < 100 → M16 x = if x = 10 * q + p then 0 else N16 x) (e30 : ∀ x, x < 100 → M30 x = if x = 10 * q + p then 0 else N30 x) : iQ n M16 N17 M30 c4 (fun x => if x = 10 * p + q then c5 (10 * p + q) - 1 else c5 x) := by
  obtain ⟨h1, h2⟩ := h
  refine ⟨fun a b ha hb => ?_, fun a ha => ?_⟩
  · rw [e16 _ (by omega), e30 _ (by omega)]
    have := h1 a b ha hb
    dsimp only
    by_cases hc : a = q ∧ b = p
    · obtain ⟨rfl, rfl⟩ := hc
      simp only [if_true]
      have h3 := this.1
      refine ⟨?_, ?_⟩
      · split at h3
        · next h6 => rw [if_pos h6]; split at h3 <;> omega
        · split at h3 <;> omega
      · simp
        split at h3 <;> split at h3 <;> omega
    · rw [if_neg (show ¬ 10 * a + b = 10 * q + p by omega), if_neg (show ¬ 10 * b + a = 10 * p + q by omega), if_neg (show ¬ 10 * a + b = 10 * q + p by omega)]
      exact this
  · rw [e16 _ (by omega)]
    split
    · rfl
    · exact h2 a ha
