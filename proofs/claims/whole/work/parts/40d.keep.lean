/-! ===== THE INVARIANT IS KEPT ===== -/
theorem cK_pe {k : Int32} {y : Int32 × Int32} {σ : aS} {r : Nat} : cK k (aPush σ r (k, y)) = fun x => if x = r then cK k σ r + 1 else cK k σ x := cK_push_eq rfl
theorem cK_pn {k a : Int32} {y : Int32 × Int32} {σ : aS} {r : Nat} (h : a ≠ k) : cK k (aPush σ r (a, y)) = cK k σ := cK_push_ne h
theorem cK_ae {k : Int32} {y : Int32 × Int32} {σ : aS} {p n : Nat} {f : Nat → Bool} : cK k (aAll σ p f n (k, y)) = fun x => if x / 10 = p ∧ x % 10 < n ∧ f (x % 10) = true then cK k σ x + 1 else cK k σ x := cK_all_eq rfl
theorem cK_an {k a : Int32} {y : Int32 × Int32} {σ : aS} {p n : Nat} {f : Nat → Bool} (h : a ≠ k) : cK k (aAll σ p f n (a, y)) = cK k σ := cK_all_ne h
section
variable {n : Nat} {σ : aS}
theorem aI_leave {p : Nat} (h : aI n p σ) (hp : p < n) : aI n n (aLeave n σ p) := by
  have hn := h.n10
  have hn2 := h.n2
  unfold aLeave
  by_cases hq : aQual σ p = true
  · rw [if_pos hq]
    obtain ⟨q1, q2, q3⟩ := aQual_iff.mp hq
    have q4 := h.own hp q3
    have hlen := h.len
    obtain ⟨hB, hE, hT, hK, hQ, hP⟩ := h
    by_cases hp0 : p = 0
    · subst hp0
      rw [if_pos rfl]
      have hT2 : iT n n (aN σ 0 0 2 1) := t_leave0 hT q1 q2 q4
      have hB2 : aB n (aN σ 0 0 2 1) := aB_v hB (by omega) (Or.inr rfl)
      unfold aJudge
      split
      · exact ⟨hB2, hE, hT2, hK, hQ, hP⟩
      · exact ⟨aB_o hB2 (by omega) (by omega), hE, hT2, hK, hQ, hP⟩
    · rw [if_neg hp0]
      have hj : ∃ j, j < n ∧ j ≠ p ∧ σ.1 1 9 p = nI j := by
        rcases hT.2.1 p hp hp0 with h1 | h1
        · simp [aTree, hp0, h1] at q1
        · exact h1
      obtain ⟨j, hj, hjp, ej⟩ := hj
      have er : (σ.1 1 9 p).toNatClampNeg = j := by rw [ej]; exact nI_clamp (by omega)
      rw [er]
      refine ⟨aB_o (aB_p hB rfl) (by omega) (by omega), iE_push hE (aVal_of hn hp hj (Ne.symm hjp)) (aWM_s (by simp)) (by intro hc; cases hc) (by have := hlen (10 * p + j) (by omega); omega), ?_, ?_, ?_, iP_push hP (by decide)⟩
      · refine t_cong (t_leave hT hn hp hp0 hj ej q2 q4) rfl rfl (fun _ _ => rfl) (fun x _ => ?_) (fun _ _ => rfl) (fun a b ha hb => ?_) (fun a b ha hb => ?_)
        · simp [aN, z3, aPush]
        · show cK 1 (aPush σ (10 * p + j) (2, -1, -1)) _ = _
          rw [cK_pn (by decide)]
        · show cK 2 (aPush σ (10 * p + j) (2, -1, -1)) _ = _
          rw [cK_pe]
          simp only [r_eq hn hb hj]
      · show iK n (σ.1 1 13) (cK 3 (aPush σ (10 * p + j) (2, -1, -1)))
        rw [cK_pn (by decide)]
        exact hK
      · show iQ n (σ.1 1 16) (σ.1 1 17) (σ.1 1 30) (cK 4 (aPush σ (10 * p + j) (2, -1, -1))) (cK 5 (aPush σ (10 * p + j) (2, -1, -1)))
        rw [cK_pn (by decide), cK_pn (by decide)]
        exact hQ
  · rw [if_neg hq]
    refine ⟨h.1, h.2.1, t_stay h.2.2.1 ?_, h.2.2.2⟩
    rintro ⟨q1, q2, q3⟩
    exact hq (aQual_iff.mpr ⟨q1, q2, by rw [q3]; decide⟩)
theorem aI_start (h : aI n n σ) : aI n n (fStart σ).2 := by
  have hn2 := h.n2
  unfold fStart
  split
  · next h0 =>
    refine ⟨aB_v (aB_v h.1 (by omega) (Or.inr rfl)) (by omega) (Or.inr rfl), h.2.1, ?_, h.2.2.2⟩
    refine t_cong (t_start h.2.2.1 (by omega) h0) rfl rfl (fun x _ => ?_) (fun _ _ => rfl) (fun _ _ => rfl) (fun _ _ _ _ => rfl) (fun _ _ _ _ => rfl)
    simp [aN, z3]
  · exact h
theorem aI_send {p q : Nat} (h : aI n n σ) (hp : p < n) (hq : q < n) (hpq : p ≠ q) : aI n n (fSend n σ p q).2 := by
  have hn := h.n10
  unfold fSend
  split
  · next hc =>
    obtain ⟨c1, c2, c3⟩ := hc
    have hlen := h.len
    obtain ⟨hB, hE, hT, hK, hQ, hP⟩ := h
    have c4 : σ.1 1 8 p ≠ 0 := by
      intro h8
      simp [aFree, h8] at c1
    refine ⟨aB_o (aB_o (aB_p hB rfl) (by omega) (by omega)) (by omega) (by omega), iE_push hE (aVal_of hn hp hq hpq) (aWM_s (by simp)) (fun _ => by have := hE.2.2.1 (10 * p + q) (by omega); omega) (by have := hlen (10 * p + q) (by omega); omega), ?_, ?_, ?_, iP_push hP (by decide)⟩
    · refine t_cong (t_send hT hp hq c4 c3) rfl rfl (fun _ _ => rfl) (fun _ _ => rfl) (fun x _ => ?_) (fun a b ha hb => ?_) (fun a b ha hb => ?_)
      · simp [aN, z3, aPush]
      · show cK 1 (aPush σ (10 * p + q) (1, -1, -1)) _ = _
        rw [cK_pe]
        simp only [r_eq hn hb hq]
      · show cK 2 (aPush σ (10 * p + q) (1, -1, -1)) _ = _
        rw [cK_pn (by decide)]
    · show iK n (σ.1 1 13) (cK 3 (aPush σ (10 * p + q) (1, -1, -1)))
      rw [cK_pn (by decide)]
      exact hK
    · show iQ n (σ.1 1 16) (σ.1 1 17) (σ.1 1 30) (cK 4 (aPush σ (10 * p + q) (1, -1, -1))) (cK 5 (aPush σ (10 * p + q) (1, -1, -1)))
      rw [cK_pn (by decide), cK_pn (by decide)]
      exact hQ
  · exact h
theorem aI_rest {p : Nat} (h : aI n n σ) (hp : p < n) : aI n n (fRest n σ p).2 := by
  unfold fRest
  split
  · refine aI_leave ⟨aB_v h.1 (by omega) (Or.inl rfl), h.2.1, ?_, h.2.2.2⟩ hp
    refine t_cong (t_rest (p := p) h.2.2.1) rfl rfl (fun x _ => ?_) (fun _ _ => rfl) (fun _ _ => rfl) (fun _ _ _ _ => rfl) (fun _ _ _ _ => rfl)
    simp [aN, z3]
  · exact h
theorem aWf_0 {p : Nat} (h : aWf σ n p = 0) : ∀ q, q < n → σ.1 1 16 (10 * p + q) = 0 := by
  intro q hq
  simpa using aCnt_zero.mp h q hq
theorem aI_ask {p : Nat} {mask : Int32} (h : aI n n σ) (hp : p < n) : aI n n (fAsk n σ p mask).2 := by
  have hn := h.n10
  unfold fAsk
  split
  · next hc =>
    have hlen := h.len
    obtain ⟨hB, hE, hT, hK, hQ, hP⟩ := h
    have hz : aWf σ n p = 0 := by
      have := hc.1
      simp [aFree] at this
      exact this.2
    have hf : aAsks p mask p = false := by simp [aAsks]
    refine ⟨?_, iE_all (σ := aRowSet σ 16 p (aAsks p mask) n 1) hE hn hp hf (aWM_s (by simp)) (by decide) (fun r hr => by have := hlen r hr; exact Nat.le_trans this (by decide)), ?_, ?_, ?_, iP_all hP (by decide)⟩
    · refine aB_p (σ := aRowSet σ 16 p (aAsks p mask) n 1) ?_ rfl
      obtain ⟨h1, h2, h3, h4, h5⟩ := hB
      refine ⟨by simp [aRowSet, h1], h2, h3, fun k hk => by simpa [aRowSet] using h4 k hk, fun k j hk => ?_⟩
      simp only [aRowSet]
      split
      · exact Or.inr rfl
      · exact h5 k j hk
    · refine t_cong hT rfl rfl (fun _ _ => rfl) (fun _ _ => rfl) (fun _ _ => rfl) (fun a b ha hb => ?_) (fun a b ha hb => ?_)
      · show cK 1 (aAll (aRowSet σ 16 p (aAsks p mask) n 1) p (aAsks p mask) n (4, -1, -1)) _ = _
        rw [cK_an (by decide)]
        rfl
      · show cK 2 (aAll (aRowSet σ 16 p (aAsks p mask) n 1) p (aAsks p mask) n (4, -1, -1)) _ = _
        rw [cK_an (by decide)]
        rfl
    · show iK n (σ.1 1 13) (cK 3 (aAll (aRowSet σ 16 p (aAsks p mask) n 1) p (aAsks p mask) n (4, -1, -1)))
      rw [cK_an (by decide)]
      exact hK
    · rw [cK_ae, cK_an (by decide)]
      exact iQ_ask (N16 := σ.1 1 16) hQ hn hp (aWf_0 hz) hf (fun x _ => by simp [aRowSet, aAll])
  · exact h
theorem aI_answer {q p : Nat} (h : aI n n σ) (hq : q < n) (hp : p < n) : aI n n (fAnswer n σ q p).2 := by
  have hn := h.n10
  unfold fAnswer
  split
  · next hc =>
    have hlen := h.len
    have hd := h.dg (i := p) hp
    obtain ⟨hB, hE, hT, hK, hQ, hP⟩ := h
    have hqp : q ≠ p := by
      rintro rfl
      exact hc.2 hd.2
    refine ⟨aB_p (aB_o (aB_v hB (a := 1) (b := 17) (k := 10 * q + p) (v := 0) (by omega) (Or.inl rfl)) (a := 1) (b := 30) (k := 10 * p + q) (v := 1) (by omega) (by omega)) rfl, iE_push (σ := aN (aN σ 1 17 (10 * q + p) 0) 1 30 (10 * p + q) 1) hE (aVal_of hn hq hp hqp) (aWM_s (by simp)) (by intro hc; cases hc) (by have := hlen (10 * q + p) (by omega); exact Nat.le_trans this (by decide)), ?_, ?_, ?_, iP_push hP (by decide)⟩
    · refine t_cong hT rfl rfl (fun _ _ => rfl) (fun _ _ => rfl) (fun _ _ => rfl) (fun a b ha hb => ?_) (fun a b ha hb => ?_)
      · dsimp only
        rw [cK_pn (by decide)]
        rfl
      · dsimp only
        rw [cK_pn (by decide)]
        rfl
    · rw [cK_pn (by decide)]
      exact hK
    · rw [cK_pe, cK_pn (by decide)]
      exact iQ_answer (N17 := σ.1 1 17) (N30 := σ.1 1 30) hQ hn hp hq hc.2 (fun x _ => by simp [aPush, aN, z3]) (fun x _ => by simp [aPush, aN, z3])
  · exact h
theorem aI_probe {p : Nat} (h : aI n n σ) (hp : p < n) : aI n n (fProbe n σ p).2 := by
  have hn := h.n10
  unfold fProbe
  split
  · next hc =>
    have hlen := h.len
    have hd := h.dg (i := p) hp
    obtain ⟨k, hk, ek⟩ := h.ok.pr p hp
    obtain ⟨hB, hE, hT, hK, hQ, hP⟩ := h
    have hk50 : k ≠ 50 := fun e => hc.2 (by rw [ek, e]; rfl)
    rw [ek, nI_1]
    have hf : aWaits σ p p = false := by simp [aWaits, hd.1]
    refine ⟨aB_p (aB_o hB (a := 1) (b := 15) (k := p) (v := nI (k + 1)) (by omega) (by omega)) rfl, iE_all (σ := aN σ 1 15 p (nI (k + 1))) hE hn hp hf (Or.inr ⟨rfl, p, hp, rfl, k + 1, by omega, rfl⟩) (show (6 : Int32) ≠ 1 by decide) (fun r hr => by have := hlen r hr; exact Nat.le_trans this (by decide)), ?_, ?_, ?_, ?_⟩
    · refine t_cong hT rfl rfl (fun _ _ => rfl) (fun _ _ => rfl) (fun _ _ => rfl) (fun a b ha hb => ?_) (fun a b ha hb => ?_)
      · dsimp only
        rw [cK_an (by decide)]
        rfl
      · dsimp only
        rw [cK_an (by decide)]
        rfl
    · rw [cK_an (by decide)]
      exact hK
    · rw [cK_an (by decide), cK_an (by decide)]
      exact hQ
    · exact iP_probe (N15 := σ.1 1 15) (N18 := σ.1 1 18) (σ := aN σ 1 15 p (nI (k + 1))) hP hn hp hp (by omega) (Or.inl ⟨rfl, ⟨k, ek, by omega⟩, fun x _ => by simp [aAll, aN, z3], fun x _ => rfl⟩)
  · exact h
theorem aI_judge {p0 : Nat} {τ : aS} (h : aI n p0 τ) : aI n p0 (aJudge n τ) := by
  unfold aJudge
  split
  · exact h
  · exact ⟨aB_o h.1 (by omega) (by omega), h.2.1, h.2.2.1, h.2.2.2⟩
theorem aI_num {p0 k : Nat} {v : Int32} {τ : aS} (h : aI n p0 τ) (hk : ¬ (k = 0 ∨ k = 1 ∨ k = 2 ∨ k = 3 ∨ k = 21)) : aI n p0 (aN τ 0 0 k v) := by
  refine ⟨aB_o h.1 (by omega) (by omega), h.2.1, ?_, h.2.2.2⟩
  refine t_cong h.2.2.1 ?_ ?_ (fun _ _ => rfl) (fun _ _ => rfl) (fun _ _ => rfl) (fun _ _ _ _ => rfl) (fun _ _ _ _ => rfl)
  · simp only [aN, z3]; rw [if_neg (by omega)]
  · simp only [aN, z3]; rw [if_neg (by omega)]
/-- the token goes on -/
theorem aI_tok {p q : Nat} {τ : aS} (h : aI n n τ) (hp : p < n) (hq : q < n) (hpq : p ≠ q) (h13 : τ.1 1 13 p ≠ 0) : aI n n (aPush (aN (aN τ 1 12 p 0) 1 13 p 0) (10 * p + q) (3, -1, -1)) := by
  have hn := h.n10
  have hlen := h.len
  obtain ⟨hB, hE, hT, hK, hQ, hP⟩ := h
  refine ⟨aB_p (aB_v (aB_v hB (a := 1) (b := 12) (k := p) (v := 0) (by omega) (Or.inl rfl)) (a := 1) (b := 13) (k := p) (v := 0) (by omega) (Or.inl rfl)) rfl, iE_push (σ := aN (aN τ 1 12 p 0) 1 13 p 0) hE (aVal_of hn hp hq hpq) (aWM_s (by simp)) (by intro hc; cases hc) (by have := hlen (10 * p + q) (by omega); exact Nat.le_trans this (by decide)), ?_, ?_, ?_, iP_push hP (by decide)⟩
  · refine t_cong hT rfl rfl (fun _ _ => rfl) (fun _ _ => rfl) (fun _ _ => rfl) (fun a b ha hb => ?_) (fun a b ha hb => ?_)
    · rw [cK_pn (by decide)]
      rfl
    · rw [cK_pn (by decide)]
      rfl
  · rw [cK_pe]
    exact iK_pass (N13 := τ.1 1 13) hK hp h13 (by omega) (fun x _ => by simp [aPush, aN, z3])
  · rw [cK_pn (by decide), cK_pn (by decide)]
    exact hQ
end
