section
variable {n : Nat} {σ : aS}
/-- a number that the invariant doesn't look at -/
theorem aI_oth {p0 a b k : Nat} {v : Int32} {τ : aS} (h : aI n p0 τ) (ha : a = 1) (hb : b = 11 ∨ b = 14) : aI n p0 (aN τ a b k v) := by
  subst ha
  rcases hb with rfl | rfl
  · exact ⟨aB_o h.1 (by omega) (by omega), h.2.1, h.2.2.1, h.2.2.2⟩
  · exact ⟨aB_o h.1 (by omega) (by omega), h.2.1, h.2.2.1, h.2.2.2⟩
theorem aI_21 {p0 : Nat} {v : Int32} {τ : aS} (h : aI n p0 τ) (hv : v = 0 ∨ v = 1) : aI n p0 (aN τ 0 0 21 v) := ⟨aB_v h.1 (by omega) hv, h.2.1, h.2.2.1, h.2.2.2⟩
theorem aI_3 {p0 : Nat} {v : Int32} {τ : aS} (h : aI n p0 τ) (hv : v = 0 ∨ v = 1) : aI n p0 (aN τ 0 0 3 v) := ⟨aB_v h.1 (by omega) hv, h.2.1, h.2.2.1, h.2.2.2⟩
theorem aI_12 {p0 k : Nat} {v : Int32} {τ : aS} (h : aI n p0 τ) (hv : v = 0 ∨ v = 1) : aI n p0 (aN τ 1 12 k v) := ⟨aB_v h.1 (by omega) hv, h.2.1, h.2.2.1, h.2.2.2⟩
theorem aN_comm {τ : aS} {a b k a' b' k' : Nat} {v v' : Int32} (h : ¬ (a = a' ∧ b = b' ∧ k = k')) : aN (aN τ a b k v) a' b' k' v' = aN (aN τ a' b' k' v') a b k v := by
  simp only [aN, Prod.mk.injEq, and_true]
  funext x y z
  simp only [z3]
  by_cases h1 : x = a ∧ y = b ∧ z = k
  · obtain ⟨rfl, rfl, rfl⟩ := h1
    rw [if_neg h, if_pos ⟨rfl, rfl, rfl⟩, if_pos ⟨rfl, rfl, rfl⟩]
  · rw [if_neg h1, if_neg h1]
theorem aI_pass {p : Nat} (h : aI n n σ) (hp : p < n) : aI n n (fPass n σ p).2 := by
  have hn := h.n10
  have hn2 := h.n2
  unfold fPass
  split
  · exact h
  · next hc =>
    have h13 : σ.1 1 13 p ≠ 0 := fun e => hc (Or.inl e)
    split
    · next hp0 =>
      refine aI_tok (τ := aN (aN σ 0 0 20 (σ.1 0 0 20 + σ.1 1 11 p)) 0 0 21 (if σ.1 0 0 21 ≠ 0 then 1 else if σ.1 1 12 p ≠ 0 then 1 else 0)) (aI_21 (aI_num h (by omega)) ?_) hp (by omega) (by omega) h13
      split
      · exact Or.inr rfl
      · split
        · exact Or.inr rfl
        · exact Or.inl rfl
    · next hp0 =>
      have hp1 : p = 0 := by omega
      subst hp1
      split
      · exact aI_judge (aI_3 h (Or.inr rfl))
      · rw [aN_comm (a := 1) (b := 12) (a' := 0) (by omega), aN_comm (a := 1) (b := 12) (a' := 0) (by omega)]
        exact aI_tok (τ := aN (aN (aN σ 0 0 19 (σ.1 0 0 19 + 1)) 0 0 21 0) 0 0 20 0) (aI_num (aI_21 (aI_num h (by omega)) (Or.inl rfl)) (by omega)) hp (by omega) (by omega) h13
theorem cK_te {k : Int32} {y : Int32 × Int32} {r : Nat} {tl : List aM} (hL : σ.2.1 r = (k, y) :: tl) : cK k (aTail σ r) = (fun x => if x = r then cK k σ r - 1 else cK k σ x) := (cK_tail_eq hL rfl).1
theorem cK_tp {k : Int32} {y : Int32 × Int32} {r : Nat} {tl : List aM} (hL : σ.2.1 r = (k, y) :: tl) : 0 < cK k σ r := (cK_tail_eq hL rfl).2
theorem cK_tn {k a : Int32} {y : Int32 × Int32} {r : Nat} {tl : List aM} (hL : σ.2.1 r = (a, y) :: tl) (h : a ≠ k) : cK k (aTail σ r) = cK k σ := cK_tail_ne hL h
theorem len_tail {r x : Nat} (h : ∀ r, r < 100 → (σ.2.1 r).length ≤ 623) (hx : x < 100) : ((aTail σ r).2.1 x).length ≤ 623 := by
  have := h x hx
  simp only [aTail]
  split
  · next e => subst e; rw [List.length_tail]; omega
  · exact this
theorem aI_work {p q : Nat} {y : Int32 × Int32} {tl : List aM} (h : aI n n σ) (hp : p < n) (hq : q < n) (hpq : p ≠ q) (hL : σ.2.1 (10 * p + q) = (1, y) :: tl) : aI n n (aWork (aTail σ (10 * p + q)) p q) := by
  have hn := h.n10
  have hlen := len_tail (r := 10 * p + q) h.len (show 10 * q + p < 100 by omega)
  obtain ⟨hB, hE, hT, hK, hQ, hP⟩ := h
  have hpos : 0 < cK 1 σ (10 * p + q) := cK_tp hL
  have hB2 : aB n (aN (aN (aN (aTail σ (10 * p + q)) 1 8 q 1) 1 12 q 1) 1 11 q ((aTail σ (10 * p + q)).1 1 11 q - 1)) := aB_o (aB_v (aB_v (aB_p hB rfl) (by omega) (Or.inr rfl)) (by omega) (Or.inr rfl)) (by omega) (by omega)
  have hE2 := iE_tail (r := 10 * p + q) hE
  unfold aWork
  dsimp only
  by_cases ht : aTree (aN (aN (aN (aTail σ (10 * p + q)) 1 8 q 1) 1 12 q 1) 1 11 q ((aTail σ (10 * p + q)).1 1 11 q - 1)) q = true
  · rw [if_pos ht]
    have ht : tIn (σ.1 0 0 1) (σ.1 0 0 2) (σ.1 1 9) q = true := ht
    refine ⟨aB_p hB2 rfl, iE_push (σ := aN (aN (aN (aTail σ (10 * p + q)) 1 8 q 1) 1 12 q 1) 1 11 q ((aTail σ (10 * p + q)).1 1 11 q - 1)) hE2 (aVal_of hn hq hp (Ne.symm hpq)) (aWM_s (by simp)) (by intro hc; cases hc) (Nat.le_trans hlen (by decide)), ?_, ?_, ?_, iP_push (iP_tail hP) (by decide)⟩
    · refine t_cong (t_work1 hT hp hq hpos ht) rfl rfl (fun x _ => ?_) (fun _ _ => rfl) (fun _ _ => rfl) (fun a b ha hb => ?_) (fun a b ha hb => ?_)
      · simp [aPush, aN, z3, aTail]
      · rw [cK_pn (by decide)]
        show cK 1 (aTail σ (10 * p + q)) _ = _
        rw [cK_te hL]
        simp only [r_eq hn hb hq]
      · rw [cK_pe]
        show (if _ then cK 2 (aTail σ (10 * p + q)) _ + 1 else cK 2 (aTail σ (10 * p + q)) _) = _
        rw [cK_tn hL (by decide)]
        simp only [r_eq hn hb hp]
    · rw [cK_pn (by decide)]
      show iK n (σ.1 1 13) (cK 3 (aTail σ (10 * p + q)))
      rw [cK_tn hL (by decide)]
      exact hK
    · rw [cK_pn (by decide), cK_pn (by decide)]
      show iQ n (σ.1 1 16) (σ.1 1 17) (σ.1 1 30) (cK 4 (aTail σ (10 * p + q))) (cK 5 (aTail σ (10 * p + q)))
      rw [cK_tn hL (by decide), cK_tn hL (by decide)]
      exact hQ
  · rw [if_neg ht]
    have ht : ¬ tIn (σ.1 0 0 1) (σ.1 0 0 2) (σ.1 1 9) q = true := ht
    have hq0 : q ≠ 0 := by
      rintro rfl
      have := t_root hT hn (by simpa using ht) p hp 0 hq
      omega
    refine ⟨aB_o hB2 (by omega) (by omega), hE2, ?_, ?_, ?_, iP_tail hP⟩
    · refine t_cong (t_work2 hT hn hp hq hpq hq0 hpos (by simpa using ht)) rfl rfl (fun x _ => ?_) (fun x _ => ?_) (fun _ _ => rfl) (fun a b ha hb => ?_) (fun a b ha hb => ?_)
      · simp [aN, z3, aTail]
      · simp [aN, z3, aTail]
      · show cK 1 (aTail σ (10 * p + q)) _ = _
        rw [cK_te hL]
        simp only [r_eq hn hb hq]
      · show cK 2 (aTail σ (10 * p + q)) _ = _
        rw [cK_tn hL (by decide)]
    · show iK n (σ.1 1 13) (cK 3 (aTail σ (10 * p + q)))
      rw [cK_tn hL (by decide)]
      exact hK
    · show iQ n (σ.1 1 16) (σ.1 1 17) (σ.1 1 30) (cK 4 (aTail σ (10 * p + q))) (cK 5 (aTail σ (10 * p + q)))
      rw [cK_tn hL (by decide), cK_tn hL (by decide)]
      exact hQ
theorem iT_tail {a : Int32} {y : Int32 × Int32} {r : Nat} {tl : List aM} (hT : iT n n σ) (hL : σ.2.1 r = (a, y) :: tl) (h1 : a ≠ 1) (h2 : a ≠ 2) : iT n n (aTail σ r) := by
  unfold iT
  rw [cK_tn hL h1, cK_tn hL h2]
  exact hT
theorem aI_dead {p0 i : Nat} {τ : aS} (h : aI n p0 τ) : aI n p0 (aDead n τ i) := by
  unfold aDead
  dsimp only
  have h1 := aI_num (k := 7) (v := τ.1 0 0 7 + 1) (aI_oth (k := i) (v := τ.1 1 14 i + 1) h rfl (Or.inr rfl)) (by omega)
  split
  · exact aI_num h1 (by omega)
  · exact h1
theorem aI_take {p q : Nat} {m : aM} {tl : List aM} (h : aI n n σ) (hp : p < n) (hq : q < n) (hpq : p ≠ q) (hL : σ.2.1 (10 * p + q) = m :: tl) : aI n q (aTake n (aTail σ (10 * p + q)) p q m) := by
  have hn := h.n10
  have hr : 10 * p + q < 100 := by omega
  have hwm := h.2.1.2.1 (10 * p + q) hr m (by rw [hL]; exact List.mem_cons_self ..)
  have hlen : ∀ x, x < 100 → ((aTail σ (10 * p + q)).2.1 x).length ≤ 640 := fun x hx => Nat.le_trans (len_tail (r := 10 * p + q) h.len hx) (by decide)
  obtain ⟨k, y⟩ := m
  have hE2 := iE_tail (r := 10 * p + q) h.2.1
  rcases hwm with ⟨hk, -⟩ | ⟨h6, i, hi, h1, u, hu, h2⟩
  · rcases hk with hk | hk | hk | hk | hk
    · have hk : k = 1 := hk
      subst hk
      rw [aTake_1 rfl]
      exact (aI_work h hp hq hpq hL).weak q
    · have hk : k = 2 := hk
      subst hk
      rw [aTake_2 rfl]
      obtain ⟨hB, hE, hT, hK, hQ, hP⟩ := h
      refine ⟨aB_o (aB_p hB rfl) (by omega) (by omega), hE2, ?_, ?_, ?_, iP_tail hP⟩
      · refine t_cong (t_ack hT hp hq (cK_tp hL)).1 rfl rfl (fun _ _ => rfl) (fun _ _ => rfl) (fun x _ => ?_) (fun a b ha hb => ?_) (fun a b ha hb => ?_)
        · simp [aN, z3, aTail]
        · show cK 1 (aTail σ (10 * p + q)) _ = _
          rw [cK_tn hL (by decide)]
        · show cK 2 (aTail σ (10 * p + q)) _ = _
          rw [cK_te hL]
          simp only [r_eq hn hb hq]
      · show iK n (σ.1 1 13) (cK 3 (aTail σ (10 * p + q)))
        rw [cK_tn hL (by decide)]
        exact hK
      · show iQ n (σ.1 1 16) (σ.1 1 17) (σ.1 1 30) (cK 4 (aTail σ (10 * p + q))) (cK 5 (aTail σ (10 * p + q)))
        rw [cK_tn hL (by decide), cK_tn hL (by decide)]
        exact hQ
    · have hk : k = 3 := hk
      subst hk
      rw [aTake_3 rfl]
      obtain ⟨hB, hE, hT, hK, hQ, hP⟩ := h
      refine aI.weak (n := n) ?_ q
      refine ⟨aB_v (aB_p hB rfl) (by omega) (Or.inr rfl), hE2, iT_tail hT hL (by decide) (by decide), ?_, ?_, iP_tail hP⟩
      · show iK n _ (cK 3 (aTail σ (10 * p + q)))
        rw [cK_te hL]
        exact iK_recv (N13 := σ.1 1 13) hK hq hr (cK_tp hL) (fun x _ => by simp [aN, z3, aTail])
      · show iQ n (σ.1 1 16) (σ.1 1 17) (σ.1 1 30) (cK 4 (aTail σ (10 * p + q))) (cK 5 (aTail σ (10 * p + q)))
        rw [cK_tn hL (by decide), cK_tn hL (by decide)]
        exact hQ
    · have hk : k = 4 := hk
      subst hk
      rw [aTake_4 rfl]
      obtain ⟨hB, hE, hT, hK, hQ, hP⟩ := h
      refine aI.weak (n := n) ?_ q
      refine ⟨aB_v (aB_p hB rfl) (by omega) (Or.inr rfl), hE2, iT_tail hT hL (by decide) (by decide), ?_, ?_, iP_tail hP⟩
      · show iK n (σ.1 1 13) (cK 3 (aTail σ (10 * p + q)))
        rw [cK_tn hL (by decide)]
        exact hK
      · show iQ n (σ.1 1 16) _ (σ.1 1 30) (cK 4 (aTail σ (10 * p + q))) (cK 5 (aTail σ (10 * p + q)))
        rw [cK_te hL, cK_tn hL (by decide)]
        exact iQ_req (N17 := σ.1 1 17) hQ hn hp hq (cK_tp hL) (fun x _ => by simp [aN, z3, aTail])
    · have hk : k = 5 := hk
      subst hk
      rw [aTake_5 rfl]
      obtain ⟨hB, hE, hT, hK, hQ, hP⟩ := h
      refine aI.weak (n := n) ?_ q
      refine ⟨aB_o (aB_v (aB_p hB rfl) (by omega) (Or.inl rfl)) (by omega) (by omega), hE2, iT_tail hT hL (by decide) (by decide), ?_, ?_, iP_tail hP⟩
      · show iK n (σ.1 1 13) (cK 3 (aTail σ (10 * p + q)))
        rw [cK_tn hL (by decide)]
        exact hK
      · show iQ n _ (σ.1 1 17) _ (cK 4 (aTail σ (10 * p + q))) (cK 5 (aTail σ (10 * p + q)))
        rw [cK_te hL, cK_tn hL (by decide)]
        exact iQ_rep (N16 := σ.1 1 16) (N30 := σ.1 1 30) hQ hn hp hq (cK_tp hL) (fun x _ => by simp [aN, z3, aTail]) (fun x _ => by simp [aN, z3, aTail])
  · have h6 : k = 6 := h6
    subst h6
    obtain ⟨y1, y2⟩ := y
    have h1 : y1 = nI i := h1
    have h2 : y2 = nI u := h2
    subst h1 h2
    rw [aTake_6 rfl]
    dsimp only
    rw [nI_clamp (by omega)]
    have hd := h.dg (i := q) hq
    have h0 : aI n n (aTail σ (10 * p + q)) := by
      obtain ⟨hB, hE, hT, hK, hQ, hP⟩ := h
      refine ⟨aB_p hB rfl, hE2, iT_tail hT hL (by decide) (by decide), ?_, ?_, iP_tail hP⟩
      · rw [cK_tn hL (by decide)]
        exact hK
      · rw [cK_tn hL (by decide), cK_tn hL (by decide)]
        exact hQ
    have hle : ∀ v, v ≤ 50 → σ.1 1 15 i = nI v → u ≤ v := by
      intro v hv e
      obtain ⟨pb, mt, a, b, c, d⟩ := h.2.2.2.2.2
      obtain ⟨w, ew, hw⟩ := c (10 * p + q) hr (6, nI i, nI u) (by rw [hL]; exact List.mem_cons_self ..) rfl i hi rfl
      have e1 := a i hi
      have : u = w := (nI_eq (by omega) (by omega)).mp ew
      have : v = pb i := (nI_eq (by omega) (by omega)).mp (e.symm.trans e1.1)
      omega
    refine aI.weak ?_ q
    unfold aProbed
    split
    · exact h0
    · split
      · exact aI_dead h0
      · next hqi =>
        split
        · next hlt =>
          obtain ⟨hB, hE, hT, hK, hQ, hP⟩ := h0
          have hf : aWaits (aTail σ (10 * p + q)) q q = false := by simp [aWaits, aTail, hd.1]
          refine ⟨aB_p (aB_o hB (a := 1) (b := 18) (k := 10 * q + i) (v := nI u) (by omega) (by omega)) rfl, iE_all (σ := aN (aTail σ (10 * p + q)) 1 18 (10 * q + i) (nI u)) hE hn hq hf (Or.inr ⟨rfl, i, hi, rfl, u, hu, rfl⟩) (show (6 : Int32) ≠ 1 by decide) hlen, ?_, ?_, ?_, ?_⟩
          · refine t_cong hT rfl rfl (fun _ _ => rfl) (fun _ _ => rfl) (fun _ _ => rfl) (fun a b ha hb => ?_) (fun a b ha hb => ?_)
            · rw [cK_an (by decide)]
              rfl
            · rw [cK_an (by decide)]
              rfl
          · rw [cK_an (by decide)]
            exact hK
          · rw [cK_an (by decide), cK_an (by decide)]
            exact hQ
          · refine iP_probe (N15 := σ.1 1 15) (N18 := σ.1 1 18) (σ := aN (aTail σ (10 * p + q)) 1 18 (10 * q + i) (nI u)) hP hn hq hi (by omega) (Or.inr ⟨fun e => hqi e.symm, hle, fun v hv e => ?_, fun _ _ => rfl, fun x _ => by simp [aAll, aN, z3, aTail]⟩)
            have hlt : σ.1 1 18 (10 * q + i) < nI u := hlt
            rw [e] at hlt
            exact (nI_ltI (by omega) (by omega)).mp hlt
        · exact h0
theorem aI_recv {p q : Nat} (h : aI n n σ) (hp : p < n) (hq : q < n) (hpq : p ≠ q) : aI n n (fRecv n σ p q).2 := by
  unfold fRecv
  split
  · exact h
  · next m tl hL =>
    refine aI_leave ?_ hq
    have h2 : aI n n (aN σ 0 0 6 (σ.1 0 0 6 + 1)) := aI_num h (by omega)
    exact aI_take (σ := aN σ 0 0 6 (σ.1 0 0 6 + 1)) h2 hp hq hpq hL
theorem aI_step {k : Nat} (h : aI n n σ) (hk : k < n * n) : aI n n (fStep n σ k).2 := by
  have hn2 := h.n2
  have h1 : k / n < n := Nat.div_lt_of_lt_mul hk
  have h2 : k % n < n := Nat.mod_lt _ (by omega)
  unfold fStep
  split
  · exact aI_pass h h1
  · next e => exact aI_recv h h1 h2 e
theorem aI_run {g : Int32 → Int32} {hh : Int32 → Nat} {s : Int32} (hH1 : hH n hh) (h : aI n n σ) : ∀ t, aI n n (aRun g hh n s σ t).2.2
  | 0 => h
  | t + 1 => by
    have hn2 := h.n2
    have := aI_run hH1 h (g := g) (s := s) t
    refine aI_step this ?_
    rw [hH1]
    exact Nat.mod_lt _ (Nat.mul_pos (by omega) (by omega))
end
