/-! ===== THE TREE, by itself: numbers as functions ===== -/
def tIn (g1 g2 : Int32) (N9 : Nat → Int32) (q : Nat) : Bool := if q = 0 then g1 != 0 && g2 == 0 else N9 q != -1
def tKids (n : Nat) (N9 : Nat → Int32) (p : Nat) : Nat := aCnt (fun q => q != 0 && N9 q == nI p) n
def tW (n : Nat) (N9 : Nat → Int32) (c1 c2 : Nat → Nat → Nat) (p : Nat) : Nat := aSum (fun q => c1 p q) n + aSum (fun q => c2 q p) n + tKids n N9 p
/-- the tree but for being settled at p0 (p0 = n: everywhere settled) -/
def tInv (n p0 : Nat) (g1 g2 : Int32) (N8 N9 N10 : Nat → Int32) (c1 c2 : Nat → Nat → Nat) : Prop :=
  (∀ p, p < n → N10 p = nI (tW n N9 c1 c2 p) ∧ tW n N9 c1 c2 p ≤ 100) ∧
  (∀ q, q < n → q ≠ 0 → N9 q = -1 ∨ ∃ j, j < n ∧ j ≠ q ∧ N9 q = nI j) ∧
  (∀ q, q < n → tIn g1 g2 N9 q = false → N8 q = 0 ∧ N10 q = 0) ∧
  (∀ q, q < n → q ≠ p0 → tIn g1 g2 N9 q = true → N8 q = 0 → N10 q ≠ 0) ∧
  (g2 ≠ 0 → g1 ≠ 0) ∧
  ∃ rk : Nat → Nat, ∀ q, q < n → q ≠ 0 → ∀ j, j < n → N9 q = nI j → rk j < rk q
theorem m1_ne {j : Nat} (hj : j < 2 ^ 31) : ¬ ((-1 : Int32) = nI j) := by
  intro hc
  have := nI_pos hj
  rw [← hc] at this
  exact this (by decide)
theorem aSum_ge {f : Nat → Nat} {r : Nat} : ∀ {n : Nat}, r < n → f r ≤ aSum f n
  | 0, h => absurd h (Nat.not_lt_zero _)
  | n + 1, h => by
    simp only [aSum]
    by_cases hr : r = n
    · subst hr; omega
    · have := aSum_ge (f := f) (r := r) (n := n) (by omega)
      omega
theorem aCnt_pos {f : Nat → Bool} {r n : Nat} (hr : r < n) (h : f r = true) : 0 < aCnt f n := by
  rcases Nat.eq_zero_or_pos (aCnt f n) with h0 | h0
  · have := aCnt_zero.mp h0 r hr
    rw [h] at this
    cases this
  · exact h0
theorem aCnt_upd {f : Nat → Bool} {r : Nat} {b : Bool} : ∀ {n : Nat}, r < n → aCnt (fun x => if x = r then b else f x) n + (if f r then 1 else 0) = aCnt f n + (if b then 1 else 0)
  | 0, h => absurd h (Nat.not_lt_zero _)
  | n + 1, h => by
    simp only [aCnt]
    by_cases hr : r = n
    · subst hr
      rw [aCnt_cong (f := fun x => if x = r then b else f x) (g := f) (fun k hk => by
        have : ¬ k = r := by omega
        simp [this])]
      simp
      omega
    · have ih := aCnt_upd (f := f) (r := r) (b := b) (n := n) (by omega)
      have : ¬ n = r := fun h => hr h.symm
      simp only [this, if_false]
      omega
section TREE
variable {n p0 : Nat} {g1 g2 : Int32} {N8 N9 N10 : Nat → Int32} {c1 c2 : Nat → Nat → Nat}
/-- the root is out of the tree: nobody is in it, and no work is under way -/
theorem t_root (h : tInv n p0 g1 g2 N8 N9 N10 c1 c2) (hn : n ≤ 10) (h0 : tIn g1 g2 N9 0 = false) : ∀ p, p < n → ∀ q, q < n → c1 p q = 0 := by
  obtain ⟨h1, h2, h3, -, -, rk, h5⟩ := h
  have key : ∀ (d q : Nat), rk q < d → q < n → q ≠ 0 → N9 q = -1 := by
    intro d
    induction d with
    | zero => intro q hd; exact absurd hd (Nat.not_lt_zero _)
    | succ d ih =>
      intro q hd hq hq0
      rcases h2 q hq hq0 with h | ⟨j, hj, hjq, e⟩
      · exact h
      · exfalso
        have hk : 0 < tKids n N9 j := aCnt_pos hq (by simp [hq0, e])
        have hw : 0 < tW n N9 c1 c2 j := by unfold tW; omega
        have hout : tIn g1 g2 N9 j = false := by
          by_cases hj0 : j = 0
          · subst hj0; exact h0
          · have := ih j (by have := h5 q hq hq0 j hj e; omega) hj hj0
            simp [tIn, hj0, this]
        have hz := (h3 j hj hout).2
        rw [(h1 j hj).1] at hz
        have := (nI_eq (b := 0) (by have := (h1 j hj).2; omega) (by decide)).mp hz
        omega
  intro p hp q hq
  have hout : tIn g1 g2 N9 p = false := by
    by_cases hp0 : p = 0
    · subst hp0; exact h0
    · simp [tIn, hp0, key _ p (Nat.lt_succ_self _) hp hp0]
  have hz := (h3 p hp hout).2
  rw [(h1 p hp).1] at hz
  have hw := (nI_eq (b := 0) (by have := (h1 p hp).2; omega) (by decide)).mp hz
  have := aSum_ge (f := fun q => c1 p q) hq
  unfold tW at hw
  omega
theorem t_weak (h : tInv n n g1 g2 N8 N9 N10 c1 c2) (p : Nat) : tInv n p g1 g2 N8 N9 N10 c1 c2 :=
  ⟨h.1, h.2.1, h.2.2.1, fun q hq _ => h.2.2.2.1 q hq (by omega), h.2.2.2.2.1, h.2.2.2.2.2⟩
theorem t_start (h : tInv n n g1 g2 N8 N9 N10 c1 c2) (hn : 0 < n) (hg : g1 = 0) : tInv n n 1 g2 (fun x => if x = 0 then 1 else N8 x) N9 N10 c1 c2 := by
  obtain ⟨h1, h2, h3, h4, h5, h6⟩ := h
  have hg2 : g2 = 0 := Classical.byContradiction (fun hc => h5 hc hg)
  refine ⟨h1, h2, fun q hq ht => ?_, fun q hq hq0 ht h8 => ?_, fun _ => by decide, h6⟩
  · by_cases hq0 : q = 0
    · subst hq0; simp [tIn, hg2] at ht
    · have := h3 q hq (by simpa [tIn, hq0] using ht)
      simpa [hq0] using this
  · by_cases hq1 : q = 0
    · subst hq1; simp at h8
    · refine h4 q hq hq0 (by simpa [tIn, hq1] using ht) (by simpa [hq1] using h8)
/-- one more work from p to q: p is owed one more -/
theorem t_send {p q : Nat} (h : tInv n n g1 g2 N8 N9 N10 c1 c2) (hp : p < n) (hq : q < n) (ha : N8 p ≠ 0) (ho : N10 p ≠ 100) : tInv n n g1 g2 N8 N9 (fun x => if x = p then N10 p + 1 else N10 x) (fun a b => if a = p ∧ b = q then c1 p q + 1 else c1 a b) c2 := by
  obtain ⟨h1, h2, h3, h4, h5, h6⟩ := h
  have hW : ∀ x, tW n N9 (fun a b => if a = p ∧ b = q then c1 p q + 1 else c1 a b) c2 x = tW n N9 c1 c2 x + (if x = p then 1 else 0) := by
    intro x
    unfold tW
    by_cases hx : x = p
    · subst hx
      have := aSum_upd (f := fun b => c1 x b) (r := q) (v := c1 x q + 1) hq
      simp only [true_and, if_true]
      omega
    · simp [hx]
  have hlt : tW n N9 c1 c2 p ≤ 99 := by
    have e := h1 p hp
    rcases Nat.lt_or_ge (tW n N9 c1 c2 p) 100 with hl | hl
    · omega
    · exfalso
      apply ho
      rw [e.1, show tW n N9 c1 c2 p = 100 by omega]
      rfl
  refine ⟨fun x hx => ?_, h2, fun x hx ht => ?_, fun x hx hxp ht h8 => ?_, h5, h6⟩
  · rw [hW]
    by_cases hxp : x = p
    · subst hxp
      simp only [if_true]
      rw [(h1 x hx).1, nI_1]
      exact ⟨rfl, by omega⟩
    · simp only [hxp, if_false]
      exact ⟨(h1 x hx).1, (h1 x hx).2⟩
  · have := h3 x hx ht
    by_cases hxp : x = p
    · subst hxp; exact absurd this.1 ha
    · simpa [hxp] using this
  · by_cases hxp2 : x = p
    · subst hxp2; exact absurd h8 ha
    · simpa [hxp2] using h4 x hx hxp ht h8
/-- p becomes passive -/
theorem t_rest {p : Nat} (h : tInv n n g1 g2 N8 N9 N10 c1 c2) : tInv n p g1 g2 (fun x => if x = p then 0 else N8 x) N9 N10 c1 c2 := by
  obtain ⟨h1, h2, h3, h4, h5, h6⟩ := h
  refine ⟨h1, h2, fun x hx ht => ?_, fun x hx hxp ht h8 => ?_, h5, h6⟩
  · have := h3 x hx ht
    by_cases hxp : x = p
    · simp [hxp]; rw [← hxp]; exact this.2
    · simpa [hxp] using this
  · exact h4 x hx (by omega) ht (by simpa [hxp] using h8)
/-- it isn't to leave: all are settled -/
theorem t_stay {p : Nat} (h : tInv n p g1 g2 N8 N9 N10 c1 c2) (hq : ¬ (tIn g1 g2 N9 p = true ∧ N8 p = 0 ∧ N10 p = 0)) : tInv n n g1 g2 N8 N9 N10 c1 c2 := by
  obtain ⟨h1, h2, h3, h4, h5, h6⟩ := h
  refine ⟨h1, h2, h3, fun x hx _ ht h8 => ?_, h5, h6⟩
  by_cases hxp : x = p
  · subst hxp; exact fun hc => hq ⟨ht, h8, hc⟩
  · exact h4 x hx hxp ht h8
/-- the root leaves -/
theorem t_leave0 (h : tInv n 0 g1 g2 N8 N9 N10 c1 c2) (ht : tIn g1 g2 N9 0 = true) (h8 : N8 0 = 0) (h10 : N10 0 = 0) : tInv n n g1 1 N8 N9 N10 c1 c2 := by
  obtain ⟨h1, h2, h3, h4, h5, h6⟩ := h
  have hg : g1 ≠ 0 := by
    intro hc
    simp [tIn, hc] at ht
  refine ⟨h1, h2, fun x hx hf => ?_, fun x hx _ ht2 h82 => ?_, fun _ => hg, h6⟩
  · by_cases hx0 : x = 0
    · subst hx0; exact ⟨h8, h10⟩
    · exact h3 x hx (by simpa [tIn, hx0] using hf)
  · by_cases hx0 : x = 0
    · subst hx0; simp [tIn] at ht2
    · exact h4 x hx hx0 (by simpa [tIn, hx0] using ht2) h82
theorem tKids_upd {p x : Nat} {v : Int32} (hp : p < n) (hp0 : p ≠ 0) : tKids n (fun y => if y = p then v else N9 y) x + (if N9 p = nI x then 1 else 0) = tKids n N9 x + (if v = nI x then 1 else 0) := by
  have := aCnt_upd (f := fun q => q != 0 && N9 q == nI x) (r := p) (b := v == nI x) hp
  have e : (fun q => q != 0 && (if q = p then v else N9 q) == nI x) = fun y => if y = p then (v == nI x) else (y != 0 && N9 y == nI x) := by
    funext y
    by_cases hy : y = p
    · subst hy; simp [hp0]
    · simp [hy]
  unfold tKids
  rw [e]
  have hb : (p != 0) = true := by simp [hp0]
  simp only [hb, Bool.true_and, beq_iff_eq] at this
  exact this
/-- another one leaves: an ack to its parent -/
theorem t_leave {p j : Nat} (h : tInv n p g1 g2 N8 N9 N10 c1 c2) (hn : n ≤ 10) (hp : p < n) (hp0 : p ≠ 0) (hj : j < n) (e : N9 p = nI j) (h8 : N8 p = 0) (h10 : N10 p = 0) : tInv n n g1 g2 N8 (fun x => if x = p then -1 else N9 x) N10 c1 (fun a b => if a = p ∧ b = j then c2 p j + 1 else c2 a b) := by
  obtain ⟨h1, h2, h3, h4, h5, rk, h6⟩ := h
  have hW : ∀ x, x < n → tW n (fun x => if x = p then -1 else N9 x) c1 (fun a b => if a = p ∧ b = j then c2 p j + 1 else c2 a b) x = tW n N9 c1 c2 x := by
    intro x hx
    have hk := tKids_upd (N9 := N9) (x := x) (v := -1) hp hp0
    rw [if_neg (m1_ne (by omega)), e] at hk
    unfold tW
    by_cases hxj : x = j
    · subst hxj
      have := aSum_upd (f := fun a => c2 a x) (r := p) (v := c2 p x + 1) hp
      simp only [and_true] at *
      simp at hk
      omega
    · have hne : ¬ nI j = nI x := fun hc => hxj ((nI_eq (by omega) (by omega)).mp hc).symm
      rw [if_neg hne] at hk
      simp [hxj]
      omega
  have hin : ∀ x, x ≠ p → tIn g1 g2 (fun x => if x = p then -1 else N9 x) x = tIn g1 g2 N9 x := by
    intro x hxp
    simp [tIn, hxp]
  refine ⟨fun x hx => by rw [hW x hx]; exact h1 x hx, fun x hx hx0 => ?_, fun x hx hf => ?_, fun x hx _ ht h82 => ?_, h5, rk, fun x hx hx0 y hy hxy => ?_⟩
  · by_cases hxp : x = p
    · simp [hxp]
    · simpa [hxp] using h2 x hx hx0
  · by_cases hxp : x = p
    · subst hxp; exact ⟨h8, h10⟩
    · rw [hin x hxp] at hf; exact h3 x hx hf
  · by_cases hxp : x = p
    · subst hxp; simp [tIn, hp0] at ht
    · rw [hin x hxp] at ht; exact h4 x hx hxp ht h82
  · by_cases hxp : x = p
    · subst hxp
      simp only [if_true] at hxy
      exact absurd hxy (m1_ne (by omega))
    · simp only [hxp, if_false] at hxy
      exact h6 x hx hx0 y hy hxy
/-- an ack of p's is received by q -/
theorem t_ack {p q : Nat} (h : tInv n n g1 g2 N8 N9 N10 c1 c2) (hp : p < n) (hq : q < n) (hc : 0 < c2 p q) : tInv n q g1 g2 N8 N9 (fun x => if x = q then N10 q - 1 else N10 x) c1 (fun a b => if a = p ∧ b = q then c2 p q - 1 else c2 a b) ∧ N10 q ≠ 0 := by
  obtain ⟨h1, h2, h3, h4, h5, h6⟩ := h
  have hge : c2 p q ≤ aSum (fun a => c2 a q) n := aSum_ge (f := fun a => c2 a q) hp
  have hpos : 0 < tW n N9 c1 c2 q := by unfold tW; omega
  have hW : ∀ x, tW n N9 c1 (fun a b => if a = p ∧ b = q then c2 p q - 1 else c2 a b) x + (if x = q then 1 else 0) = tW n N9 c1 c2 x := by
    intro x
    unfold tW
    by_cases hx : x = q
    · subst hx
      have := aSum_upd (f := fun a => c2 a x) (r := p) (v := c2 p x - 1) hp
      simp only [and_true, if_true]
      omega
    · simp [hx]
  have hne : N10 q ≠ 0 := by
    rw [(h1 q hq).1]
    exact nI_ne0 hpos (by have := (h1 q hq).2; omega)
  refine ⟨⟨fun x hx => ?_, h2, fun x hx hf => ?_, fun x hx hxq ht h8 => ?_, h5, h6⟩, hne⟩
  · have := hW x
    by_cases hxq : x = q
    · subst hxq
      simp only [if_true] at this ⊢
      have e : tW n N9 c1 (fun a b => if a = p ∧ b = x then c2 p x - 1 else c2 a b) x = tW n N9 c1 c2 x - 1 := by omega
      rw [e, (h1 x hx).1, nI_sub1 hpos]
      exact ⟨rfl, by have := (h1 x hx).2; omega⟩
    · simp only [hxq, if_false, Nat.add_zero] at this ⊢
      rw [this]
      exact h1 x hx
  · by_cases hxq : x = q
    · subst hxq; exact absurd (h3 x hx hf).2 hne
    · simpa [hxq] using h3 x hx hf
  · simpa [hxq] using h4 x hx (by omega) ht h8
/-- a work of p's is received by q, who is in the tree: an ack goes back -/
theorem t_work1 {p q : Nat} (h : tInv n n g1 g2 N8 N9 N10 c1 c2) (hp : p < n) (hq : q < n) (hc : 0 < c1 p q) (ht : tIn g1 g2 N9 q = true) : tInv n n g1 g2 (fun x => if x = q then 1 else N8 x) N9 N10 (fun a b => if a = p ∧ b = q then c1 p q - 1 else c1 a b) (fun a b => if a = q ∧ b = p then c2 q p + 1 else c2 a b) := by
  obtain ⟨h1, h2, h3, h4, h5, h6⟩ := h
  have hW : ∀ x, tW n N9 (fun a b => if a = p ∧ b = q then c1 p q - 1 else c1 a b) (fun a b => if a = q ∧ b = p then c2 q p + 1 else c2 a b) x = tW n N9 c1 c2 x := by
    intro x
    unfold tW
    by_cases hx : x = p
    · subst hx
      have a1 := aSum_upd (f := fun b => c1 x b) (r := q) (v := c1 x q - 1) hq
      have a2 := aSum_upd (f := fun a => c2 a x) (r := q) (v := c2 q x + 1) hq
      have hge : c1 x q ≤ aSum (fun b => c1 x b) n := aSum_ge (f := fun b => c1 x b) hq
      simp only [true_and, and_true]
      omega
    · simp [hx]
  refine ⟨fun x hx => by rw [hW]; exact h1 x hx, h2, fun x hx hf => ?_, fun x hx hxn ht2 h8 => ?_, h5, h6⟩
  · by_cases hxq : x = q
    · subst hxq; rw [ht] at hf; cases hf
    · simpa [hxq] using h3 x hx hf
  · by_cases hxq : x = q
    · subst hxq; simp at h8
    · exact h4 x hx hxn ht2 (by simpa [hxq] using h8)
/-- .. who isn't: p is its parent -/
theorem t_work2 {p q : Nat} (h : tInv n n g1 g2 N8 N9 N10 c1 c2) (hn : n ≤ 10) (hp : p < n) (hq : q < n) (hpq : p ≠ q) (hq0 : q ≠ 0) (hc : 0 < c1 p q) (ht : tIn g1 g2 N9 q = false) : tInv n n g1 g2 (fun x => if x = q then 1 else N8 x) (fun x => if x = q then nI p else N9 x) N10 (fun a b => if a = p ∧ b = q then c1 p q - 1 else c1 a b) c2 := by
  obtain ⟨h1, h2, h3, h4, h5, rk, h6⟩ := h
  have h9 : N9 q = -1 := by simpa [tIn, hq0] using ht
  have hW : ∀ x, x < n → tW n (fun x => if x = q then nI p else N9 x) (fun a b => if a = p ∧ b = q then c1 p q - 1 else c1 a b) c2 x = tW n N9 c1 c2 x := by
    intro x hx
    have hk := tKids_upd (N9 := N9) (x := x) (v := nI p) hq hq0
    rw [h9, if_neg (m1_ne (by omega))] at hk
    unfold tW
    by_cases hxp : x = p
    · subst hxp
      have a1 := aSum_upd (f := fun b => c1 x b) (r := q) (v := c1 x q - 1) hq
      have hge : c1 x q ≤ aSum (fun b => c1 x b) n := aSum_ge (f := fun b => c1 x b) hq
      simp only [true_and, if_true] at *
      omega
    · have hne : ¬ nI p = nI x := fun hc => hxp ((nI_eq (by omega) (by omega)).mp hc).symm
      rw [if_neg hne] at hk
      simp [hxp]
      omega
  have hz : tKids n N9 q = 0 := by
    have e := (h3 q hq ht).2
    rw [(h1 q hq).1] at e
    have := (nI_eq (b := 0) (by have := (h1 q hq).2; omega) (by decide)).mp e
    unfold tW at this
    omega
  have hin : ∀ x, x ≠ q → tIn g1 g2 (fun x => if x = q then nI p else N9 x) x = tIn g1 g2 N9 x := by
    intro x hxq
    simp [tIn, hxq]
  refine ⟨fun x hx => by rw [hW x hx]; exact h1 x hx, fun x hx hx0 => ?_, fun x hx hf => ?_, fun x hx hxn ht2 h8 => ?_, h5, fun x => if x = q then rk p + 1 else rk x, fun x hx hx0 y hy hxy => ?_⟩
  · by_cases hxq : x = q
    · subst hxq; exact Or.inr ⟨p, hp, hpq, by simp⟩
    · simpa [hxq] using h2 x hx hx0
  · by_cases hxq : x = q
    · subst hxq
      exfalso
      have : ¬ nI p = -1 := fun hc => m1_ne (j := p) (by omega) hc.symm
      simp [tIn, hq0, this] at hf
    · rw [hin x hxq] at hf
      simpa [hxq] using h3 x hx hf
  · by_cases hxq : x = q
    · subst hxq; simp at h8
    · rw [hin x hxq] at ht2
      exact h4 x hx hxn ht2 (by simpa [hxq] using h8)
  · by_cases hxq : x = q
    · subst hxq
      simp only [if_true] at hxy ⊢
      have : p = y := (nI_eq (by omega) (by omega)).mp hxy
      subst this
      rw [if_neg hpq]
      omega
    · simp only [hxq, if_false] at hxy ⊢
      by_cases hyq : y = q
      · subst hyq
        exfalso
        have : 0 < tKids n N9 y := aCnt_pos hx (by simp [hx0, hxy])
        omega
      · rw [if_neg hyq]
        exact h6 x hx hx0 y hy hxy
end TREE
