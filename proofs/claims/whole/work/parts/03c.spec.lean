/-! ===== WHAT EACH METHOD DOES TO THE ABSTRACT STATE ===== -/
def aQuiet (σ : aS) (n : Nat) : Bool := decide (∀ p, p < n → σ.1 1 8 p = 0 ∧ ∀ q, q < n → aOf 1 (σ.2.1 (10 * p + q)) = 0)
theorem aQuiet_iff {σ : aS} {n : Nat} : aQuiet σ n = true ↔ ∀ p, p < n → σ.1 1 8 p = 0 ∧ ∀ q, q < n → aOf 1 (σ.2.1 (10 * p + q)) = 0 := by simp [aQuiet]
def aQual (σ : aS) (p : Nat) : Bool := aTree σ p && σ.1 1 8 p == 0 && decide (¬ 0 < σ.1 1 10 p)
theorem aQual_iff {σ : aS} {p : Nat} : aQual σ p = true ↔ aTree σ p = true ∧ σ.1 1 8 p = 0 ∧ ¬ 0 < σ.1 1 10 p := by simp [aQual, and_assoc]
def aJudge (n : Nat) (σ : aS) : aS := if aQuiet σ n = true then σ else aN σ 0 0 4 (σ.1 0 0 4 + 1)
def aLeave (n : Nat) (σ : aS) (p : Nat) : aS := if aQual σ p = true then (if p = 0 then aJudge n (aN σ 0 0 2 1) else aN (aPush σ (10 * p + (σ.1 1 9 p).toNatClampNeg) (2, -1, -1)) 1 9 p (-1)) else σ
/-- a message to each of those of p's row that f names -/
def aAll (σ : aS) (p : Nat) (f : Nat → Bool) (n : Nat) (m : aM) : aS :=
  (σ.1, (fun r => if r / 10 = p ∧ r % 10 < n ∧ f (r % 10) = true then σ.2.1 r ++ [m] else σ.2.1 r), fun r => if r / 10 = p ∧ r % 10 < n ∧ f (r % 10) = true then (if (σ.2.1 r).length = σ.2.2 r then 2 * σ.2.2 r else σ.2.2 r) else σ.2.2 r)
theorem aAll_0 (σ : aS) (p : Nat) (f : Nat → Bool) (m : aM) : aAll σ p f 0 m = σ := by
  simp [aAll]
theorem aAll_no {σ : aS} {p : Nat} {f : Nat → Bool} {m : aM} {k : Nat} (h : f k = false) : aAll σ p f (k + 1) m = aAll σ p f k m := by
  have e : ∀ r, (r / 10 = p ∧ r % 10 < k + 1 ∧ f (r % 10) = true) ↔ (r / 10 = p ∧ r % 10 < k ∧ f (r % 10) = true) := by
    intro r
    constructor
    · rintro ⟨h1, h2, h3⟩
      refine ⟨h1, ?_, h3⟩
      by_cases hk : r % 10 = k
      · rw [hk, h] at h3; cases h3
      · omega
    · rintro ⟨h1, h2, h3⟩
      exact ⟨h1, by omega, h3⟩
  simp only [aAll, e]
theorem aAll_yes {σ : aS} {p : Nat} {f : Nat → Bool} {m : aM} {k : Nat} (hk : k < 10) (h : f k = true) : aAll σ p f (k + 1) m = aPush (aAll σ p f k m) (10 * p + k) m := by
  have e : ∀ r, (r / 10 = p ∧ r % 10 < k + 1 ∧ f (r % 10) = true) ↔ (r = 10 * p + k ∨ (r / 10 = p ∧ r % 10 < k ∧ f (r % 10) = true)) := by
    intro r
    constructor
    · rintro ⟨h1, h2, h3⟩
      by_cases hk2 : r % 10 = k
      · left; omega
      · right; exact ⟨h1, by omega, h3⟩
    · rintro (h1 | ⟨h1, h2, h3⟩)
      · subst h1
        have : (10 * p + k) % 10 = k := by omega
        exact ⟨by omega, by omega, by rw [this]; exact h⟩
      · exact ⟨h1, by omega, h3⟩
  have hno : ¬ ((10 * p + k) / 10 = p ∧ (10 * p + k) % 10 < k ∧ f ((10 * p + k) % 10) = true) := by
    rintro ⟨-, h2, -⟩
    omega
  simp only [aAll, aPush, e, Prod.mk.injEq, true_and]
  constructor
  · funext r
    by_cases hr : r = 10 * p + k
    · subst hr; rw [if_pos (Or.inl rfl), if_pos rfl, if_neg hno]
    · simp only [hr, false_or, if_false]
  · funext r
    by_cases hr : r = 10 * p + k
    · subst hr; simp only [true_or, if_true, hno, if_false]
    · simp only [hr, false_or, if_false]
/-- bits of a row: those of p's row that f names become v -/
def aRowSet (σ : aS) (b p : Nat) (f : Nat → Bool) (n : Nat) (v : Int32) : aS := ((fun a' b' k => if a' = 1 ∧ b' = b ∧ k / 10 = p ∧ k % 10 < n ∧ f (k % 10) = true then v else σ.1 a' b' k), σ.2)
theorem aRowSet_0 (σ : aS) (b p : Nat) (f : Nat → Bool) (v : Int32) : aRowSet σ b p f 0 v = σ := by simp [aRowSet]
theorem aRowSet_no {σ : aS} {b p : Nat} {f : Nat → Bool} {v : Int32} {k : Nat} (h : f k = false) : aRowSet σ b p f (k + 1) v = aRowSet σ b p f k v := by
  have e : ∀ r, (r / 10 = p ∧ r % 10 < k + 1 ∧ f (r % 10) = true) ↔ (r / 10 = p ∧ r % 10 < k ∧ f (r % 10) = true) := by
    intro r
    constructor
    · rintro ⟨h1, h2, h3⟩
      refine ⟨h1, ?_, h3⟩
      by_cases hk : r % 10 = k
      · rw [hk, h] at h3; cases h3
      · omega
    · rintro ⟨h1, h2, h3⟩
      exact ⟨h1, by omega, h3⟩
  simp only [aRowSet, e]
theorem aRowSet_yes {σ : aS} {b p : Nat} {f : Nat → Bool} {v : Int32} {k : Nat} (hk : k < 10) (h : f k = true) : aRowSet σ b p f (k + 1) v = aN (aRowSet σ b p f k v) 1 b (10 * p + k) v := by
  have e : ∀ r, (r / 10 = p ∧ r % 10 < k + 1 ∧ f (r % 10) = true) ↔ (r = 10 * p + k ∨ (r / 10 = p ∧ r % 10 < k ∧ f (r % 10) = true)) := by
    intro r
    constructor
    · rintro ⟨h1, h2, h3⟩
      by_cases hk2 : r % 10 = k
      · left; omega
      · right; exact ⟨h1, by omega, h3⟩
    · rintro (h1 | ⟨h1, h2, h3⟩)
      · subst h1
        have : (10 * p + k) % 10 = k := by omega
        exact ⟨by omega, by omega, by rw [this]; exact h⟩
      · exact ⟨h1, by omega, h3⟩
  simp only [aRowSet, aN, e, Prod.mk.injEq, and_true]
  funext a' b' r
  simp only [z3]
  by_cases h1 : a' = 1 ∧ b' = b
  · obtain ⟨rfl, rfl⟩ := h1
    by_cases hr : r = 10 * p + k
    · simp [hr]
    · simp [hr]
  · have h2 : ¬ (a' = 1 ∧ b' = b ∧ (r = 10 * p + k ∨ (r / 10 = p ∧ r % 10 < k ∧ f (r % 10) = true))) := fun h => h1 ⟨h.1, h.2.1⟩
    have h3 : ¬ (a' = 1 ∧ b' = b ∧ r = 10 * p + k) := fun h => h1 ⟨h.1, h.2.1⟩
    have h4 : ¬ (a' = 1 ∧ b' = b ∧ r / 10 = p ∧ r % 10 < k ∧ f (r % 10) = true) := fun h => h1 ⟨h.1, h.2.1⟩
    rw [if_neg h2, if_neg h3, if_neg h4]
def aWaits (σ : aS) (p : Nat) : Nat → Bool := fun q => σ.1 1 16 (10 * p + q) != 0
def aBit (x : Int32) (q : Nat) : Bool := x.toBitVec.getLsbD q
def aAsks (p : Nat) (mask : Int32) : Nat → Bool := fun q => q != p && aBit mask q
def aHangs (σ : aS) (p q : Nat) : Prop := σ.1 1 16 (10 * p + q) ≠ 0 ∧ aOf 5 (σ.2.1 (10 * q + p)) = 0
/-- p is in a ring: it is in every set that holds those that p hangs on, and with one those that it hangs on -/
def aInRing (σ : aS) (n p : Nat) : Prop := ∀ T : Nat → Prop, (∀ q, q < n → aHangs σ p q → T q) → (∀ a b, a < n → b < n → T a → aHangs σ a b → T b) → T p
noncomputable def aRing (σ : aS) (n p : Nat) : Int32 := @ite Int32 (aInRing σ n p) (Classical.propDecidable _) 1 0
def fStart (σ : aS) : Int32 × aS := if σ.1 0 0 1 = 0 then (1, aN (aN σ 0 0 1 1) 1 8 0 1) else (0, σ)
def fSend (n : Nat) (σ : aS) (p q : Nat) : Int32 × aS := if aFree σ n p = true ∧ aOf 1 (σ.2.1 (10 * p + q)) ≠ 20 ∧ σ.1 1 10 p ≠ 100 then (1, aN (aN (aPush σ (10 * p + q) (1, -1, -1)) 1 10 p (σ.1 1 10 p + 1)) 1 11 p (σ.1 1 11 p + 1)) else (0, σ)
def fRest (n : Nat) (σ : aS) (p : Nat) : Int32 × aS := if aFree σ n p = true then (1, aLeave n (aN σ 1 8 p 0) p) else (0, σ)
def fAsk (n : Nat) (σ : aS) (p : Nat) (mask : Int32) : Int32 × aS := if aFree σ n p = true ∧ aCnt (aAsks p mask) n ≠ 0 then (nI (aCnt (aAsks p mask) n), aAll (aRowSet σ 16 p (aAsks p mask) n 1) p (aAsks p mask) n (4, -1, -1)) else (-1, σ)
def fAnswer (n : Nat) (σ : aS) (q p : Nat) : Int32 × aS := if aWf σ n q = 0 ∧ σ.1 1 17 (10 * q + p) ≠ 0 then (1, aPush (aN (aN σ 1 17 (10 * q + p) 0) 1 30 (10 * p + q) 1) (10 * q + p) (5, -1, -1)) else (0, σ)
def fProbe (n : Nat) (σ : aS) (p : Nat) : Int32 × aS := if aWf σ n p ≠ 0 ∧ σ.1 1 15 p ≠ 50 then (σ.1 1 15 p + 1, aAll (aN σ 1 15 p (σ.1 1 15 p + 1)) p (aWaits σ p) n (6, nI p, σ.1 1 15 p + 1)) else (-1, σ)
def fPass (n : Nat) (σ : aS) (p : Nat) : Int32 × aS :=
  if σ.1 1 13 p = 0 ∨ σ.1 1 8 p ≠ 0 ∨ σ.1 0 0 1 = 0 ∨ σ.1 0 0 3 ≠ 0 then (-1, σ)
  else if p ≠ 0 then (1, aPush (aN (aN (aN (aN σ 0 0 20 (σ.1 0 0 20 + σ.1 1 11 p)) 0 0 21 (if σ.1 0 0 21 ≠ 0 then 1 else if σ.1 1 12 p ≠ 0 then 1 else 0)) 1 12 p 0) 1 13 p 0) (10 * p + (p - 1)) (3, -1, -1))
  else if 0 < σ.1 0 0 19 ∧ σ.1 0 0 21 = 0 ∧ σ.1 1 12 0 = 0 ∧ σ.1 0 0 20 + σ.1 1 11 0 = 0 then (2, aJudge n (aN σ 0 0 3 1))
  else (1, aPush (aN (aN (aN (aN (aN σ 0 0 19 (σ.1 0 0 19 + 1)) 1 12 0 0) 0 0 21 0) 0 0 20 0) 1 13 0 0) (10 * 0 + (n - 1)) (3, -1, -1))
def aWork (σ : aS) (p q : Nat) : aS :=
  let τ := aN (aN (aN σ 1 8 q 1) 1 12 q 1) 1 11 q (σ.1 1 11 q - 1)
  if aTree τ q = true then aPush τ (10 * q + p) (2, -1, -1) else aN τ 1 9 q (nI p)
noncomputable def aDead (n : Nat) (σ : aS) (i : Nat) : aS :=
  let τ := aN (aN σ 1 14 i (σ.1 1 14 i + 1)) 0 0 7 (σ.1 0 0 7 + 1)
  if aRing τ n i = 0 then aN τ 0 0 5 (τ.1 0 0 5 + 1) else τ
noncomputable def aProbed (n : Nat) (σ : aS) (j k i : Nat) (num : Int32) : aS :=
  if aWf σ n k = 0 ∨ σ.1 1 17 (10 * k + j) = 0 then σ
  else if k = i then aDead n σ i
  else if σ.1 1 18 (10 * k + i) < num then aAll (aN σ 1 18 (10 * k + i) num) k (aWaits σ k) n (6, nI i, num)
  else σ
noncomputable def aTake (n : Nat) (σ : aS) (p q : Nat) (m : aM) : aS :=
  if m.1 = 1 then aWork σ p q
  else if m.1 = 2 then aN σ 1 10 q (σ.1 1 10 q - 1)
  else if m.1 = 3 then aN σ 1 13 q 1
  else if m.1 = 4 then aN σ 1 17 (10 * q + p) 1
  else if m.1 = 5 then aN (aN σ 1 16 (10 * q + p) 0) 1 30 (10 * q + p) 0
  else aProbed n σ p q m.2.1.toNatClampNeg m.2.2
noncomputable def fRecv (n : Nat) (σ : aS) (p q : Nat) : Int32 × aS := match σ.2.1 (10 * p + q) with
  | [] => (-1, σ)
  | m :: _ => (m.1, aLeave n (aTake n (aN (aTail σ (10 * p + q)) 0 0 6 (σ.1 0 0 6 + 1)) p q m) q)
noncomputable def fStep (n : Nat) (σ : aS) (k : Nat) : Int32 × aS := if k / n = k % n then fPass n σ (k / n) else fRecv n σ (k / n) (k % n)
/-- t turns: the seed, how often something was done, the state; g: the next seed, h: the draw of a seed -/
noncomputable def aRun (g : Int32 → Int32) (h : Int32 → Nat) (n : Nat) (s : Int32) (σ : aS) : Nat → Int32 × Int32 × aS
  | 0 => (s, 0, σ)
  | t + 1 => (g (aRun g h n s σ t).1, (if (fStep n (aRun g h n s σ t).2.2 (h (g (aRun g h n s σ t).1))).1 = -1 then (aRun g h n s σ t).2.1 else (aRun g h n s σ t).2.1 + 1), (fStep n (aRun g h n s σ t).2.2 (h (g (aRun g h n s σ t).1))).2)
def hG (g : Int32 → Int32) : Prop := ∀ x : Int32, x * 1103515245 + 12345 = g x
def hH (n : Nat) (h : Int32 → Nat) : Prop := ∀ x : Int32, h x = (x.toBitVec.toNat / 65536) % (n * n)
def fTold (n : Nat) (σ : aS) (i : Nat) (w : Int32) : Int32 :=
  if w = 0 then σ.1 1 8 i else if w = 1 then (if aWf σ n i = 0 then 0 else 1) else if w = 2 then (if aTree σ i = true then 1 else 0)
  else if w = 3 then σ.1 1 9 i else if w = 4 then σ.1 1 10 i else if w = 5 then σ.1 1 11 i else if w = 6 then σ.1 1 12 i
  else if w = 7 then σ.1 1 13 i else if w = 8 then nI (aWf σ n i) else if w = 9 then nI (aPd σ n i) else if w = 10 then σ.1 1 14 i
  else if w = 11 then σ.1 1 15 i else -1
def fMsg (l : List aM) (x w : Int32) : Int32 := if x < 0 then -1 else match l[x.toNatClampNeg]? with
  | none => -1
  | some m => if w = 0 then m.1 else if w = 1 then m.2.1 else if w = 2 then m.2.2 else -1
def aSum (f : Nat → Nat) : Nat → Nat
  | 0 => 0
  | k + 1 => aSum f k + f k
def fCount (σ : aS) (w : Int32) : Int32 :=
  if w = 0 then σ.1 0 0 0 else if w = 1 then σ.1 0 0 2 else if w = 2 then σ.1 0 0 3 else if w = 3 then σ.1 0 0 19 else if w = 4 then σ.1 0 0 20
  else if w = 5 then σ.1 0 0 21 else if w = 6 then nI (aSum (fun r => (σ.2.1 r).length) 100) else if w = 7 then nI (aSum (fun r => aOf 1 (σ.2.1 r)) 100)
  else if w = 8 then σ.1 0 0 6 else if w = 9 then σ.1 0 0 7 else -1
/-- what a call may count on -/
def aSafe (n : Nat) (σ : aS) : Prop := aB n σ ∧ (∀ k, k < n → aQual σ k = false) ∧ (∀ i, i < n → i ≠ 0 → σ.1 1 9 i ≠ -1 → ∃ j, j < n ∧ j ≠ i ∧ σ.1 1 9 i = nI j) ∧ (∀ r, r < 100 → (σ.2.1 r).length ≤ 630) ∧ ∀ r, r < 100 → ∀ m ∈ σ.2.1 r, m.1 = 1 ∨ m.1 = 2 ∨ m.1 = 3 ∨ m.1 = 4 ∨ m.1 = 5 ∨ (m.1 = 6 ∧ ∃ i, i < n ∧ m.2.1 = nI i)
