/-! ===== THE ABSTRACT STATE: numbers (the reference's own order; 1 30: replies on their way), rows of messages (by 10 p + q), room of the rows ===== -/
abbrev aM : Type := Int32 × Int32 × Int32
abbrev aS : Type := zSt × (Nat → List aM) × (Nat → Nat)
def aN (σ : aS) (a b k : Nat) (v : Int32) : aS := (z3 σ.1 a b k v, σ.2)
def aPush (σ : aS) (r : Nat) (m : aM) : aS := (σ.1, (fun x => if x = r then σ.2.1 r ++ [m] else σ.2.1 x), fun x => if x = r then (if (σ.2.1 r).length = σ.2.2 r then 2 * σ.2.2 r else σ.2.2 r) else σ.2.2 x)
def aTail (σ : aS) (r : Nat) : aS := (σ.1, (fun x => if x = r then (σ.2.1 r).tail else σ.2.1 x), σ.2.2)
def aCnt (f : Nat → Bool) : Nat → Nat
  | 0 => 0
  | k + 1 => aCnt f k + (if f k then 1 else 0)
theorem aCnt_le (f : Nat → Bool) : ∀ n, aCnt f n ≤ n
  | 0 => Nat.le_refl _
  | k + 1 => by
    have := aCnt_le f k
    simp only [aCnt]
    split <;> omega
theorem aCnt_cong {f g : Nat → Bool} : ∀ {n : Nat}, (∀ k, k < n → f k = g k) → aCnt f n = aCnt g n
  | 0, _ => rfl
  | n + 1, h => by
    simp only [aCnt]
    rw [aCnt_cong (fun k hk => h k (by omega)), h n (by omega)]
theorem aCnt_zero {f : Nat → Bool} : ∀ {n : Nat}, aCnt f n = 0 ↔ ∀ k, k < n → f k = false
  | 0 => by simp [aCnt]
  | n + 1 => by
    have ih := aCnt_zero (f := f) (n := n)
    simp only [aCnt]
    constructor
    · intro h k hk
      have h1 : aCnt f n = 0 := by omega
      by_cases hkn : k = n
      · subst hkn
        cases hf : f k with
        | false => rfl
        | true => simp [hf] at h
      · exact ih.mp h1 k (by omega)
    · intro h
      rw [ih.mpr (fun k hk => h k (by omega)), h n (by omega)]
      rfl
/-- how many of a row are of a kind -/
def aOf (k : Int32) (l : List aM) : Nat := l.countP (fun m => m.1 == k)
def aWf (σ : aS) (n p : Nat) : Nat := aCnt (fun q => σ.1 1 16 (10 * p + q) != 0) n
def aPd (σ : aS) (n p : Nat) : Nat := aCnt (fun q => σ.1 1 17 (10 * p + q) != 0) n
def aFree (σ : aS) (n p : Nat) : Bool := σ.1 1 8 p != 0 && aWf σ n p == 0
def aTree (σ : aS) (p : Nat) : Bool := if p = 0 then σ.1 0 0 1 != 0 && σ.1 0 0 2 == 0 else σ.1 1 9 p != -1
def aBad (n : Nat) (x : Int32) : Prop := x < 0 ∨ nI n ≤ x
/-- the numbers of the state that are booleans, and how many processes there are -/
def aB (n : Nat) (σ : aS) : Prop := σ.1 0 0 0 = nI n ∧ 2 ≤ n ∧ n ≤ 10 ∧ (∀ k, (k = 1 ∨ k = 2 ∨ k = 3 ∨ k = 21) → (σ.1 0 0 k = 0 ∨ σ.1 0 0 k = 1)) ∧ ∀ k j, (k = 8 ∨ k = 12 ∨ k = 13 ∨ k = 16 ∨ k = 17) → (σ.1 1 k j = 0 ∨ σ.1 1 k j = 1)
/-- what the reference's numbers say -/
def rRel (σ : aS) (S : zSt) : Prop := (∀ a b k, ¬ (a = 1 ∧ 22 ≤ b) → S a b k = σ.1 a b k) ∧ ∀ r, r < 100 → (S 1 22 r = nI (σ.2.1 r).length ∧ (σ.2.1 r).length ≤ 640) ∧ ∀ (k : Nat) (m : aM), (σ.2.1 r)[k]? = some m → S 1 23 (640 * r + k) = m.1 ∧ S 1 24 (640 * r + k) = m.2.1 ∧ S 1 25 (640 * r + k) = m.2.2
theorem rg {σ : aS} {S : zSt} {k : Nat} (h : rRel σ S) : S 0 0 k = σ.1 0 0 k := h.1 0 0 k (by omega)
theorem ra {σ : aS} {S : zSt} {k j : Nat} (h : rRel σ S) (hk : k < 22) : S 1 k j = σ.1 1 k j := h.1 1 k j (by omega)
theorem rmy {σ : aS} {S : zSt} {r : Nat} (h : rRel σ S) (hr : r < 100) : S 1 22 r = nI (σ.2.1 r).length := (h.2 r hr).1.1
theorem rlen {σ : aS} {S : zSt} {r : Nat} (h : rRel σ S) (hr : r < 100) : (σ.2.1 r).length ≤ 640 := (h.2 r hr).1.2
theorem rRg {σ : aS} {S : zSt} {k : Nat} {v : Int32} (h : rRel σ S) : rRel (aN σ 0 0 k v) (z3 S 0 0 k v) := by
  refine ⟨fun a b j hn => ?_, fun r hr => ?_⟩
  · simp only [z3, aN]
    rw [h.1 a b j hn]
  · obtain ⟨h1, h2⟩ := h.2 r hr
    refine ⟨by simpa [z3, aN] using h1, fun k m hk => ?_⟩
    simpa [z3] using h2 k m hk
theorem rRa {σ : aS} {S : zSt} {k j : Nat} {v : Int32} (h : rRel σ S) (hk : k < 22) : rRel (aN σ 1 k j v) (z3 S 1 k j v) := by
  have e22 : ¬ (22 = k) := by omega
  have e23 : ¬ (23 = k) := by omega
  have e24 : ¬ (24 = k) := by omega
  have e25 : ¬ (25 = k) := by omega
  refine ⟨fun a b j hn => ?_, fun r hr => ?_⟩
  · simp only [z3, aN]
    rw [h.1 a b j hn]
  · obtain ⟨h1, h2⟩ := h.2 r hr
    refine ⟨by simpa [z3, e22, aN] using h1, fun k m hk => ?_⟩
    simpa [z3, e23, e24, e25] using h2 k m hk
theorem rRx {σ : aS} {S : zSt} {j : Nat} {v : Int32} (h : rRel σ S) : rRel σ (z3 S 1 26 j v) := by
  refine ⟨fun a b j hn => ?_, fun r hr => ?_⟩
  · simp only [z3]
    rw [h.1 a b j hn, if_neg]
    rintro ⟨rfl, rfl, -⟩
    exact hn (by omega)
  · obtain ⟨h1, h2⟩ := h.2 r hr
    refine ⟨by simpa [z3] using h1, fun k m hk => ?_⟩
    simpa [z3] using h2 k m hk
/-- replies on their way are the class's own note -/
theorem rRy {σ : aS} {S : zSt} {j k : Nat} {v : Int32} (hk : 22 ≤ k) (h : rRel σ S) : rRel (aN σ 1 k j v) S := by
  refine ⟨fun a b i hn => ?_, h.2⟩
  simp only [z3, aN]
  rw [h.1 a b i hn, if_neg]
  rintro ⟨rfl, rfl, -⟩
  exact hn (by omega)
theorem rPush {σ : aS} {S : zSt} {r : Nat} {m : aM} {x : Nat} (h : rRel σ S) (hr : r < 100) (hl : (σ.2.1 r).length < 640) (hx : x = 640 * r + (σ.2.1 r).length) : rRel (aPush σ r m) (z3 (z3 (z3 (z3 S 1 23 x m.1) 1 24 x m.2.1) 1 25 x m.2.2) 1 22 r (nI (σ.2.1 r).length + 1)) := by
  subst hx
  refine ⟨fun a b j hn => ?_, fun q hq => ?_⟩
  · simp only [z3, aPush]
    rw [h.1 a b j hn, if_neg (by omega), if_neg (by omega), if_neg (by omega), if_neg (by omega)]
  · obtain ⟨h1, h2⟩ := h.2 q hq
    by_cases hqr : q = r
    · subst hqr
      refine ⟨⟨by simp [z3, aPush, nI_1], by simp [aPush]; omega⟩, fun k mm hk => ?_⟩
      simp only [aPush, if_true] at hk
      by_cases hkl : k < (σ.2.1 q).length
      · rw [List.getElem?_append_left hkl] at hk
        have hne : ¬ (k = (σ.2.1 q).length) := by omega
        simpa [z3, hne] using h2 k mm hk
      · rw [List.getElem?_append_right (by omega)] at hk
        have hk0 : k - (σ.2.1 q).length = 0 := by
          have := (List.getElem?_eq_some_iff.mp hk).1
          simp at this
          omega
        rw [hk0] at hk
        have hk1 : k = (σ.2.1 q).length := by omega
        simp at hk
        subst hk
        subst hk1
        simp [z3]
    · refine ⟨by simpa [z3, aPush, hqr] using h1, fun k mm hk => ?_⟩
      simp only [aPush, if_neg hqr] at hk
      have hkl := (List.getElem?_eq_some_iff.mp hk).1
      have hb := h1.2
      have hne : ¬ (640 * q + k = 640 * r + (σ.2.1 r).length) := by omega
      simpa [z3, hne] using h2 k mm hk
