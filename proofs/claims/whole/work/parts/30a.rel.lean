/-! ===== THE CLASS: what its numbers say ===== -/
def zA (ad : zAd) (ca : Nat → Nat) : zAd := fun i => if i.1 = 7 then ca i.2 else ad i
def cix (n r : Nat) : Nat := 10 * (r / n) + r % n
def cpo (n : Nat) (cp : Nat → Nat) : Nat → Nat := fun r => cp (cix n r)
theorem cix_of {n i j : Nat} (hj : j < n) : cix n (i * n + j) = 10 * i + j := by
  have h0 : 0 < n := by omega
  have h1 : (i * n + j) / n = i := by rw [Nat.mul_comm, Nat.mul_add_div h0, Nat.div_eq_of_lt hj, Nat.add_zero]
  have h2 : (i * n + j) % n = j := by rw [Nat.mul_comm, Nat.mul_add_mod, Nat.mod_eq_of_lt hj]
  rw [cix, h1, h2]
theorem cRow_of {n i j : Nat} (hi : i < n) (hj : j < n) (hij : i ≠ j) : cRow n (i * n + j) := by
  have h0 : 0 < n := by omega
  have h1 : (i * n + j) / n = i := by rw [Nat.mul_comm, Nat.mul_add_div h0, Nat.div_eq_of_lt hj, Nat.add_zero]
  have h2 : (i * n + j) % n = j := by rw [Nat.mul_comm, Nat.mul_add_mod, Nat.mod_eq_of_lt hj]
  refine ⟨?_, by rw [h1, h2]; exact hij⟩
  calc i * n + j < i * n + n := by omega
    _ = (i + 1) * n := by rw [Nat.succ_mul]
    _ ≤ n * n := Nat.mul_le_mul_right n hi
theorem cix_inj {n r q : Nat} (hn : n ≤ 10) (hr : cRow n r) (hq : cRow n q) (h : cix n r = cix n q) : r = q := by
  have h0 : 0 < n := by
    rcases Nat.eq_zero_or_pos n with h0 | h0
    · subst h0; exact absurd hr.1 (Nat.not_lt_zero _)
    · exact h0
  have h1 := Nat.mod_lt r h0
  have h2 := Nat.mod_lt q h0
  have h3 := Nat.div_add_mod r n
  have h4 := Nat.div_add_mod q n
  simp only [cix] at h
  have h5 : r / n = q / n := by omega
  have h6 : r % n = q % n := by omega
  rw [← h3, ← h4, h5, h6]
theorem cix_lt {n r : Nat} (hn : n ≤ 10) (hr : cRow n r) : cix n r < 100 := by
  have h0 : 0 < n := by
    rcases Nat.eq_zero_or_pos n with h0 | h0
    · subst h0; exact absurd hr.1 (Nat.not_lt_zero _)
    · exact h0
  have h1 := Nat.mod_lt r h0
  have h2 : r / n < n := Nat.div_lt_of_lt_mul hr.1
  simp only [cix]
  omega
def aBits (f : Nat → Bool) : Nat → Nat
  | 0 => 0
  | k + 1 => aBits f k + (if f k then 2 ^ k else 0)
theorem aBits_cong {f g : Nat → Bool} : ∀ {n : Nat}, (∀ k, k < n → f k = g k) → aBits f n = aBits g n
  | 0, _ => rfl
  | n + 1, h => by
    simp only [aBits]
    rw [aBits_cong (fun k hk => h k (by omega)), h n (by omega)]
/-- the fields of a worker -/
def cWk (N : Nat → Nat → Int32) (n p : Nat) (f : Nat → Int32) : Prop := f 1 = N 8 p ∧ f 2 = N 12 p ∧ f 3 = N 9 p ∧ f 4 = N 10 p ∧ f 5 = N 11 p ∧ f 6 = nI (aBits (fun q => N 16 (10 * p + q) != 0) n) ∧ f 7 = nI (aBits (fun q => N 30 (10 * p + q) != 0) n) ∧ f 8 = nI (aBits (fun q => N 17 (10 * p + q) != 0) n) ∧ f 9 = N 14 p ∧ f 10 = N 15 p
def cPack (m : aM) : Int32 := if m.1 = 6 then m.2.2 <<< ((7 : Int32) &&& 31) ||| m.2.1 <<< ((3 : Int32) &&& 31) ||| 6 else m.1
def cAt (f cap k : Nat) : Nat := if f + k < cap then f + k else f + k - cap
def cRing (f g : Nat → Int32) (cap : Nat) (l : List aM) : Prop := ∃ b : Nat, b < cap ∧ 4 ≤ cap ∧ cap ≤ 1280 ∧ f 1 = nI b ∧ f 2 = nI l.length ∧ l.length ≤ cap ∧ f 3 = nI (aOf 1 l) ∧ ∀ (k : Nat) (m : aM), l[k]? = some m → g (cAt b cap k) = cPack m
def cRel (n : Nat) (σ : aS) (S : zSt) : Prop :=
  (S 0 0 0 = σ.1 0 0 0 ∧ S 0 0 4 = σ.1 0 0 1 ∧ S 0 0 5 = σ.1 0 0 2 ∧ S 0 0 6 = σ.1 0 0 3 ∧ S 0 0 7 = σ.1 0 0 4 ∧ S 0 0 8 = σ.1 0 0 5 ∧ S 0 0 9 = σ.1 0 0 7 ∧ S 0 0 10 = σ.1 0 0 6) ∧
  (S 3 0 1 = σ.1 0 0 20 ∧ S 3 0 2 = σ.1 0 0 21 ∧ S 3 0 3 = σ.1 0 0 19) ∧
  (∀ p, p < n → σ.1 1 13 p = if S 3 0 0 = nI p then 1 else 0) ∧
  (∀ p, p < n → cWk (σ.1 1) n p (S 4 p)) ∧
  (∀ p, p < n → ∀ i, i < n → S 5 p i = σ.1 1 18 (10 * p + i)) ∧
  ∀ r, cRow n r → cRing (S 6 r) (S 7 r) (σ.2.2 (cix n r)) (σ.2.1 (cix n r))
theorem cRel.w {n : Nat} {σ : aS} {S : zSt} (h : cRel n σ S) {p : Nat} (hp : p < n) : cWk (σ.1 1) n p (S 4 p) := h.2.2.2.1 p hp
theorem cRel.r {n : Nat} {σ : aS} {S : zSt} (h : cRel n σ S) {r : Nat} (hr : cRow n r) : cRing (S 6 r) (S 7 r) (σ.2.2 (cix n r)) (σ.2.1 (cix n r)) := h.2.2.2.2.2 r hr
theorem cRm4 {n : Nat} {σ : aS} {S : zSt} {v : Int32} (h : cRel n σ S) : cRel n (aN σ 0 0 1 v) (z3 S 0 0 4 v) := by
  obtain ⟨⟨a1, a2, a3, a4, a5, a6, a7, a8⟩, ⟨b1, b2, b3⟩, hh, hw, hl, hr⟩ := h
  refine ⟨⟨?_, ?_, ?_, ?_, ?_, ?_, ?_, ?_⟩, ⟨?_, ?_, ?_⟩, fun q hq => ?_, fun q hq => ?_, fun q hq i hi => ?_, fun r hr2 => ?_⟩
  · simp [z3, aN, a1]
  · simp [z3, aN, a2]
  · simp [z3, aN, a3]
  · simp [z3, aN, a4]
  · simp [z3, aN, a5]
  · simp [z3, aN, a6]
  · simp [z3, aN, a7]
  · simp [z3, aN, a8]
  · simp [z3, aN, b1]
  · simp [z3, aN, b2]
  · simp [z3, aN, b3]
  · simpa [z3, aN] using hh q hq
  · simpa [cWk, z3, aN] using hw q hq
  · simpa [z3, aN] using hl q hq i hi
  · rw [show (z3 S 0 0 4 v) 6 r = S 6 r from by funext x; simp [z3], show (z3 S 0 0 4 v) 7 r = S 7 r from by funext x; simp [z3]]
    exact hr r hr2
theorem cRm5 {n : Nat} {σ : aS} {S : zSt} {v : Int32} (h : cRel n σ S) : cRel n (aN σ 0 0 2 v) (z3 S 0 0 5 v) := by
  obtain ⟨⟨a1, a2, a3, a4, a5, a6, a7, a8⟩, ⟨b1, b2, b3⟩, hh, hw, hl, hr⟩ := h
  refine ⟨⟨?_, ?_, ?_, ?_, ?_, ?_, ?_, ?_⟩, ⟨?_, ?_, ?_⟩, fun q hq => ?_, fun q hq => ?_, fun q hq i hi => ?_, fun r hr2 => ?_⟩
  · simp [z3, aN, a1]
  · simp [z3, aN, a2]
  · simp [z3, aN, a3]
  · simp [z3, aN, a4]
  · simp [z3, aN, a5]
  · simp [z3, aN, a6]
  · simp [z3, aN, a7]
  · simp [z3, aN, a8]
  · simp [z3, aN, b1]
  · simp [z3, aN, b2]
  · simp [z3, aN, b3]
  · simpa [z3, aN] using hh q hq
  · simpa [cWk, z3, aN] using hw q hq
  · simpa [z3, aN] using hl q hq i hi
  · rw [show (z3 S 0 0 5 v) 6 r = S 6 r from by funext x; simp [z3], show (z3 S 0 0 5 v) 7 r = S 7 r from by funext x; simp [z3]]
    exact hr r hr2
theorem cRm6 {n : Nat} {σ : aS} {S : zSt} {v : Int32} (h : cRel n σ S) : cRel n (aN σ 0 0 3 v) (z3 S 0 0 6 v) := by
  obtain ⟨⟨a1, a2, a3, a4, a5, a6, a7, a8⟩, ⟨b1, b2, b3⟩, hh, hw, hl, hr⟩ := h
  refine ⟨⟨?_, ?_, ?_, ?_, ?_, ?_, ?_, ?_⟩, ⟨?_, ?_, ?_⟩, fun q hq => ?_, fun q hq => ?_, fun q hq i hi => ?_, fun r hr2 => ?_⟩
  · simp [z3, aN, a1]
  · simp [z3, aN, a2]
  · simp [z3, aN, a3]
  · simp [z3, aN, a4]
  · simp [z3, aN, a5]
  · simp [z3, aN, a6]
  · simp [z3, aN, a7]
  · simp [z3, aN, a8]
  · simp [z3, aN, b1]
  · simp [z3, aN, b2]
  · simp [z3, aN, b3]
  · simpa [z3, aN] using hh q hq
  · simpa [cWk, z3, aN] using hw q hq
  · simpa [z3, aN] using hl q hq i hi
  · rw [show (z3 S 0 0 6 v) 6 r = S 6 r from by funext x; simp [z3], show (z3 S 0 0 6 v) 7 r = S 7 r from by funext x; simp [z3]]
    exact hr r hr2
theorem cRm7 {n : Nat} {σ : aS} {S : zSt} {v : Int32} (h : cRel n σ S) : cRel n (aN σ 0 0 4 v) (z3 S 0 0 7 v) := by
  obtain ⟨⟨a1, a2, a3, a4, a5, a6, a7, a8⟩, ⟨b1, b2, b3⟩, hh, hw, hl, hr⟩ := h
  refine ⟨⟨?_, ?_, ?_, ?_, ?_, ?_, ?_, ?_⟩, ⟨?_, ?_, ?_⟩, fun q hq => ?_, fun q hq => ?_, fun q hq i hi => ?_, fun r hr2 => ?_⟩
  · simp [z3, aN, a1]
  · simp [z3, aN, a2]
  · simp [z3, aN, a3]
  · simp [z3, aN, a4]
  · simp [z3, aN, a5]
  · simp [z3, aN, a6]
  · simp [z3, aN, a7]
  · simp [z3, aN, a8]
  · simp [z3, aN, b1]
  · simp [z3, aN, b2]
  · simp [z3, aN, b3]
  · simpa [z3, aN] using hh q hq
  · simpa [cWk, z3, aN] using hw q hq
  · simpa [z3, aN] using hl q hq i hi
  · rw [show (z3 S 0 0 7 v) 6 r = S 6 r from by funext x; simp [z3], show (z3 S 0 0 7 v) 7 r = S 7 r from by funext x; simp [z3]]
    exact hr r hr2
theorem cRm8 {n : Nat} {σ : aS} {S : zSt} {v : Int32} (h : cRel n σ S) : cRel n (aN σ 0 0 5 v) (z3 S 0 0 8 v) := by
  obtain ⟨⟨a1, a2, a3, a4, a5, a6, a7, a8⟩, ⟨b1, b2, b3⟩, hh, hw, hl, hr⟩ := h
  refine ⟨⟨?_, ?_, ?_, ?_, ?_, ?_, ?_, ?_⟩, ⟨?_, ?_, ?_⟩, fun q hq => ?_, fun q hq => ?_, fun q hq i hi => ?_, fun r hr2 => ?_⟩
  · simp [z3, aN, a1]
  · simp [z3, aN, a2]
  · simp [z3, aN, a3]
  · simp [z3, aN, a4]
  · simp [z3, aN, a5]
  · simp [z3, aN, a6]
  · simp [z3, aN, a7]
  · simp [z3, aN, a8]
  · simp [z3, aN, b1]
  · simp [z3, aN, b2]
  · simp [z3, aN, b3]
  · simpa [z3, aN] using hh q hq
  · simpa [cWk, z3, aN] using hw q hq
  · simpa [z3, aN] using hl q hq i hi
  · rw [show (z3 S 0 0 8 v) 6 r = S 6 r from by funext x; simp [z3], show (z3 S 0 0 8 v) 7 r = S 7 r from by funext x; simp [z3]]
    exact hr r hr2
theorem cRm9 {n : Nat} {σ : aS} {S : zSt} {v : Int32} (h : cRel n σ S) : cRel n (aN σ 0 0 7 v) (z3 S 0 0 9 v) := by
  obtain ⟨⟨a1, a2, a3, a4, a5, a6, a7, a8⟩, ⟨b1, b2, b3⟩, hh, hw, hl, hr⟩ := h
  refine ⟨⟨?_, ?_, ?_, ?_, ?_, ?_, ?_, ?_⟩, ⟨?_, ?_, ?_⟩, fun q hq => ?_, fun q hq => ?_, fun q hq i hi => ?_, fun r hr2 => ?_⟩
  · simp [z3, aN, a1]
  · simp [z3, aN, a2]
  · simp [z3, aN, a3]
  · simp [z3, aN, a4]
  · simp [z3, aN, a5]
  · simp [z3, aN, a6]
  · simp [z3, aN, a7]
  · simp [z3, aN, a8]
  · simp [z3, aN, b1]
  · simp [z3, aN, b2]
  · simp [z3, aN, b3]
  · simpa [z3, aN] using hh q hq
  · simpa [cWk, z3, aN] using hw q hq
  · simpa [z3, aN] using hl q hq i hi
  · rw [show (z3 S 0 0 9 v) 6 r = S 6 r from by funext x; simp [z3], show (z3 S 0 0 9 v) 7 r = S 7 r from by funext x; simp [z3]]
    exact hr r hr2
theorem cRm10 {n : Nat} {σ : aS} {S : zSt} {v : Int32} (h : cRel n σ S) : cRel n (aN σ 0 0 6 v) (z3 S 0 0 10 v) := by
  obtain ⟨⟨a1, a2, a3, a4, a5, a6, a7, a8⟩, ⟨b1, b2, b3⟩, hh, hw, hl, hr⟩ := h
  refine ⟨⟨?_, ?_, ?_, ?_, ?_, ?_, ?_, ?_⟩, ⟨?_, ?_, ?_⟩, fun q hq => ?_, fun q hq => ?_, fun q hq i hi => ?_, fun r hr2 => ?_⟩
  · simp [z3, aN, a1]
  · simp [z3, aN, a2]
  · simp [z3, aN, a3]
  · simp [z3, aN, a4]
  · simp [z3, aN, a5]
  · simp [z3, aN, a6]
  · simp [z3, aN, a7]
  · simp [z3, aN, a8]
  · simp [z3, aN, b1]
  · simp [z3, aN, b2]
  · simp [z3, aN, b3]
  · simpa [z3, aN] using hh q hq
  · simpa [cWk, z3, aN] using hw q hq
  · simpa [z3, aN] using hl q hq i hi
  · rw [show (z3 S 0 0 10 v) 6 r = S 6 r from by funext x; simp [z3], show (z3 S 0 0 10 v) 7 r = S 7 r from by funext x; simp [z3]]
    exact hr r hr2
theorem cRt1 {n : Nat} {σ : aS} {S : zSt} {v : Int32} (h : cRel n σ S) : cRel n (aN σ 0 0 20 v) (z3 S 3 0 1 v) := by
  obtain ⟨⟨a1, a2, a3, a4, a5, a6, a7, a8⟩, ⟨b1, b2, b3⟩, hh, hw, hl, hr⟩ := h
  refine ⟨⟨?_, ?_, ?_, ?_, ?_, ?_, ?_, ?_⟩, ⟨?_, ?_, ?_⟩, fun q hq => ?_, fun q hq => ?_, fun q hq i hi => ?_, fun r hr2 => ?_⟩
  · simp [z3, aN, a1]
  · simp [z3, aN, a2]
  · simp [z3, aN, a3]
  · simp [z3, aN, a4]
  · simp [z3, aN, a5]
  · simp [z3, aN, a6]
  · simp [z3, aN, a7]
  · simp [z3, aN, a8]
  · simp [z3, aN, b1]
  · simp [z3, aN, b2]
  · simp [z3, aN, b3]
  · simpa [z3, aN] using hh q hq
  · simpa [cWk, z3, aN] using hw q hq
  · simpa [z3, aN] using hl q hq i hi
  · rw [show (z3 S 3 0 1 v) 6 r = S 6 r from by funext x; simp [z3], show (z3 S 3 0 1 v) 7 r = S 7 r from by funext x; simp [z3]]
    exact hr r hr2
theorem cRt2 {n : Nat} {σ : aS} {S : zSt} {v : Int32} (h : cRel n σ S) : cRel n (aN σ 0 0 21 v) (z3 S 3 0 2 v) := by
  obtain ⟨⟨a1, a2, a3, a4, a5, a6, a7, a8⟩, ⟨b1, b2, b3⟩, hh, hw, hl, hr⟩ := h
  refine ⟨⟨?_, ?_, ?_, ?_, ?_, ?_, ?_, ?_⟩, ⟨?_, ?_, ?_⟩, fun q hq => ?_, fun q hq => ?_, fun q hq i hi => ?_, fun r hr2 => ?_⟩
  · simp [z3, aN, a1]
  · simp [z3, aN, a2]
  · simp [z3, aN, a3]
  · simp [z3, aN, a4]
  · simp [z3, aN, a5]
  · simp [z3, aN, a6]
  · simp [z3, aN, a7]
  · simp [z3, aN, a8]
  · simp [z3, aN, b1]
  · simp [z3, aN, b2]
  · simp [z3, aN, b3]
  · simpa [z3, aN] using hh q hq
  · simpa [cWk, z3, aN] using hw q hq
  · simpa [z3, aN] using hl q hq i hi
  · rw [show (z3 S 3 0 2 v) 6 r = S 6 r from by funext x; simp [z3], show (z3 S 3 0 2 v) 7 r = S 7 r from by funext x; simp [z3]]
    exact hr r hr2
theorem cRt3 {n : Nat} {σ : aS} {S : zSt} {v : Int32} (h : cRel n σ S) : cRel n (aN σ 0 0 19 v) (z3 S 3 0 3 v) := by
  obtain ⟨⟨a1, a2, a3, a4, a5, a6, a7, a8⟩, ⟨b1, b2, b3⟩, hh, hw, hl, hr⟩ := h
  refine ⟨⟨?_, ?_, ?_, ?_, ?_, ?_, ?_, ?_⟩, ⟨?_, ?_, ?_⟩, fun q hq => ?_, fun q hq => ?_, fun q hq i hi => ?_, fun r hr2 => ?_⟩
  · simp [z3, aN, a1]
  · simp [z3, aN, a2]
  · simp [z3, aN, a3]
  · simp [z3, aN, a4]
  · simp [z3, aN, a5]
  · simp [z3, aN, a6]
  · simp [z3, aN, a7]
  · simp [z3, aN, a8]
  · simp [z3, aN, b1]
  · simp [z3, aN, b2]
  · simp [z3, aN, b3]
  · simpa [z3, aN] using hh q hq
  · simpa [cWk, z3, aN] using hw q hq
  · simpa [z3, aN] using hl q hq i hi
  · rw [show (z3 S 3 0 3 v) 6 r = S 6 r from by funext x; simp [z3], show (z3 S 3 0 3 v) 7 r = S 7 r from by funext x; simp [z3]]
    exact hr r hr2
theorem cRw1 {n : Nat} {σ : aS} {S : zSt} {v : Int32} {p : Nat} (h : cRel n σ S) : cRel n (aN σ 1 8 p v) (z3 S 4 p 1 v) := by
  obtain ⟨⟨a1, a2, a3, a4, a5, a6, a7, a8⟩, ⟨b1, b2, b3⟩, hh, hw, hl, hr⟩ := h
  refine ⟨⟨?_, ?_, ?_, ?_, ?_, ?_, ?_, ?_⟩, ⟨?_, ?_, ?_⟩, fun q hq => ?_, fun q hq => ?_, fun q hq i hi => ?_, fun r hr2 => ?_⟩
  · simp [z3, aN, a1]
  · simp [z3, aN, a2]
  · simp [z3, aN, a3]
  · simp [z3, aN, a4]
  · simp [z3, aN, a5]
  · simp [z3, aN, a6]
  · simp [z3, aN, a7]
  · simp [z3, aN, a8]
  · simp [z3, aN, b1]
  · simp [z3, aN, b2]
  · simp [z3, aN, b3]
  · simpa [z3, aN] using hh q hq
  · obtain ⟨w1, w2, w3, w4, w5, w6, w7, w8, w9, w10⟩ := hw q hq
    by_cases hqp : q = p
    · subst hqp
      refine ⟨?_, ?_, ?_, ?_, ?_, ?_, ?_, ?_, ?_, ?_⟩ <;> simp [z3, aN, w1, w2, w3, w4, w5, w6, w7, w8, w9, w10]
    · refine ⟨?_, ?_, ?_, ?_, ?_, ?_, ?_, ?_, ?_, ?_⟩ <;> simp [z3, aN, hqp, w1, w2, w3, w4, w5, w6, w7, w8, w9, w10]
  · simpa [z3, aN] using hl q hq i hi
  · rw [show (z3 S 4 p 1 v) 6 r = S 6 r from by funext x; simp [z3], show (z3 S 4 p 1 v) 7 r = S 7 r from by funext x; simp [z3]]
    exact hr r hr2
theorem cRw2 {n : Nat} {σ : aS} {S : zSt} {v : Int32} {p : Nat} (h : cRel n σ S) : cRel n (aN σ 1 12 p v) (z3 S 4 p 2 v) := by
  obtain ⟨⟨a1, a2, a3, a4, a5, a6, a7, a8⟩, ⟨b1, b2, b3⟩, hh, hw, hl, hr⟩ := h
  refine ⟨⟨?_, ?_, ?_, ?_, ?_, ?_, ?_, ?_⟩, ⟨?_, ?_, ?_⟩, fun q hq => ?_, fun q hq => ?_, fun q hq i hi => ?_, fun r hr2 => ?_⟩
  · simp [z3, aN, a1]
  · simp [z3, aN, a2]
  · simp [z3, aN, a3]
  · simp [z3, aN, a4]
  · simp [z3, aN, a5]
  · simp [z3, aN, a6]
  · simp [z3, aN, a7]
  · simp [z3, aN, a8]
  · simp [z3, aN, b1]
  · simp [z3, aN, b2]
  · simp [z3, aN, b3]
  · simpa [z3, aN] using hh q hq
  · obtain ⟨w1, w2, w3, w4, w5, w6, w7, w8, w9, w10⟩ := hw q hq
    by_cases hqp : q = p
    · subst hqp
      refine ⟨?_, ?_, ?_, ?_, ?_, ?_, ?_, ?_, ?_, ?_⟩ <;> simp [z3, aN, w1, w2, w3, w4, w5, w6, w7, w8, w9, w10]
    · refine ⟨?_, ?_, ?_, ?_, ?_, ?_, ?_, ?_, ?_, ?_⟩ <;> simp [z3, aN, hqp, w1, w2, w3, w4, w5, w6, w7, w8, w9, w10]
  · simpa [z3, aN] using hl q hq i hi
  · rw [show (z3 S 4 p 2 v) 6 r = S 6 r from by funext x; simp [z3], show (z3 S 4 p 2 v) 7 r = S 7 r from by funext x; simp [z3]]
    exact hr r hr2
theorem cRw3 {n : Nat} {σ : aS} {S : zSt} {v : Int32} {p : Nat} (h : cRel n σ S) : cRel n (aN σ 1 9 p v) (z3 S 4 p 3 v) := by
  obtain ⟨⟨a1, a2, a3, a4, a5, a6, a7, a8⟩, ⟨b1, b2, b3⟩, hh, hw, hl, hr⟩ := h
  refine ⟨⟨?_, ?_, ?_, ?_, ?_, ?_, ?_, ?_⟩, ⟨?_, ?_, ?_⟩, fun q hq => ?_, fun q hq => ?_, fun q hq i hi => ?_, fun r hr2 => ?_⟩
  · simp [z3, aN, a1]
  · simp [z3, aN, a2]
  · simp [z3, aN, a3]
  · simp [z3, aN, a4]
  · simp [z3, aN, a5]
  · simp [z3, aN, a6]
  · simp [z3, aN, a7]
  · simp [z3, aN, a8]
  · simp [z3, aN, b1]
  · simp [z3, aN, b2]
  · simp [z3, aN, b3]
  · simpa [z3, aN] using hh q hq
  · obtain ⟨w1, w2, w3, w4, w5, w6, w7, w8, w9, w10⟩ := hw q hq
    by_cases hqp : q = p
    · subst hqp
      refine ⟨?_, ?_, ?_, ?_, ?_, ?_, ?_, ?_, ?_, ?_⟩ <;> simp [z3, aN, w1, w2, w3, w4, w5, w6, w7, w8, w9, w10]
    · refine ⟨?_, ?_, ?_, ?_, ?_, ?_, ?_, ?_, ?_, ?_⟩ <;> simp [z3, aN, hqp, w1, w2, w3, w4, w5, w6, w7, w8, w9, w10]
  · simpa [z3, aN] using hl q hq i hi
  · rw [show (z3 S 4 p 3 v) 6 r = S 6 r from by funext x; simp [z3], show (z3 S 4 p 3 v) 7 r = S 7 r from by funext x; simp [z3]]
    exact hr r hr2
theorem cRw4 {n : Nat} {σ : aS} {S : zSt} {v : Int32} {p : Nat} (h : cRel n σ S) : cRel n (aN σ 1 10 p v) (z3 S 4 p 4 v) := by
  obtain ⟨⟨a1, a2, a3, a4, a5, a6, a7, a8⟩, ⟨b1, b2, b3⟩, hh, hw, hl, hr⟩ := h
  refine ⟨⟨?_, ?_, ?_, ?_, ?_, ?_, ?_, ?_⟩, ⟨?_, ?_, ?_⟩, fun q hq => ?_, fun q hq => ?_, fun q hq i hi => ?_, fun r hr2 => ?_⟩
  · simp [z3, aN, a1]
  · simp [z3, aN, a2]
  · simp [z3, aN, a3]
  · simp [z3, aN, a4]
  · simp [z3, aN, a5]
  · simp [z3, aN, a6]
  · simp [z3, aN, a7]
  · simp [z3, aN, a8]
  · simp [z3, aN, b1]
  · simp [z3, aN, b2]
  · simp [z3, aN, b3]
  · simpa [z3, aN] using hh q hq
  · obtain ⟨w1, w2, w3, w4, w5, w6, w7, w8, w9, w10⟩ := hw q hq
    by_cases hqp : q = p
    · subst hqp
      refine ⟨?_, ?_, ?_, ?_, ?_, ?_, ?_, ?_, ?_, ?_⟩ <;> simp [z3, aN, w1, w2, w3, w4, w5, w6, w7, w8, w9, w10]
    · refine ⟨?_, ?_, ?_, ?_, ?_, ?_, ?_, ?_, ?_, ?_⟩ <;> simp [z3, aN, hqp, w1, w2, w3, w4, w5, w6, w7, w8, w9, w10]
  · simpa [z3, aN] using hl q hq i hi
  · rw [show (z3 S 4 p 4 v) 6 r = S 6 r from by funext x; simp [z3], show (z3 S 4 p 4 v) 7 r = S 7 r from by funext x; simp [z3]]
    exact hr r hr2
theorem cRw5 {n : Nat} {σ : aS} {S : zSt} {v : Int32} {p : Nat} (h : cRel n σ S) : cRel n (aN σ 1 11 p v) (z3 S 4 p 5 v) := by
  obtain ⟨⟨a1, a2, a3, a4, a5, a6, a7, a8⟩, ⟨b1, b2, b3⟩, hh, hw, hl, hr⟩ := h
  refine ⟨⟨?_, ?_, ?_, ?_, ?_, ?_, ?_, ?_⟩, ⟨?_, ?_, ?_⟩, fun q hq => ?_, fun q hq => ?_, fun q hq i hi => ?_, fun r hr2 => ?_⟩
  · simp [z3, aN, a1]
  · simp [z3, aN, a2]
  · simp [z3, aN, a3]
  · simp [z3, aN, a4]
  · simp [z3, aN, a5]
  · simp [z3, aN, a6]
  · simp [z3, aN, a7]
  · simp [z3, aN, a8]
  · simp [z3, aN, b1]
  · simp [z3, aN, b2]
  · simp [z3, aN, b3]
  · simpa [z3, aN] using hh q hq
  · obtain ⟨w1, w2, w3, w4, w5, w6, w7, w8, w9, w10⟩ := hw q hq
    by_cases hqp : q = p
    · subst hqp
      refine ⟨?_, ?_, ?_, ?_, ?_, ?_, ?_, ?_, ?_, ?_⟩ <;> simp [z3, aN, w1, w2, w3, w4, w5, w6, w7, w8, w9, w10]
    · refine ⟨?_, ?_, ?_, ?_, ?_, ?_, ?_, ?_, ?_, ?_⟩ <;> simp [z3, aN, hqp, w1, w2, w3, w4, w5, w6, w7, w8, w9, w10]
  · simpa [z3, aN] using hl q hq i hi
  · rw [show (z3 S 4 p 5 v) 6 r = S 6 r from by funext x; simp [z3], show (z3 S 4 p 5 v) 7 r = S 7 r from by funext x; simp [z3]]
    exact hr r hr2
theorem cRw9 {n : Nat} {σ : aS} {S : zSt} {v : Int32} {p : Nat} (h : cRel n σ S) : cRel n (aN σ 1 14 p v) (z3 S 4 p 9 v) := by
  obtain ⟨⟨a1, a2, a3, a4, a5, a6, a7, a8⟩, ⟨b1, b2, b3⟩, hh, hw, hl, hr⟩ := h
  refine ⟨⟨?_, ?_, ?_, ?_, ?_, ?_, ?_, ?_⟩, ⟨?_, ?_, ?_⟩, fun q hq => ?_, fun q hq => ?_, fun q hq i hi => ?_, fun r hr2 => ?_⟩
  · simp [z3, aN, a1]
  · simp [z3, aN, a2]
  · simp [z3, aN, a3]
  · simp [z3, aN, a4]
  · simp [z3, aN, a5]
  · simp [z3, aN, a6]
  · simp [z3, aN, a7]
  · simp [z3, aN, a8]
  · simp [z3, aN, b1]
  · simp [z3, aN, b2]
  · simp [z3, aN, b3]
  · simpa [z3, aN] using hh q hq
  · obtain ⟨w1, w2, w3, w4, w5, w6, w7, w8, w9, w10⟩ := hw q hq
    by_cases hqp : q = p
    · subst hqp
      refine ⟨?_, ?_, ?_, ?_, ?_, ?_, ?_, ?_, ?_, ?_⟩ <;> simp [z3, aN, w1, w2, w3, w4, w5, w6, w7, w8, w9, w10]
    · refine ⟨?_, ?_, ?_, ?_, ?_, ?_, ?_, ?_, ?_, ?_⟩ <;> simp [z3, aN, hqp, w1, w2, w3, w4, w5, w6, w7, w8, w9, w10]
  · simpa [z3, aN] using hl q hq i hi
  · rw [show (z3 S 4 p 9 v) 6 r = S 6 r from by funext x; simp [z3], show (z3 S 4 p 9 v) 7 r = S 7 r from by funext x; simp [z3]]
    exact hr r hr2
theorem cRw10 {n : Nat} {σ : aS} {S : zSt} {v : Int32} {p : Nat} (h : cRel n σ S) : cRel n (aN σ 1 15 p v) (z3 S 4 p 10 v) := by
  obtain ⟨⟨a1, a2, a3, a4, a5, a6, a7, a8⟩, ⟨b1, b2, b3⟩, hh, hw, hl, hr⟩ := h
  refine ⟨⟨?_, ?_, ?_, ?_, ?_, ?_, ?_, ?_⟩, ⟨?_, ?_, ?_⟩, fun q hq => ?_, fun q hq => ?_, fun q hq i hi => ?_, fun r hr2 => ?_⟩
  · simp [z3, aN, a1]
  · simp [z3, aN, a2]
  · simp [z3, aN, a3]
  · simp [z3, aN, a4]
  · simp [z3, aN, a5]
  · simp [z3, aN, a6]
  · simp [z3, aN, a7]
  · simp [z3, aN, a8]
  · simp [z3, aN, b1]
  · simp [z3, aN, b2]
  · simp [z3, aN, b3]
  · simpa [z3, aN] using hh q hq
  · obtain ⟨w1, w2, w3, w4, w5, w6, w7, w8, w9, w10⟩ := hw q hq
    by_cases hqp : q = p
    · subst hqp
      refine ⟨?_, ?_, ?_, ?_, ?_, ?_, ?_, ?_, ?_, ?_⟩ <;> simp [z3, aN, w1, w2, w3, w4, w5, w6, w7, w8, w9, w10]
    · refine ⟨?_, ?_, ?_, ?_, ?_, ?_, ?_, ?_, ?_, ?_⟩ <;> simp [z3, aN, hqp, w1, w2, w3, w4, w5, w6, w7, w8, w9, w10]
  · simpa [z3, aN] using hl q hq i hi
  · rw [show (z3 S 4 p 10 v) 6 r = S 6 r from by funext x; simp [z3], show (z3 S 4 p 10 v) 7 r = S 7 r from by funext x; simp [z3]]
    exact hr r hr2
theorem cRl {n : Nat} {σ : aS} {S : zSt} {v : Int32} {p j : Nat} (h : cRel n σ S) (hn : n ≤ 10) (hp : p < n) (hj : j < n) : cRel n (aN σ 1 18 (10 * p + j) v) (z3 S 5 p j v) := by
  obtain ⟨⟨a1, a2, a3, a4, a5, a6, a7, a8⟩, ⟨b1, b2, b3⟩, hh, hw, hl, hr⟩ := h
  refine ⟨⟨?_, ?_, ?_, ?_, ?_, ?_, ?_, ?_⟩, ⟨?_, ?_, ?_⟩, fun q hq => ?_, fun q hq => ?_, fun q hq i hi => ?_, fun r hr2 => ?_⟩
  · simp [z3, aN, a1]
  · simp [z3, aN, a2]
  · simp [z3, aN, a3]
  · simp [z3, aN, a4]
  · simp [z3, aN, a5]
  · simp [z3, aN, a6]
  · simp [z3, aN, a7]
  · simp [z3, aN, a8]
  · simp [z3, aN, b1]
  · simp [z3, aN, b2]
  · simp [z3, aN, b3]
  · simpa [z3, aN] using hh q hq
  · simpa [cWk, z3, aN] using hw q hq
  · by_cases hqp : q = p
    · subst hqp
      by_cases hij : i = j
      · subst hij; simp [z3, aN]
      · have : ¬ (10 * q + i = 10 * q + j) := by omega
        simpa [z3, aN, hij, this] using hl q hq i hi
    · have : ¬ (10 * q + i = 10 * p + j) := by omega
      simpa [z3, aN, hqp, this] using hl q hq i hi
  · rw [show (z3 S 5 p j v) 6 r = S 6 r from by funext x; simp [z3], show (z3 S 5 p j v) 7 r = S 7 r from by funext x; simp [z3]]
    exact hr r hr2
theorem cRh0 {n : Nat} {σ : aS} {S : zSt} {p : Nat} (h : cRel n σ S) (hn : n ≤ 10) (hp : p < n) (h0 : S 3 0 0 = nI p) : cRel n (aN σ 1 13 p 0) (z3 S 3 0 0 (-1)) := by
  obtain ⟨⟨a1, a2, a3, a4, a5, a6, a7, a8⟩, ⟨b1, b2, b3⟩, hh, hw, hl, hr⟩ := h
  refine ⟨⟨?_, ?_, ?_, ?_, ?_, ?_, ?_, ?_⟩, ⟨?_, ?_, ?_⟩, fun q hq => ?_, fun q hq => ?_, fun q hq i hi => ?_, fun r hr2 => ?_⟩
  · simp [z3, aN, a1]
  · simp [z3, aN, a2]
  · simp [z3, aN, a3]
  · simp [z3, aN, a4]
  · simp [z3, aN, a5]
  · simp [z3, aN, a6]
  · simp [z3, aN, a7]
  · simp [z3, aN, a8]
  · simp [z3, aN, b1]
  · simp [z3, aN, b2]
  · simp [z3, aN, b3]
  · have hq1 : ¬ ((-1 : Int32) = nI q) := by
      intro hc
      have := nI_pos (n := q) (by omega)
      rw [← hc] at this
      exact this (by decide)
    by_cases hqp : q = p
    · subst hqp; simp [z3, aN, hq1]
    · have h2 := hh q hq
      rw [if_neg (by rw [h0]; intro hc; exact hqp ((nI_eq (by omega) (by omega)).mp hc).symm)] at h2
      simp [z3, aN, hqp, hq1, h2]
  · simpa [cWk, z3, aN] using hw q hq
  · simpa [z3, aN] using hl q hq i hi
  · rw [show (z3 S 3 0 0 (-1)) 6 r = S 6 r from by funext x; simp [z3], show (z3 S 3 0 0 (-1)) 7 r = S 7 r from by funext x; simp [z3]]
    exact hr r hr2
theorem cRh1 {n : Nat} {σ : aS} {S : zSt} {p : Nat} (h : cRel n σ S) (hn : n ≤ 10) (hp : p < n) (h0 : ∀ q, q < n → σ.1 1 13 q = 0) : cRel n (aN σ 1 13 p 1) (z3 S 3 0 0 (nI p)) := by
  obtain ⟨⟨a1, a2, a3, a4, a5, a6, a7, a8⟩, ⟨b1, b2, b3⟩, hh, hw, hl, hr⟩ := h
  refine ⟨⟨?_, ?_, ?_, ?_, ?_, ?_, ?_, ?_⟩, ⟨?_, ?_, ?_⟩, fun q hq => ?_, fun q hq => ?_, fun q hq i hi => ?_, fun r hr2 => ?_⟩
  · simp [z3, aN, a1]
  · simp [z3, aN, a2]
  · simp [z3, aN, a3]
  · simp [z3, aN, a4]
  · simp [z3, aN, a5]
  · simp [z3, aN, a6]
  · simp [z3, aN, a7]
  · simp [z3, aN, a8]
  · simp [z3, aN, b1]
  · simp [z3, aN, b2]
  · simp [z3, aN, b3]
  · by_cases hqp : q = p
    · subst hqp; simp [z3, aN]
    · have : ¬ (nI p = nI q) := fun hc => hqp ((nI_eq (by omega) (by omega)).mp hc).symm
      simp [z3, aN, hqp, this, h0 q hq]
  · simpa [cWk, z3, aN] using hw q hq
  · simpa [z3, aN] using hl q hq i hi
  · rw [show (z3 S 3 0 0 (nI p)) 6 r = S 6 r from by funext x; simp [z3], show (z3 S 3 0 0 (nI p)) 7 r = S 7 r from by funext x; simp [z3]]
    exact hr r hr2
theorem aBits_lt (f : Nat → Bool) : ∀ n, aBits f n < 2 ^ n
  | 0 => by simp [aBits]
  | n + 1 => by
    have := aBits_lt f n
    simp only [aBits, Nat.pow_succ]
    split <;> omega
theorem aBits_bit (f : Nat → Bool) : ∀ (n q : Nat), (aBits f n).testBit q = (decide (q < n) && f q)
  | 0, q => by simp [aBits]
  | n + 1, q => by
    have ih := aBits_bit f n q
    have hlt := aBits_lt f n
    simp only [aBits]
    by_cases hf : f n = true
    · rw [if_pos hf, Nat.add_comm]
      by_cases hq : q = n
      · subst hq
        rw [Nat.testBit_two_pow_add_eq, ih]
        simp [hf]
      · by_cases hql : q < n
        · rw [Nat.testBit_two_pow_add_gt hql, ih]
          have : q < n + 1 := by omega
          simp [hql, this]
        · have h1 : 2 ^ n + aBits f n < 2 ^ q := by
            calc 2 ^ n + aBits f n < 2 ^ n + 2 ^ n := by omega
              _ = 2 ^ (n + 1) := by rw [Nat.pow_succ]; omega
              _ ≤ 2 ^ q := Nat.pow_le_pow_right (by decide) (by omega)
          rw [Nat.testBit_lt_two_pow h1]
          have : ¬ q < n + 1 := by omega
          simp [this]
    · rw [if_neg hf, Nat.add_zero, ih]
      by_cases hq : q = n
      · subst hq
        simp [hf]
      · have : (q < n) ↔ (q < n + 1) := by omega
        simp [this]
theorem aBits_ext {f : Nat → Bool} {n x : Nat} (hx : x < 2 ^ 32) (hn : n ≤ 10) (h : ∀ q, q < 32 → x.testBit q = (decide (q < n) && f q)) : x = aBits f n := by
  apply Nat.eq_of_testBit_eq
  intro q
  rw [aBits_bit]
  by_cases hq : q < 32
  · exact h q hq
  · rw [Nat.testBit_lt_two_pow (Nat.lt_of_lt_of_le hx (Nat.pow_le_pow_right (by decide) (by omega)))]
    have : ¬ q < n := by omega
    simp [this]
theorem aBits_zero {f : Nat → Bool} {n : Nat} : aBits f n = 0 ↔ aCnt f n = 0 := by
  rw [aCnt_zero]
  constructor
  · intro h k hk
    have := aBits_bit f n k
    rw [h] at this
    simpa [hk] using this.symm
  · intro h
    apply Nat.eq_of_testBit_eq
    intro q
    rw [aBits_bit]
    by_cases hq : q < n
    · simp [hq, h q hq]
    · simp [hq]
theorem aBits_10 {f : Nat → Bool} {n : Nat} (hn : n ≤ 10) : aBits f n < 1024 := Nat.lt_of_lt_of_le (aBits_lt f n) (Nat.pow_le_pow_right (by decide) hn)
theorem cRw6 {n : Nat} {σ : aS} {S : zSt} {p j : Nat} {v x : Int32} (h : cRel n σ S) (hn : n ≤ 10) (hp : p < n) (hj : j < n) (hx : x = nI (aBits (fun q => (aN σ 1 16 (10 * p + j) v).1 1 16 (10 * p + q) != 0) n)) : cRel n (aN σ 1 16 (10 * p + j) v) (z3 S 4 p 6 x) := by
  obtain ⟨⟨a1, a2, a3, a4, a5, a6, a7, a8⟩, ⟨b1, b2, b3⟩, hh, hw, hl, hr⟩ := h
  refine ⟨⟨?_, ?_, ?_, ?_, ?_, ?_, ?_, ?_⟩, ⟨?_, ?_, ?_⟩, fun q hq => ?_, fun q hq => ?_, fun q hq i hi => ?_, fun r hr2 => ?_⟩
  · simp [z3, aN, a1]
  · simp [z3, aN, a2]
  · simp [z3, aN, a3]
  · simp [z3, aN, a4]
  · simp [z3, aN, a5]
  · simp [z3, aN, a6]
  · simp [z3, aN, a7]
  · simp [z3, aN, a8]
  · simp [z3, aN, b1]
  · simp [z3, aN, b2]
  · simp [z3, aN, b3]
  · simpa [z3, aN] using hh q hq
  · obtain ⟨w1, w2, w3, w4, w5, w6, w7, w8, w9, w10⟩ := hw q hq
    by_cases hqp : q = p
    · subst hqp
      refine ⟨?_, ?_, ?_, ?_, ?_, ?_, ?_, ?_, ?_, ?_⟩ <;> first | (simpa [z3] using hx) | simp [z3, aN, w1, w2, w3, w4, w5, w6, w7, w8, w9, w10]
    · have e : aBits (fun x => (aN σ 1 16 (10 * p + j) v).1 1 16 (10 * q + x) != 0) n = aBits (fun x => σ.1 1 16 (10 * q + x) != 0) n := aBits_cong (fun x hx => by
        have : ¬ (10 * q + x = 10 * p + j) := by omega
        simp [aN, z3, this])
      refine ⟨?_, ?_, ?_, ?_, ?_, ?_, ?_, ?_, ?_, ?_⟩ <;> first | (simp only [e]; simp [z3, hqp, w6, w7, w8]; done) | simp [z3, aN, hqp, w1, w2, w3, w4, w5, w6, w7, w8, w9, w10]
  · simpa [z3, aN] using hl q hq i hi
  · rw [show (z3 S 4 p 6 x) 6 r = S 6 r from by funext x; simp [z3], show (z3 S 4 p 6 x) 7 r = S 7 r from by funext x; simp [z3]]
    exact hr r hr2
theorem cRw7 {n : Nat} {σ : aS} {S : zSt} {p j : Nat} {v x : Int32} (h : cRel n σ S) (hn : n ≤ 10) (hp : p < n) (hj : j < n) (hx : x = nI (aBits (fun q => (aN σ 1 30 (10 * p + j) v).1 1 30 (10 * p + q) != 0) n)) : cRel n (aN σ 1 30 (10 * p + j) v) (z3 S 4 p 7 x) := by
  obtain ⟨⟨a1, a2, a3, a4, a5, a6, a7, a8⟩, ⟨b1, b2, b3⟩, hh, hw, hl, hr⟩ := h
  refine ⟨⟨?_, ?_, ?_, ?_, ?_, ?_, ?_, ?_⟩, ⟨?_, ?_, ?_⟩, fun q hq => ?_, fun q hq => ?_, fun q hq i hi => ?_, fun r hr2 => ?_⟩
  · simp [z3, aN, a1]
  · simp [z3, aN, a2]
  · simp [z3, aN, a3]
  · simp [z3, aN, a4]
  · simp [z3, aN, a5]
  · simp [z3, aN, a6]
  · simp [z3, aN, a7]
  · simp [z3, aN, a8]
  · simp [z3, aN, b1]
  · simp [z3, aN, b2]
  · simp [z3, aN, b3]
  · simpa [z3, aN] using hh q hq
  · obtain ⟨w1, w2, w3, w4, w5, w6, w7, w8, w9, w10⟩ := hw q hq
    by_cases hqp : q = p
    · subst hqp
      refine ⟨?_, ?_, ?_, ?_, ?_, ?_, ?_, ?_, ?_, ?_⟩ <;> first | (simpa [z3] using hx) | simp [z3, aN, w1, w2, w3, w4, w5, w6, w7, w8, w9, w10]
    · have e : aBits (fun x => (aN σ 1 30 (10 * p + j) v).1 1 30 (10 * q + x) != 0) n = aBits (fun x => σ.1 1 30 (10 * q + x) != 0) n := aBits_cong (fun x hx => by
        have : ¬ (10 * q + x = 10 * p + j) := by omega
        simp [aN, z3, this])
      refine ⟨?_, ?_, ?_, ?_, ?_, ?_, ?_, ?_, ?_, ?_⟩ <;> first | (simp only [e]; simp [z3, hqp, w6, w7, w8]; done) | simp [z3, aN, hqp, w1, w2, w3, w4, w5, w6, w7, w8, w9, w10]
  · simpa [z3, aN] using hl q hq i hi
  · rw [show (z3 S 4 p 7 x) 6 r = S 6 r from by funext x; simp [z3], show (z3 S 4 p 7 x) 7 r = S 7 r from by funext x; simp [z3]]
    exact hr r hr2
theorem cRw8 {n : Nat} {σ : aS} {S : zSt} {p j : Nat} {v x : Int32} (h : cRel n σ S) (hn : n ≤ 10) (hp : p < n) (hj : j < n) (hx : x = nI (aBits (fun q => (aN σ 1 17 (10 * p + j) v).1 1 17 (10 * p + q) != 0) n)) : cRel n (aN σ 1 17 (10 * p + j) v) (z3 S 4 p 8 x) := by
  obtain ⟨⟨a1, a2, a3, a4, a5, a6, a7, a8⟩, ⟨b1, b2, b3⟩, hh, hw, hl, hr⟩ := h
  refine ⟨⟨?_, ?_, ?_, ?_, ?_, ?_, ?_, ?_⟩, ⟨?_, ?_, ?_⟩, fun q hq => ?_, fun q hq => ?_, fun q hq i hi => ?_, fun r hr2 => ?_⟩
  · simp [z3, aN, a1]
  · simp [z3, aN, a2]
  · simp [z3, aN, a3]
  · simp [z3, aN, a4]
  · simp [z3, aN, a5]
  · simp [z3, aN, a6]
  · simp [z3, aN, a7]
  · simp [z3, aN, a8]
  · simp [z3, aN, b1]
  · simp [z3, aN, b2]
  · simp [z3, aN, b3]
  · simpa [z3, aN] using hh q hq
  · obtain ⟨w1, w2, w3, w4, w5, w6, w7, w8, w9, w10⟩ := hw q hq
    by_cases hqp : q = p
    · subst hqp
      refine ⟨?_, ?_, ?_, ?_, ?_, ?_, ?_, ?_, ?_, ?_⟩ <;> first | (simpa [z3] using hx) | simp [z3, aN, w1, w2, w3, w4, w5, w6, w7, w8, w9, w10]
    · have e : aBits (fun x => (aN σ 1 17 (10 * p + j) v).1 1 17 (10 * q + x) != 0) n = aBits (fun x => σ.1 1 17 (10 * q + x) != 0) n := aBits_cong (fun x hx => by
        have : ¬ (10 * q + x = 10 * p + j) := by omega
        simp [aN, z3, this])
      refine ⟨?_, ?_, ?_, ?_, ?_, ?_, ?_, ?_, ?_, ?_⟩ <;> first | (simp only [e]; simp [z3, hqp, w6, w7, w8]; done) | simp [z3, aN, hqp, w1, w2, w3, w4, w5, w6, w7, w8, w9, w10]
  · simpa [z3, aN] using hl q hq i hi
  · rw [show (z3 S 4 p 8 x) 6 r = S 6 r from by funext x; simp [z3], show (z3 S 4 p 8 x) 7 r = S 7 r from by funext x; simp [z3]]
    exact hr r hr2
