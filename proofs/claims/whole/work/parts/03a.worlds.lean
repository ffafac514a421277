/-! ===== THE TWO WORLDS ===== -/
/-- the class: 0 the object, 1 workers, 2 rows, 3 token, 4 a worker, 5 its latestProbe, 6 a row, 7 its cells; cap: how many cells -/
def cSh (K : zKs) (n : Nat) (cap : Nat → Nat) : zSh := fun i => match i with
  | (0, _) => .inl (3, [none, some (1, 0), some (2, 0), some (3, 0), none, none, none, none, none, none, none])
  | (1, _) => .inr (K.2.2.1, n, some (fun p => some (4, p)))
  | (2, _) => .inr (K.2.2.2, n * n, some (fun r => if r / n = r % n then none else some (6, r)))
  | (3, _) => .inl (1, [none, none, none, none])
  | (4, p) => .inl (2, [some (5, p), none, none, none, none, none, none, none, none, none, none])
  | (5, _) => .inr (K.1, n, none)
  | (6, r) => .inl (0, [some (7, r), none, none, none])
  | (7, r) => .inr (K.1, cap r, none)
  | _ => .inr (K.1, 0, none)
def cRow (n r : Nat) : Prop := r < n * n ∧ r / n ≠ r % n
def cRs (n : Nat) : List Nat := (List.range (n * n)).filter (fun r => decide (r / n ≠ r % n))
def cIL (n : Nat) : List zI := [(0, 0), (1, 0), (2, 0), (3, 0)] ++ (List.range n).map (fun p => (4, p)) ++ (List.range n).map (fun p => (5, p)) ++ (cRs n).map (fun r => (6, r)) ++ (cRs n).map (fun r => (7, r))
theorem cRs_mem {n r : Nat} : r ∈ cRs n ↔ cRow n r := by simp [cRs, cRow]
theorem cm0 {n : Nat} : (0, 0) ∈ cIL n := by simp [cIL]
theorem cm1 {n : Nat} : (1, 0) ∈ cIL n := by simp [cIL]
theorem cm2 {n : Nat} : (2, 0) ∈ cIL n := by simp [cIL]
theorem cm3 {n : Nat} : (3, 0) ∈ cIL n := by simp [cIL]
theorem cm4 {n p : Nat} (h : p < n) : (4, p) ∈ cIL n := by simp [cIL, h]
theorem cm5 {n p : Nat} (h : p < n) : (5, p) ∈ cIL n := by simp [cIL, h]
theorem cm6 {n r : Nat} (h : cRow n r) : (6, r) ∈ cIL n := by simp [cIL, cRs_mem, h]
theorem cm7 {n r : Nat} (h : cRow n r) : (7, r) ∈ cIL n := by simp [cIL, cRs_mem, h]
/-- the reference: 0 the object, 1 its arrays by the number of the field -/
def rSh (K : zKs) : zSh := fun i => match i with
  | (0, _) => .inl (4, [none, none, none, none, none, none, none, none, some (1, 8), some (1, 9), some (1, 10), some (1, 11), some (1, 12), some (1, 13), some (1, 14), some (1, 15), some (1, 16), some (1, 17), some (1, 18), none, none, none, some (1, 22), some (1, 23), some (1, 24), some (1, 25), some (1, 26)])
  | (_, 8) => .inr (K.2.1, 10, none)
  | (_, 9) => .inr (K.1, 10, none)
  | (_, 10) => .inr (K.1, 10, none)
  | (_, 11) => .inr (K.1, 10, none)
  | (_, 12) => .inr (K.2.1, 10, none)
  | (_, 13) => .inr (K.2.1, 10, none)
  | (_, 14) => .inr (K.1, 10, none)
  | (_, 15) => .inr (K.1, 10, none)
  | (_, 16) => .inr (K.2.1, 100, none)
  | (_, 17) => .inr (K.2.1, 100, none)
  | (_, 18) => .inr (K.1, 100, none)
  | (_, 22) => .inr (K.1, 100, none)
  | (_, 23) => .inr (K.1, 64000, none)
  | (_, 24) => .inr (K.1, 64000, none)
  | (_, 25) => .inr (K.1, 64000, none)
  | (_, 26) => .inr (K.2.1, 10, none)
  | _ => .inr (K.1, 0, none)
def rIL : List zI := [(0, 0), (1, 8), (1, 9), (1, 10), (1, 11), (1, 12), (1, 13), (1, 14), (1, 15), (1, 16), (1, 17), (1, 18), (1, 22), (1, 23), (1, 24), (1, 25), (1, 26)]
theorem qm0 : (0, 0) ∈ rIL := by decide
theorem qm_8 : (1, 8) ∈ rIL := by decide
theorem qm_9 : (1, 9) ∈ rIL := by decide
theorem qm_10 : (1, 10) ∈ rIL := by decide
theorem qm_11 : (1, 11) ∈ rIL := by decide
theorem qm_12 : (1, 12) ∈ rIL := by decide
theorem qm_13 : (1, 13) ∈ rIL := by decide
theorem qm_14 : (1, 14) ∈ rIL := by decide
theorem qm_15 : (1, 15) ∈ rIL := by decide
theorem qm_16 : (1, 16) ∈ rIL := by decide
theorem qm_17 : (1, 17) ∈ rIL := by decide
theorem qm_18 : (1, 18) ∈ rIL := by decide
theorem qm_22 : (1, 22) ∈ rIL := by decide
theorem qm_23 : (1, 23) ∈ rIL := by decide
theorem qm_24 : (1, 24) ∈ rIL := by decide
theorem qm_25 : (1, 25) ∈ rIL := by decide
theorem qm_26 : (1, 26) ∈ rIL := by decide
