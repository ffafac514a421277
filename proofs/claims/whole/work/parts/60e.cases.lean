section XO
variable {l : Launch} {D : va_G} {K : zKs} {n : Nat} {σ : aS} {yc yr : MethodName} {bc br : ByteArray} {nc nr f1 l1 f2 l2 : Nat} {rc rr : Option FieldType} {As : List Value}
theorem x_start (h : aI n n σ) : xOK l D K n σ yX3_start cX3_start 1 (some .boolean) 0 0 yX4_start cX4_start 1 (some .boolean) 0 0 [] := by
  have e : aLam (fStart σ).2 = aLam σ := by
    unfold fStart
    split <;> rfl
  refine xOK.go (aI_start h) (by rw [e]; exact Nat.le_refl _) (fun ad ca S hS => ?_) (fun ar T hT => k_X4_start h.1 hT)
  rw [e, Nat.sub_self]
  exact k_X3_start h.ok hS
theorem x_send (h : aI n n σ) {x y : Int32} : xOK l D K n σ yX3_send cX3_send 5 (some .boolean) 3 65 yX4_send cX4_send 3 (some .boolean) 4 86 [.int x, .int y] := by
  by_cases hb : aBad n x ∨ aBad n y ∨ x = y
  · exact xOK.same h (fun ad ca S hS => k_X3_send_f h.1 hS hb) (fun ar T hT => k_X4_send_f h.1 hT hb)
  · obtain ⟨i, hi, rfl⟩ := (aGood n h.n10 x).resolve_left (fun h2 => hb (Or.inl h2))
    obtain ⟨j, hj, rfl⟩ := (aGood n h.n10 y).resolve_left (fun h2 => hb (Or.inr (Or.inl h2)))
    have hij : i ≠ j := fun h2 => hb (Or.inr (Or.inr (by rw [h2])))
    have hn := h.n10
    have hlen : ∀ r, r < 100 → (σ.2.1 r).length < 640 := fun r hr => Nat.lt_of_le_of_lt (h.len r hr) (by decide)
    exact xOK.go (aI_send h hi hj hij) (aLam_send hn hi hj) (fun ad ca S hS => k_X3_send h.ok hS hi hj hij (Nat.le_refl _)) (fun ar T hT => k_X4_send h.1 hT hi hj hij (hlen _ (by omega)))
theorem x_answer (h : aI n n σ) {x y : Int32} : xOK l D K n σ yX3_answer cX3_answer 5 (some .boolean) 4 89 yX4_answer cX4_answer 3 (some .boolean) 3 65 [.int x, .int y] := by
  by_cases hb : aBad n x ∨ aBad n y ∨ x = y
  · exact xOK.same h (fun ad ca S hS => k_X3_answer_f h.ok hS hb) (fun ar T hT => k_X4_answer_f h.1 hT hb)
  · obtain ⟨i, hi, rfl⟩ := (aGood n h.n10 x).resolve_left (fun h2 => hb (Or.inl h2))
    obtain ⟨j, hj, rfl⟩ := (aGood n h.n10 y).resolve_left (fun h2 => hb (Or.inr (Or.inl h2)))
    have hij : i ≠ j := fun h2 => hb (Or.inr (Or.inr (by rw [h2])))
    have hn := h.n10
    have hlen : ∀ r, r < 100 → (σ.2.1 r).length < 640 := fun r hr => Nat.lt_of_le_of_lt (h.len r hr) (by decide)
    exact xOK.go (aI_answer h hi hj) (aLam_answer hn hi hj) (fun ad ca S hS => k_X3_answer h.ok hS hi hj hij (Nat.le_refl _)) (fun ar T hT => k_X4_answer h.1 hT hi hj hij (hlen _ (by omega)))
theorem x_receive (h : aI n n σ) {x y : Int32} : xOK l D K n σ yX3_receive cX3_receive 6 (some .int) 5 115 yX4_receive cX4_receive 9 (some .int) 4 96 [.int x, .int y] := by
  by_cases hb : aBad n x ∨ aBad n y ∨ x = y
  · exact xOK.same h (fun ad ca S hS => k_X3_receive_f h.1 hS hb) (fun ar T hT => k_X4_receive_f h.1 hT hb)
  · obtain ⟨i, hi, rfl⟩ := (aGood n h.n10 x).resolve_left (fun h2 => hb (Or.inl h2))
    obtain ⟨j, hj, rfl⟩ := (aGood n h.n10 y).resolve_left (fun h2 => hb (Or.inr (Or.inl h2)))
    have hij : i ≠ j := fun h2 => hb (Or.inr (Or.inr (by rw [h2])))
    have hn := h.n10
    have hlen : ∀ r, r < 100 → (σ.2.1 r).length < 640 := fun r hr => Nat.lt_of_le_of_lt (h.len r hr) (by decide)
    exact xOK.go (aI_recv h hi hj hij) (aLam_recv h.safe hi hj) (fun ad ca S hS => k_X3_receive h.ok h.ak hS hi hj hij (Nat.le_refl _)) (fun ar T hT => k_X4_receive h.safe hT hi hj hij)
theorem x_rest (h : aI n n σ) {x : Int32} : xOK l D K n σ yX3_rest cX3_rest 3 (some .boolean) 5 111 yX4_rest cX4_rest 2 (some .boolean) 4 86 [.int x] := by
  rcases aGood n h.n10 x with hb | ⟨i, hi, rfl⟩
  · exact xOK.same h (fun ad ca S hS => k_X3_rest_f h.1 hS hb) (fun ar T hT => k_X4_rest_f h.1 hT hb)
  · have hn := h.n10
    have hlen : ∀ r, r < 100 → (σ.2.1 r).length < 640 := fun r hr => Nat.lt_of_le_of_lt (h.len r hr) (by decide)
    exact xOK.go (aI_rest h hi) (aLam_rest h.safe hi) (fun ad ca S hS => k_X3_rest h.ok hS hi (Nat.le_refl _)) (fun ar T hT => k_X4_rest h.1 hT hi h.safe.2.1 (fun h0 h9 => by obtain ⟨j, hj, -, e⟩ := h.safe.2.2.1 i hi h0 h9; exact ⟨j, hj, e⟩) hlen)
theorem x_ask (h : aI n n σ) {x y : Int32} : xOK l D K n σ yX3_ask cX3_ask 5 (some .int) 4 90 yX4_ask cX4_ask 5 (some .int) 4 86 [.int x, .int y] := by
  rcases aGood n h.n10 x with hb | ⟨i, hi, rfl⟩
  · exact xOK.same h (fun ad ca S hS => k_X3_ask_f h.1 hS hb) (fun ar T hT => k_X4_ask_f h.1 hT hb)
  · have hn := h.n10
    have hlen : ∀ r, r < 100 → (σ.2.1 r).length < 640 := fun r hr => Nat.lt_of_le_of_lt (h.len r hr) (by decide)
    exact xOK.go (aI_ask h hi) (aLam_ask hn hi) (fun ad ca S hS => k_X3_ask h.ok hS hi (Nat.le_refl _)) (fun ar T hT => k_X4_ask h.1 hT hi hlen)
theorem x_probe (h : aI n n σ) {x : Int32} : xOK l D K n σ yX3_probe cX3_probe 3 (some .int) 4 90 yX4_probe cX4_probe 2 (some .int) 3 72 [.int x] := by
  rcases aGood n h.n10 x with hb | ⟨i, hi, rfl⟩
  · exact xOK.same h (fun ad ca S hS => k_X3_probe_f h.1 hS hb) (fun ar T hT => k_X4_probe_f h.1 hT hb)
  · have hn := h.n10
    have hlen : ∀ r, r < 100 → (σ.2.1 r).length < 640 := fun r hr => Nat.lt_of_le_of_lt (h.len r hr) (by decide)
    exact xOK.go (aI_probe h hi) (aLam_probe hn hi) (fun ad ca S hS => k_X3_probe h.ok hS hi (Nat.le_refl _)) (fun ar T hT => k_X4_probe h.1 hT hi hlen)
theorem x_pass (h : aI n n σ) {x : Int32} : xOK l D K n σ yX3_pass cX3_pass 3 (some .int) 5 111 yX4_pass cX4_pass 2 (some .int) 2 48 [.int x] := by
  rcases aGood n h.n10 x with hb | ⟨i, hi, rfl⟩
  · exact xOK.same h (fun ad ca S hS => k_X3_pass_f h.1 hS hb) (fun ar T hT => k_X4_pass_f h.1 hT hb)
  · have hn := h.n10
    have hlen : ∀ r, r < 100 → (σ.2.1 r).length < 640 := fun r hr => Nat.lt_of_le_of_lt (h.len r hr) (by decide)
    exact xOK.go (aI_pass h hi) (aLam_pass hn h.n2 hi) (fun ad ca S hS => k_X3_pass h.ok hS hi (Nat.le_refl _)) (fun ar T hT => k_X4_pass h.1 hT hi hlen)
theorem x_told (h : aI n n σ) {x y : Int32} : xOK l D K n σ yX3_told cX3_told 4 (some .int) 2 42 yX4_told cX4_told 3 (some .int) 3 65 [.int x, .int y] := by
  rcases aGood n h.n10 x with hb | ⟨i, hi, rfl⟩
  · exact xOK.same h (fun ad ca S hS => k_X3_told_f h.1 hS hb) (fun ar T hT => k_X4_told_f h.1 hT hb)
  · exact xOK.same h (fun ad ca S hS => k_X3_told h.1 hS hi) (fun ar T hT => k_X4_told h.1 hT hi)
theorem x_waits (h : aI n n σ) {x y : Int32} : xOK l D K n σ yX3_waits cX3_waits 4 (some .boolean) 2 42 yX4_waits cX4_waits 3 (some .boolean) 1 21 [.int x, .int y] := by
  by_cases hb : aBad n x ∨ aBad n y
  · exact xOK.same h (fun ad ca S hS => k_X3_waits_f h.1 hS hb) (fun ar T hT => k_X4_waits_f h.1 hT hb)
  · obtain ⟨i, hi, rfl⟩ := (aGood n h.n10 x).resolve_left (fun h2 => hb (Or.inl h2))
    obtain ⟨j, hj, rfl⟩ := (aGood n h.n10 y).resolve_left (fun h2 => hb (Or.inr h2))
    exact xOK.same h (fun ad ca S hS => k_X3_waits h.1 hS hi hj) (fun ar T hT => k_X4_waits h.1 hT hi hj)
theorem x_message (h : aI n n σ) {x y z w : Int32} : xOK l D K n σ yX3_message cX3_message 7 (some .int) 2 43 yX4_message cX4_message 6 (some .int) 2 43 [.int x, .int y, .int z, .int w] := by
  by_cases hb : aBad n x ∨ aBad n y ∨ x = y
  · exact xOK.same h (fun ad ca S hS => k_X3_message_f h.1 hS hb) (fun ar T hT => k_X4_message_f h.1 hT hb)
  · obtain ⟨i, hi, rfl⟩ := (aGood n h.n10 x).resolve_left (fun h2 => hb (Or.inl h2))
    obtain ⟨j, hj, rfl⟩ := (aGood n h.n10 y).resolve_left (fun h2 => hb (Or.inr (Or.inl h2)))
    have hij : i ≠ j := fun h2 => hb (Or.inr (Or.inr (by rw [h2])))
    exact xOK.same h (fun ad ca S hS => k_X3_message h.ok hS hi hj hij) (fun ar T hT => k_X4_message h.1 hT hi hj hij)
theorem x_quiet (h : aI n n σ) : xOK l D K n σ yX3_quiet cX3_quiet 2 (some .boolean) 1 25 yX4_quiet cX4_quiet 3 (some .boolean) 1 24 [] := by
  exact xOK.same h (fun ad ca S hS => k_X3_quiet h.1 hS h.ok.q) (fun ar T hT => k_X4_quiet h.1 hT)
theorem x_wrong (h : aI n n σ) : xOK l D K n σ yX3_wrong cX3_wrong 1 (some .int) 0 0 yX4_wrong cX4_wrong 1 (some .int) 0 0 [] := by
  exact xOK.same h (fun ad ca S hS => k_X3_wrong hS) (fun ar T hT => k_X4_wrong hT)
theorem x_falsely (h : aI n n σ) : xOK l D K n σ yX3_falsely cX3_falsely 1 (some .int) 0 0 yX4_falsely cX4_falsely 1 (some .int) 0 0 [] := by
  exact xOK.same h (fun ad ca S hS => k_X3_falsely hS) (fun ar T hT => k_X4_falsely hT)
theorem x_count (h : aI n n σ) {x : Int32} : xOK l D K n σ yX3_count cX3_count 2 (some .int) 1 25 yX4_count cX4_count 4 (some .int) 1 24 [.int x] := by
  exact xOK.same h (fun ad ca S hS => k_X3_count h.ok hS) (fun ar T hT => k_X4_count h.1 hT)
theorem x_run (h : aI n n σ) {x y : Int32} : xOK l D K n σ yX3_run cX3_run 10 (some .int) 6 140 yX4_run cX4_run 10 (some .int) 5 124 [.int x, .int y] := by
  by_cases hb : x < 0 ∨ 2000 < x
  · exact xOK.same h (fun ad ca S hS => k_X3_run_f hS hb) (fun ar T hT => k_X4_run_f hT hb)
  · have h0 : ¬ x < 0 := fun h2 => hb (Or.inl h2)
    have h1 : ¬ 2000 < x := fun h2 => hb (Or.inr h2)
    obtain ⟨t, ht, rfl⟩ : ∃ t, t ≤ 2000 ∧ x = nI t := by
      have e1 := Int32.le_iff_toInt_le.mp (Int32.not_lt.mp h0)
      have e2 := Int32.le_iff_toInt_le.mp (Int32.not_lt.mp h1)
      have e3 : (0 : Int32).toInt = 0 := rfl
      have e4 : (2000 : Int32).toInt = 2000 := rfl
      rw [e3] at e1
      rw [e4] at e2
      refine ⟨x.toInt.toNat, by omega, ?_⟩
      rw [← Int32.toInt_inj, nI_toInt (by omega)]
      omega
    obtain ⟨g, hg⟩ : ∃ g : Int32 → Int32, hG g := ⟨_, fun _ => rfl⟩
    obtain ⟨u, hu⟩ : ∃ u : Int32 → Nat, hH n u := ⟨_, fun _ => rfl⟩
    exact xOK.go (aI_run hu h t) (by have := aLam_run (g := g) (seed := y) (aI n n) hu (fun τ h => h.safe) (fun τ h i hi => aI_pass h hi) (fun τ h i j hi hj hij => aI_recv h hi hj hij) h 0 t; rw [Nat.zero_add] at this; exact this) (fun ad ca S hS => k_X3_run hg hu (aI n n) (fun τ h => ⟨h.ok, h.ak⟩) (fun τ h i hi => aI_pass h hi) (fun τ h i j hi hj hij => aI_recv h hi hj hij) h hS ht (Nat.le_refl _)) (fun ar T hT => k_X4_run hg hu (aI n n) (fun τ h => h.safe) (fun τ h i hi => aI_pass h hi) (fun τ h i j hi hj hij => aI_recv h hi hj hij) h hT ht)
end XO
