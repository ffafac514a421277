/-! ===== THE START, AND EACH CALL ON BOTH SIDES ===== -/
def s0 (n : Nat) : aS := ((fun a b k => if a = 0 ∧ b = 0 ∧ k = 0 then nI n else if a = 1 ∧ b = 9 ∧ k < 10 then -1 else if a = 1 ∧ b = 13 ∧ k = 0 then 1 else 0), fun _ => [], fun _ => 4)
theorem s0_r (n : Nat) : rRel (s0 n) (s0 n).1 := by
  refine ⟨fun _ _ _ _ => rfl, fun r hr => ⟨⟨?_, by simp [s0]⟩, fun k m hk => by simp [s0] at hk⟩⟩
  simp [s0, nI]
theorem aBits_0 : ∀ n : Nat, aBits (fun _ => false) n = 0
  | 0 => rfl
  | n + 1 => by simp [aBits, aBits_0 n]
theorem s0_z {n b k : Nat} (h9 : b ≠ 9) (h13 : b ≠ 13) : (s0 n).1 1 b k = 0 := by simp [s0, h9, h13]
theorem s0_c {n : Nat} {S : zSt} (hn : n ≤ 10) (h0 : S 0 0 = (fun k => if k = 0 then nI n else 0)) (h3 : S 3 0 = (fun _ => 0)) (h45 : ∀ q, q < n → S 4 q = kw0 ∧ S 5 q = (fun _ => 0)) (h67 : ∀ r, cRow n r → S 6 r = (fun _ => 0) ∧ S 7 r = (fun _ => 0)) : cRel n (s0 n) S := by
  have hb : ∀ b p, b ≠ 9 → b ≠ 13 → aBits (fun q => (s0 n).1 1 b (10 * p + q) != 0) n = 0 := by
    intro b p h9 h13
    rw [aBits_cong (g := fun _ => false) (fun k hk => by rw [s0_z h9 h13]; rfl)]
    exact aBits_0 n
  refine ⟨?_, ?_, fun p hp => ?_, fun p hp => ?_, fun p hp i hi => ?_, fun r hr => ?_⟩
  · simp [h0, s0]
  · simp [h3, s0]
  · rw [h3]
    dsimp only
    by_cases h : p = 0
    · subst h
      simp [s0, nI]
    · rw [if_neg]
      · simp [s0, h]
      · intro h2
        exact h ((nI_eq (a := 0) (b := p) (by omega) (by omega)).mp h2).symm
  · rw [(h45 p hp).1]
    have e9 : (s0 n).1 1 9 p = -1 := by simp only [s0]; simp; omega
    refine ⟨?_, ?_, ?_, ?_, ?_, ?_, ?_, ?_, ?_, ?_⟩
    · rw [s0_z (by decide) (by decide)]; rfl
    · rw [s0_z (by decide) (by decide)]; rfl
    · rw [e9]; rfl
    · rw [s0_z (by decide) (by decide)]; rfl
    · rw [s0_z (by decide) (by decide)]; rfl
    · rw [hb 16 p (by decide) (by decide)]; rfl
    · rw [hb 30 p (by decide) (by decide)]; rfl
    · rw [hb 17 p (by decide) (by decide)]; rfl
    · rw [s0_z (by decide) (by decide)]; rfl
    · rw [s0_z (by decide) (by decide)]; rfl
  · rw [(h45 p hp).2, s0_z (by decide) (by decide)]
  · obtain ⟨e6, e7⟩ := h67 r hr
    rw [e6, e7]
    exact ⟨0, by simp [s0], by simp [s0], by simp [s0], rfl, rfl, by simp [s0], rfl, fun k m hk => by simp [s0] at hk⟩
theorem aSum_0 : ∀ n : Nat, aSum (fun _ => 0) n = 0
  | 0 => rfl
  | n + 1 => by simp [aSum, aSum_0 n]
theorem s0_I {n : Nat} (h2 : 2 ≤ n) (hn : n ≤ 10) : aI n n (s0 n) := by
  have e9 : ∀ q, q < n → (s0 n).1 1 9 q = -1 := fun q hq => by simp only [s0]; simp; omega
  have hk : ∀ q, q < n → tKids n ((s0 n).1 1 9) q = 0 := fun q hq => by
    refine aCnt_zero.mpr (fun k hk => ?_)
    rw [e9 k hk]
    have h1 : ((-1 : Int32) == nI q) = false := beq_eq_false_iff_ne.mpr (m1_ne (by omega))
    simp [h1]
  refine ⟨⟨by simp [s0], h2, hn, fun k hk => ?_, fun k j hk => ?_⟩, ⟨fun _ _ _ => rfl, fun r _ m hm => ?_, fun r _ => ?_, fun r _ => ?_⟩, ⟨fun q hq => ?_, fun q hq _ => Or.inl (e9 q hq), fun q hq _ => ?_, fun q hq _ ht => ?_, fun h => ?_, fun _ => 0, fun q hq _ j hj h => ?_⟩, ?_, ⟨fun q j hq hj => ?_, fun q hq => s0_z (by decide) (by decide)⟩, ?_⟩
  · left; rcases hk with rfl | rfl | rfl | rfl <;> simp [s0]
  · rcases hk with rfl | rfl | rfl | rfl | rfl
    · left; exact s0_z (by decide) (by decide)
    · left; exact s0_z (by decide) (by decide)
    · by_cases h : j = 0
      · right; simp [s0, h]
      · left; simp [s0, h]
    · left; exact s0_z (by decide) (by decide)
    · left; exact s0_z (by decide) (by decide)
  · simp [s0] at hm
  · simp [s0, aOf]
  · simp [s0]
  · have e : tW n ((s0 n).1 1 9) (fun p q => cK 1 (s0 n) (10 * p + q)) (fun p q => cK 2 (s0 n) (10 * p + q)) q = 0 := by
      simp only [tW, hk q hq]
      have e1 : aSum (fun x => cK 1 (s0 n) (10 * q + x)) n = 0 := aSum_0 n
      have e2 : aSum (fun x => cK 2 (s0 n) (10 * x + q)) n = 0 := aSum_0 n
      omega
    rw [e]
    exact ⟨s0_z (by decide) (by decide), by omega⟩
  · exact ⟨s0_z (by decide) (by decide), s0_z (by decide) (by decide)⟩
  · exfalso
    by_cases h0 : q = 0
    · simp [tIn, h0, s0] at ht
    · simp only [tIn, h0, if_false] at ht
      rw [e9 q hq] at ht
      simp at ht
  · simp [s0] at h
  · rw [e9 q hq] at h
    exact absurd h (m1_ne (by omega))
  · show aCnt (fun p => (s0 n).1 1 13 p != 0) n + aSum (cK 3 (s0 n)) 100 ≤ 1
    have e2 : aSum (cK 3 (s0 n)) 100 = 0 := aSum_0 100
    have e1 : ∀ k, aCnt (fun p => (s0 n).1 1 13 p != 0) k ≤ 1 := by
      intro k
      induction k with
      | zero => simp [aCnt]
      | succ k ih =>
        simp only [aCnt]
        by_cases h : k = 0
        · subst h; simp [aCnt, s0]
        · have : (s0 n).1 1 13 k = 0 := by simp [s0, h]
          simpa [this] using ih
    have := e1 n
    omega
  · rw [s0_z (by decide) (by decide), s0_z (by decide) (by decide), s0_z (by decide) (by decide)]
    simp [cK, s0, aOf]
  · refine ⟨fun _ => 0, fun _ _ => 0, fun i hi => ⟨s0_z (by decide) (by decide), Nat.zero_le _⟩, fun k i _ _ => ⟨s0_z (by decide) (by decide), Nat.zero_le _⟩, fun r _ m hm => by simp [s0] at hm, fun k q i _ _ _ => by simp [s0, aPr]⟩
theorem aLam_start {σ : aS} : aLam σ ≤ aLam (fStart σ).2 := by
  unfold fStart
  split <;> exact Nat.le_refl _
theorem aLam_send {n : Nat} {σ : aS} {i j : Nat} (hn : n ≤ 10) (hi : i < n) (hj : j < n) : aLam σ ≤ aLam (fSend n σ i j).2 := by
  unfold fSend
  split
  · exact aLam_push_le (by omega)
  · exact Nat.le_refl _
theorem aLam_rest {n : Nat} {σ : aS} (hS : aSafe n σ) {i : Nat} (hi : i < n) : aLam σ ≤ aLam (fRest n σ i).2 := by
  have hn := hS.1.2.2.1
  unfold fRest
  split
  · refine aLam_leave (σ := aN σ 1 8 i 0) (by omega) (fun hq h0 => ?_)
    have h1 := (aQual_iff.mp hq).1
    have h2 : (aN σ 1 8 i 0).1 1 9 i = σ.1 1 9 i := by simp [aN, z3]
    rw [h2]
    refine aTree_9 hS hi h0 ?_
    simpa [aTree, h0, h2] using h1
  · exact Nat.le_refl _
theorem aLam_ask {n : Nat} {σ : aS} {i : Nat} {mask : Int32} (hn : n ≤ 10) (hi : i < n) : aLam σ ≤ aLam (fAsk n σ i mask).2 := by
  unfold fAsk
  split
  · exact aLam_all0 (σ := aRowSet σ 16 i (aAsks i mask) n 1) (by omega) hn
  · exact Nat.le_refl _
theorem aLam_answer {n : Nat} {σ : aS} {i j : Nat} (hn : n ≤ 10) (hi : i < n) (hj : j < n) : aLam σ ≤ aLam (fAnswer n σ i j).2 := by
  unfold fAnswer
  split
  · exact aLam_push_le (σ := aN (aN σ 1 17 (10 * i + j) 0) 1 30 (10 * j + i) 1) (by omega)
  · exact Nat.le_refl _
theorem aLam_probe {n : Nat} {σ : aS} {i : Nat} (hn : n ≤ 10) (hi : i < n) : aLam σ ≤ aLam (fProbe n σ i).2 := by
  unfold fProbe
  split
  · exact aLam_all0 (σ := aN σ 1 15 i (σ.1 1 15 i + 1)) (by omega) hn
  · exact Nat.le_refl _
/-- a number is one of the processes, or is none -/
theorem aGood (n : Nat) (hn : n ≤ 10) (x : Int32) : aBad n x ∨ ∃ i, i < n ∧ x = nI i := by
  by_cases h0 : x < 0
  · exact Or.inl (Or.inl h0)
  · by_cases h1 : nI n ≤ x
    · exact Or.inl (Or.inr h1)
    · right
      have h2 : x < nI n := Int32.not_le.mp h1
      have h3 : (0 : Int32) ≤ x := Int32.not_lt.mp h0
      have e1 := Int32.lt_iff_toInt_lt.mp h2
      have e2 := Int32.le_iff_toInt_le.mp h3
      rw [nI_toInt (by omega)] at e1
      have e3 : (0 : Int32).toInt = 0 := rfl
      rw [e3] at e2
      refine ⟨x.toInt.toNat, by omega, ?_⟩
      rw [← Int32.toInt_inj, nI_toInt (by omega)]
      omega
/-- the class's call and the reference's answer the same, and the same state stands behind them -/
def xOK (l : Launch) (D : va_G) (K : zKs) (n : Nat) (σ : aS) (yc : MethodName) (bc : ByteArray) (nc : Nat) (rc : Option FieldType) (f1 l1 : Nat) (yr : MethodName) (br : ByteArray) (nr : Nat) (rr : Option FieldType) (f2 l2 : Nat) (As : List Value) : Prop :=
  ∃ (V : Int32) (σ' : aS), aI n n σ' ∧ aLam σ ≤ aLam σ' ∧
    (∀ (ad : zAd) (ca : Nat → Nat) (S : zSt), cRel n σ S → ∃ post, zMet l yc bc nc rc { frames := f1, cells := aLam σ' - aLam σ, slots := 2 * (aLam σ' - aLam σ), locals := l1 } D K (cIL n) (cSh K n (cpo n σ.2.2)) (zA ad ca) S (.ref (zA ad ca (0, 0)) :: As) post ∧ ∀ v sh' ad' S', post v sh' ad' S' → cP K n ad (some (.int V)) σ' v sh' ad' S') ∧
    (∀ (ar : zAd) (T : zSt), rRel σ T → ∃ post, zMet l yr br nr rr { frames := f2, cells := 0, slots := 0, locals := l2 } D K rIL (rSh K) ar T (.ref (ar (0, 0)) :: As) post ∧ ∀ v sh' ad' S', post v sh' ad' S' → zR (some (.int V)) (rSh K) ar (rRel σ') v sh' ad' S')
section XO
variable {l : Launch} {D : va_G} {K : zKs} {n : Nat} {σ : aS} {yc yr : MethodName} {bc br : ByteArray} {nc nr f1 l1 f2 l2 : Nat} {rc rr : Option FieldType} {As : List Value}
/-- nothing changes on either side -/
theorem xOK.same {V : Int32} (h : aI n n σ) (hc : ∀ (ad : zAd) (ca : Nat → Nat) (S : zSt), cRel n σ S → zMet l yc bc nc rc { frames := f1, cells := 0, slots := 0, locals := l1 } D K (cIL n) (cSh K n (cpo n σ.2.2)) (zA ad ca) S (.ref (zA ad ca (0, 0)) :: As) (zEq (some (.int V)) (cSh K n (cpo n σ.2.2)) (zA ad ca) S)) (hr : ∀ (ar : zAd) (T : zSt), rRel σ T → zMet l yr br nr rr { frames := f2, cells := 0, slots := 0, locals := l2 } D K rIL (rSh K) ar T (.ref (ar (0, 0)) :: As) (zEq (some (.int V)) (rSh K) ar T)) : xOK l D K n σ yc bc nc rc f1 l1 yr br nr rr f2 l2 As := by
  refine ⟨V, σ, h, Nat.le_refl _, fun ad ca S hS => ⟨_, by rw [Nat.sub_self]; exact hc ad ca S hS, ?_⟩, fun ar T hT => ⟨_, hr ar T hT, ?_⟩⟩
  · rintro v sh' ad' S' ⟨rfl, rfl, rfl, rfl⟩
    exact ⟨rfl, rfl, ⟨ca, rfl⟩, hS⟩
  · rintro v sh' ad' S' ⟨rfl, rfl, rfl, rfl⟩
    exact ⟨rfl, rfl, rfl, hT⟩
/-- both sides go the same way -/
theorem xOK.go {V : Int32} {σ' : aS} (h : aI n n σ') (hm : aLam σ ≤ aLam σ') (hc : ∀ (ad : zAd) (ca : Nat → Nat) (S : zSt), cRel n σ S → zMet l yc bc nc rc { frames := f1, cells := aLam σ' - aLam σ, slots := 2 * (aLam σ' - aLam σ), locals := l1 } D K (cIL n) (cSh K n (cpo n σ.2.2)) (zA ad ca) S (.ref (zA ad ca (0, 0)) :: As) (cP K n ad (some (.int V)) σ')) (hr : ∀ (ar : zAd) (T : zSt), rRel σ T → zMet l yr br nr rr { frames := f2, cells := 0, slots := 0, locals := l2 } D K rIL (rSh K) ar T (.ref (ar (0, 0)) :: As) (zR (some (.int V)) (rSh K) ar (rRel σ'))) : xOK l D K n σ yc bc nc rc f1 l1 yr br nr rr f2 l2 As :=
  ⟨V, σ', h, hm, fun ad ca S hS => ⟨_, hc ad ca S hS, fun _ _ _ _ h => h⟩, fun ar T hT => ⟨_, hr ar T hT, fun _ _ _ _ h => h⟩⟩
end XO
