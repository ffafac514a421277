def cHg (σ : aS) (a : Nat) : Nat → Bool := fun q => σ.1 1 16 (10 * a + q) != 0 && !(σ.1 1 30 (10 * a + q) != 0)
theorem aBits_or {f g : Nat → Bool} {n : Nat} : aBits f n ||| aBits g n = aBits (fun q => f q || g q) n := by
  apply Nat.eq_of_testBit_eq
  intro i
  rw [Nat.testBit_or, aBits_bit, aBits_bit, aBits_bit]
  cases decide (i < n) <;> simp
theorem c_hang {f g : Nat → Bool} {n : Nat} (hn : n ≤ 10) : nI (aBits f n) &&& (nI (aBits g n) ^^^ (-1)) = nI (aBits (fun q => f q && !g q) n) := by
  have h1 := aBits_10 (f := f) hn
  have h2 := aBits_10 (f := g) hn
  apply Int32.toBitVec_inj.1
  rw [Int32.toBitVec_and, Int32.toBitVec_xor]
  show BitVec.ofNat 32 (aBits f n) &&& (BitVec.ofNat 32 (aBits g n) ^^^ (-1 : Int32).toBitVec) = BitVec.ofNat 32 _
  apply BitVec.eq_of_getLsbD_eq
  intro i hi
  have hm : ((-1 : Int32).toBitVec).getLsbD i = true := (by decide +kernel : ∀ i, i < 32 → ((-1 : Int32).toBitVec).getLsbD i = true) i hi
  rw [BitVec.getLsbD_and, BitVec.getLsbD_xor, hm, BitVec.getLsbD_ofNat, BitVec.getLsbD_ofNat, BitVec.getLsbD_ofNat, aBits_bit, aBits_bit, aBits_bit]
  simp [hi]
  cases decide (i < n) <;> simp
/-- the replies that are noted are those under way -/
def cRp (n : Nat) (σ : aS) : Prop := ∀ a, a < n → ∀ q, q < n → (σ.1 1 30 (10 * a + q) ≠ 0 ↔ aOf 5 (σ.2.1 (10 * q + a)) ≠ 0)
theorem cHg_iff {n : Nat} {σ : aS} (h : cRp n σ) {a q : Nat} (ha : a < n) (hq : q < n) : cHg σ a q = true ↔ aHangs σ a q := by
  have := h a ha q hq
  simp only [cHg, aHangs, Bool.and_eq_true, bne_iff_ne, ne_eq, Bool.not_eq_true', bne_eq_false_iff_eq]
  constructor
  · rintro ⟨h1, h2⟩
    exact ⟨h1, Classical.byContradiction (fun h3 => this.mpr h3 h2)⟩
  · rintro ⟨h1, h2⟩
    exact ⟨h1, Classical.byContradiction (fun h3 => this.mp h3 h2)⟩
/-- what is reached: those that i hangs on; none that a closed set must not hold -/
def cMk (σ : aS) (n i : Nat) (X : Nat → Bool) : Prop := (∀ q, q < n → aHangs σ i q → X q = true) ∧ ∀ T : Nat → Prop, (∀ q, q < n → aHangs σ i q → T q) → (∀ a b, a < n → b < n → T a → aHangs σ a b → T b) → ∀ q, q < n → X q = true → T q
theorem cMk_yes {σ : aS} {n i : Nat} {X : Nat → Bool} (h : cMk σ n i X) (hi : i < n) (hx : X i = true) : aRing σ n i = 1 := by
  unfold aRing
  rw [if_pos]
  intro T h1 h2
  exact h.2 T h1 h2 i hi hx
theorem cMk_no {σ : aS} {n i : Nat} {X : Nat → Bool} (h : cMk σ n i X) (hi : i < n) (hx : X i = false) (hc : ∀ a b, a < n → b < n → X a = true → aHangs σ a b → X b = true) : aRing σ n i = 0 := by
  unfold aRing
  rw [if_neg]
  intro hr
  have := hr (fun q => q < n ∧ X q = true) (fun q hq hh => ⟨hq, h.1 q hq hh⟩) (fun a b ha hb hT hh => ⟨hb, hc a b ha hb hT.2 hh⟩)
  rw [hx] at this
  exact absurd this.2 (by decide)
theorem cMk_add {σ : aS} {n i a : Nat} {X : Nat → Bool} (hp : cRp n σ) (h : cMk σ n i X) (ha : a < n) (hx : X a = true) : cMk σ n i (fun q => X q || cHg σ a q) := by
  refine ⟨fun q hq hh => by simp [h.1 q hq hh], fun T h1 h2 q hq hX => ?_⟩
  rcases (Bool.or_eq_true _ _).mp hX with hX | hX
  · exact h.2 T h1 h2 q hq hX
  · exact h2 a q ha hq (h.2 T h1 h2 a ha hx) ((cHg_iff hp ha hq).mp hX)
theorem aCnt_mono {f g : Nat → Bool} : ∀ {n : Nat}, (∀ k, k < n → f k = true → g k = true) → aCnt f n ≤ aCnt g n
  | 0, _ => Nat.le_refl _
  | n + 1, h => by
    have ih := aCnt_mono (f := f) (g := g) (n := n) (fun k hk => h k (by omega))
    have hn := h n (by omega)
    simp only [aCnt]
    cases hf : f n with
    | false => simp; omega
    | true => rw [hn hf]; simp; omega
theorem aCnt_lt {f g : Nat → Bool} {x : Nat} : ∀ {n : Nat}, (∀ k, k < n → f k = true → g k = true) → x < n → f x = false → g x = true → aCnt f n < aCnt g n
  | 0, _, hx, _, _ => absurd hx (Nat.not_lt_zero _)
  | n + 1, h, hx, hf, hg => by
    simp only [aCnt]
    by_cases hxn : x = n
    · subst hxn
      have := aCnt_mono (f := f) (g := g) (n := x) (fun k hk => h k (by omega))
      rw [hf, hg]
      simp
      omega
    · have ih := aCnt_lt (f := f) (g := g) (x := x) (n := n) (fun k hk => h k (by omega)) (by omega) hf hg
      have hn := h n (by omega)
      cases hfn : f n with
      | false => simp; omega
      | true => rw [hn hfn]; simp; omega
theorem aCnt_full {f : Nat → Bool} : ∀ {n : Nat}, aCnt f n = n → ∀ k, k < n → f k = true
  | 0, _, k, hk => absurd hk (Nat.not_lt_zero _)
  | n + 1, h, k, hk => by
    have hle := aCnt_le f n
    simp only [aCnt] at h
    cases hf : f n with
    | false => rw [hf] at h; simp at h; omega
    | true =>
      rw [hf] at h
      simp at h
      by_cases hkn : k = n
      · rw [hkn]; exact hf
      · exact aCnt_full h k (by omega)
set_option maxHeartbeats 1000000 in
set_option maxRecDepth 100000 in
theorem k_X3_isInRing {l : Launch} {D : va_G} {K : zKs} {n : Nat} {ad : zAd} {ca : Nat → Nat} {S : zSt} {σ : aS} (hB : aB n σ) (hR : cRel n σ S) {i : Nat} (hi : i < n) (hp : cRp n σ) : zMet l yX3_isInRing cX3_isInRing 5 (some .boolean) { frames := 2, cells := 0, slots := 0, locals := 41 } D K (cIL n) (cSh K n (cpo n σ.2.2)) (zA ad ca) S [.ref (zA ad ca (0, 0)), .int (nI i)] (zEq (some (.int (aRing σ n i))) (cSh K n (cpo n σ.2.2)) (zA ad ca) (S)) := by
  refine zEnter (own := RX3) (lv0 := [some (.ref (zA ad ca (0, 0))), some (.int (nI i)), none, none, none]) (by decide) rfl (by simp [Value.category]) (Nat.le_of_ble_eq_true rfl) rfl ?_
  intro p e s m below meth c A C _ hnm
  have hn := hB.2.2.1
  have hx10 : ∀ X : Nat → Bool, aBits X n < 1024 := fun X => aBits_10 hn
  have hbit : ∀ (X : Nat → Bool) (q : Nat), q < n → (aBits X n).testBit q = X q := fun X q hq => by rw [aBits_bit]; simp [hq]
  have ehang : ∀ a, nI (aBits (fun q => σ.1 1 16 (10 * a + q) != 0) n) &&& (nI (aBits (fun q => σ.1 1 30 (10 * a + q) != 0) n) ^^^ (-1)) = nI (aBits (cHg σ a) n) := fun a => c_hang hn
  have exitY : ∀ (X : Nat → Bool), cMk σ n i X → (X i = true ∨ ∀ a b, a < n → b < n → X a = true → aHangs σ a b → X b = true) → Z p l e ({ frames := 2, cells := 0, slots := 0, locals := 41 } : Room) s m ([.ref (zA ad ca (0, 0)), .int (nI i)] : List Value).toArray below meth c D A 5 (MQ below (zQ (zEq (some (.int (aRing σ n i))) (cSh K n (cpo n σ.2.2)) (zA ad ca) (S)) (cIL n) D A) ([.ref (zA ad ca (0, 0)), .int (nI i)] : List Value).toArray s 0 0 A) (cIL n) 0 0 (cSh K n (cpo n σ.2.2)) (zA ad ca) S (74) ([some (.ref (zA ad ca (0, 0))), some (.int (nI i)), some (.int (nI (aBits X n))), none, none]) ([]) := by
    intro X hM hor
    cases hXi : X i with
    | true =>
      have er := cMk_yes hM hi hXi
      refine Zr_iload_n C dX3_isInRing_74 rfl ?_
      refine Zr_iload_n C dX3_isInRing_75 rfl ?_
      refine Zr_callS C cw_X3_110 (k_X3_holds (hx10 X) (by omega)) rfl (Nat.le_of_ble_eq_true rfl) (Nat.le_of_ble_eq_true rfl) rfl (Nat.le_of_ble_eq_true rfl) dX3_isInRing_76 ⟨Nat.zero_le _, Nat.zero_le _⟩ ?_
      refine Zr_topi (y := 1) (if_pos (by rw [hbit X i hi]; exact hXi)) ?_
      exact Zr_zret C dX3_isInRing_79 (Nat.zero_le _) (Nat.zero_le _) (by first | exact Or.inl rfl | exact Or.inr rfl | assumption) ⟨by rw [er], rfl, rfl, rfl⟩
    | false =>
      have er := cMk_no hM hi hXi (hor.resolve_left (fun h => by rw [h] at hXi; cases hXi))
      refine Zr_iload_n C dX3_isInRing_74 rfl ?_
      refine Zr_iload_n C dX3_isInRing_75 rfl ?_
      refine Zr_callS C cw_X3_110 (k_X3_holds (hx10 X) (by omega)) rfl (Nat.le_of_ble_eq_true rfl) (Nat.le_of_ble_eq_true rfl) rfl (Nat.le_of_ble_eq_true rfl) dX3_isInRing_76 ⟨Nat.zero_le _, Nat.zero_le _⟩ ?_
      refine Zr_topi (y := 0) (if_neg (by rw [hbit X i hi, hXi]; decide)) ?_
      exact Zr_zret C dX3_isInRing_79 (Nat.zero_le _) (Nat.zero_le _) (by first | exact Or.inl rfl | exact Or.inr rfl | assumption) ⟨by rw [er], rfl, rfl, rfl⟩
  have keyT : ∀ (d t : Nat) (X : Nat → Bool), t + d = n → cMk σ n i X → ((∀ a b, a < n → b < n → X a = true → aHangs σ a b → X b = true) ∨ t ≤ aCnt X n) → Z p l e ({ frames := 2, cells := 0, slots := 0, locals := 41 } : Room) s m ([.ref (zA ad ca (0, 0)), .int (nI i)] : List Value).toArray below meth c D A 5 (MQ below (zQ (zEq (some (.int (aRing σ n i))) (cSh K n (cpo n σ.2.2)) (zA ad ca) (S)) (cIL n) D A) ([.ref (zA ad ca (0, 0)), .int (nI i)] : List Value).toArray s 0 0 A) (cIL n) 0 0 (cSh K n (cpo n σ.2.2)) (zA ad ca) S (12) ([some (.ref (zA ad ca (0, 0))), some (.int (nI i)), some (.int (nI (aBits X n))), some (.int (nI t)), none]) ([]) := by
    intro d
    induction d with
    | zero =>
      intro t X ht hM hor
      have ht : t = n := by omega
      subst ht
      refine Zr_iload_n C dX3_isInRing_12 rfl ?_
      refine Zr_aload_n C dX3_isInRing_13 rfl ?_
      refine Zr_getE C gf_X3_18 cm0 rfl rfl rfl hR.1.1 dX3_isInRing_14 ?_
      refine Zr_icmp_ge C 74 dX3_isInRing_17 (by decide) (fun h17 => ?_) (fun h17 => absurd (by rw [hB.1]; exact nI_le (Nat.le_refl _) (by omega)) h17)
      exact Zr_forget 3 (exitY X hM (hor.elim Or.inr (fun h => Or.inl (aCnt_full (Nat.le_antisymm (aCnt_le X _) h) i hi))))
    | succ d ih =>
      intro t X0 ht hM0 hor
      have htl : t < n := by omega
      cases hXi : X0 i with
      | true =>
        refine Zr_iload_n C dX3_isInRing_12 rfl ?_
        refine Zr_aload_n C dX3_isInRing_13 rfl ?_
        refine Zr_getE C gf_X3_18 cm0 rfl rfl rfl hR.1.1 dX3_isInRing_14 ?_
        refine Zr_icmp_ge C 74 dX3_isInRing_17 (by decide) (fun h17 => absurd h17 (by rw [hB.1]; exact nI_ge htl (by omega))) (fun h17 => ?_)
        refine Zr_iload_n C dX3_isInRing_20 rfl ?_
        refine Zr_iload_n C dX3_isInRing_21 rfl ?_
        refine Zr_callS C cw_X3_110 (k_X3_holds (hx10 X0) (by omega)) rfl (Nat.le_of_ble_eq_true rfl) (Nat.le_of_ble_eq_true rfl) rfl (Nat.le_of_ble_eq_true rfl) dX3_isInRing_22 ⟨Nat.zero_le _, Nat.zero_le _⟩ ?_
        refine Zr_topi (y := 1) (if_pos (by rw [hbit X0 i hi]; exact hXi)) ?_
        refine Zr_if_ne C 74 dX3_isInRing_25 (by decide) (fun h25 => ?_) (fun h25 => absurd h25 (by decide))
        exact Zr_forget 3 (exitY X0 hM0 (Or.inl hXi))
      | false =>
        have keyQ : ∀ (d2 q : Nat) (X : Nat → Bool), q + d2 = n → cMk σ n i X → (∀ k, k < n → X0 k = true → X k = true) → (∀ a b, a < q → b < n → X0 a = true → aHangs σ a b → X b = true) → Z p l e ({ frames := 2, cells := 0, slots := 0, locals := 41 } : Room) s m ([.ref (zA ad ca (0, 0)), .int (nI i)] : List Value).toArray below meth c D A 5 (MQ below (zQ (zEq (some (.int (aRing σ n i))) (cSh K n (cpo n σ.2.2)) (zA ad ca) (S)) (cIL n) D A) ([.ref (zA ad ca (0, 0)), .int (nI i)] : List Value).toArray s 0 0 A) (cIL n) 0 0 (cSh K n (cpo n σ.2.2)) (zA ad ca) S (31) ([some (.ref (zA ad ca (0, 0))), some (.int (nI i)), some (.int (nI (aBits X n))), some (.int (nI t)), some (.int (nI q))]) ([]) := by
          intro d2
          induction d2 with
          | zero =>
            intro q X hq hM hsub hcl
            have hq : q = n := by omega
            subst hq
            have hnext : (∀ a b, a < q → b < q → X a = true → aHangs σ a b → X b = true) ∨ t + 1 ≤ aCnt X q := by
              by_cases hsame : ∀ k, k < q → X k = true → X0 k = true
              · left
                intro a b ha hb hXa hh
                exact hcl a b ha hb (hsame a ha hXa) hh
              · right
                obtain ⟨k, hk⟩ := Classical.not_forall.mp hsame
                simp only [Classical.not_imp] at hk
                obtain ⟨hk1, hk2, hk3⟩ := hk
                have hlt := aCnt_lt (f := X0) (g := X) hsub hk1 (by simpa using hk3) hk2
                rcases hor with hc | hc
                · exfalso
                  have hXk : X0 k = true := hM.2 (fun z => X0 z = true) (fun z hz hh => hM0.1 z hz hh) (fun a b ha hb hT hh => hc a b ha hb hT hh) k hk1 hk2
                  exact hk3 hXk
                · omega
            refine Zr_iload C dX3_isInRing_31 rfl ?_
            refine Zr_aload_n C dX3_isInRing_33 rfl ?_
            refine Zr_getE C gf_X3_18 cm0 rfl rfl rfl hR.1.1 dX3_isInRing_34 ?_
            refine Zr_icmp_ge C 68 dX3_isInRing_37 (by decide) (fun h37 => ?_) (fun h37 => absurd (by rw [hB.1]; exact nI_le (Nat.le_refl _) (by omega)) h37)
            refine Zr_iincE C (1) (nI (t + 1)) dX3_isInRing_68 (by decide) rfl rfl (nI_1 _) ?_
            refine Zr_goto C 12 dX3_isInRing_71 (by decide) ?_
            exact Zr_forget 4 (ih (t + 1) X (by omega) hM hnext)
          | succ d2 ih2 =>
            intro q X hq hM hsub hcl
            have hql : q < n := by omega
            cases hXq : X q with
            | true =>
              have hM2 := cMk_add hp hM hql hXq
              refine Zr_iload C dX3_isInRing_31 rfl ?_
              refine Zr_aload_n C dX3_isInRing_33 rfl ?_
              refine Zr_getE C gf_X3_18 cm0 rfl rfl rfl hR.1.1 dX3_isInRing_34 ?_
              refine Zr_icmp_ge C 68 dX3_isInRing_37 (by decide) (fun h37 => absurd h37 (by rw [hB.1]; exact nI_ge hql (by omega))) (fun h37 => ?_)
              refine Zr_iload_n C dX3_isInRing_40 rfl ?_
              refine Zr_iload C dX3_isInRing_41 rfl ?_
              refine Zr_callS C cw_X3_110 (k_X3_holds (hx10 X) (by omega)) rfl (Nat.le_of_ble_eq_true rfl) (Nat.le_of_ble_eq_true rfl) rfl (Nat.le_of_ble_eq_true rfl) dX3_isInRing_43 ⟨Nat.zero_le _, Nat.zero_le _⟩ ?_
              refine Zr_topi (y := 1) (if_pos (by rw [hbit X q hql]; exact hXq)) ?_
              refine Zr_if_eq C 62 dX3_isInRing_46 (by decide) (fun h46 => absurd h46 (by decide)) (fun h46 => ?_)
              refine Zr_iload_n C dX3_isInRing_49 rfl ?_
              refine Zr_aload_n C dX3_isInRing_50 rfl ?_
              refine Zr_getR C gf_X3_26 cm0 rfl rfl rfl (by simp) dX3_isInRing_51 ?_
              refine Zr_iload C dX3_isInRing_54 rfl ?_
              refine Zr_aaldS C 2 cm1 rfl rfl rfl hql (by omega) rfl dX3_isInRing_56 ?_
              refine Zr_callV C cw_X3_246 (k_X2_hangsOn hn hR hql) (cm4 hql) rfl rfl rfl (Nat.le_of_ble_eq_true rfl) (Nat.le_of_ble_eq_true rfl) rfl (Nat.le_of_ble_eq_true rfl) dX3_isInRing_57 ⟨Nat.zero_le _, Nat.zero_le _⟩ ?_
              refine Zr_topi (y := nI (aBits (cHg σ q) n)) (ehang q) ?_
              refine Zr_ior C dX3_isInRing_60 ?_
              refine Zr_topi (y := nI (aBits (fun z => X z || cHg σ q z) n)) (by rw [c_lor, aBits_or]) ?_
              refine Zr_istore_n C dX3_isInRing_61 (by decide) ?_
              refine Zr_iincE C (1) (nI (q + 1)) dX3_isInRing_62 (by decide) rfl rfl (nI_1 _) ?_
              refine Zr_goto C 31 dX3_isInRing_65 (by decide) ?_
              exact ih2 (q + 1) (fun z => X z || cHg σ q z) (by omega) hM2 (fun k hk h => by simp [hsub k hk h]) (fun a b ha hb h1 h2 => by by_cases haq : a = q; (rw [haq] at h2; simp [(cHg_iff hp hql hb).mpr h2]); simp [hcl a b (by omega) hb h1 h2])
            | false =>
              refine Zr_iload C dX3_isInRing_31 rfl ?_
              refine Zr_aload_n C dX3_isInRing_33 rfl ?_
              refine Zr_getE C gf_X3_18 cm0 rfl rfl rfl hR.1.1 dX3_isInRing_34 ?_
              refine Zr_icmp_ge C 68 dX3_isInRing_37 (by decide) (fun h37 => absurd h37 (by rw [hB.1]; exact nI_ge hql (by omega))) (fun h37 => ?_)
              refine Zr_iload_n C dX3_isInRing_40 rfl ?_
              refine Zr_iload C dX3_isInRing_41 rfl ?_
              refine Zr_callS C cw_X3_110 (k_X3_holds (hx10 X) (by omega)) rfl (Nat.le_of_ble_eq_true rfl) (Nat.le_of_ble_eq_true rfl) rfl (Nat.le_of_ble_eq_true rfl) dX3_isInRing_43 ⟨Nat.zero_le _, Nat.zero_le _⟩ ?_
              refine Zr_topi (y := 0) (if_neg (by rw [hbit X q hql, hXq]; decide)) ?_
              refine Zr_if_eq C 62 dX3_isInRing_46 (by decide) (fun h46 => ?_) (fun h46 => absurd rfl h46)
              refine Zr_iincE C (1) (nI (q + 1)) dX3_isInRing_62 (by decide) rfl rfl (nI_1 _) ?_
              refine Zr_goto C 31 dX3_isInRing_65 (by decide) ?_
              exact ih2 (q + 1) X (by omega) hM hsub (fun a b ha hb h1 h2 => by by_cases haq : a = q; (rw [haq] at h1; rw [hsub q hql h1] at hXq; cases hXq); exact hcl a b (by omega) hb h1 h2)
        refine Zr_iload_n C dX3_isInRing_12 rfl ?_
        refine Zr_aload_n C dX3_isInRing_13 rfl ?_
        refine Zr_getE C gf_X3_18 cm0 rfl rfl rfl hR.1.1 dX3_isInRing_14 ?_
        refine Zr_icmp_ge C 74 dX3_isInRing_17 (by decide) (fun h17 => absurd h17 (by rw [hB.1]; exact nI_ge htl (by omega))) (fun h17 => ?_)
        refine Zr_iload_n C dX3_isInRing_20 rfl ?_
        refine Zr_iload_n C dX3_isInRing_21 rfl ?_
        refine Zr_callS C cw_X3_110 (k_X3_holds (hx10 X0) (by omega)) rfl (Nat.le_of_ble_eq_true rfl) (Nat.le_of_ble_eq_true rfl) rfl (Nat.le_of_ble_eq_true rfl) dX3_isInRing_22 ⟨Nat.zero_le _, Nat.zero_le _⟩ ?_
        refine Zr_topi (y := 0) (if_neg (by rw [hbit X0 i hi, hXi]; decide)) ?_
        refine Zr_if_ne C 74 dX3_isInRing_25 (by decide) (fun h25 => absurd rfl h25) (fun h25 => ?_)
        refine Zr_iconst C (0) dX3_isInRing_28 rfl ?_
        refine Zr_istore C dX3_isInRing_29 (by decide) ?_
        exact keyQ n 0 X0 (by omega) hM0 (fun k hk h => h) (fun a b ha => absurd ha (Nat.not_lt_zero _))
  refine Zr_aload_n C dX3_isInRing_0 rfl ?_
  refine Zr_getR C gf_X3_26 cm0 rfl rfl rfl (by simp) dX3_isInRing_1 ?_
  refine Zr_iload_n C dX3_isInRing_4 rfl ?_
  refine Zr_aaldS C 2 cm1 rfl rfl rfl hi (by omega) rfl dX3_isInRing_5 ?_
  refine Zr_callV C cw_X3_246 (k_X2_hangsOn hn hR hi) (cm4 hi) rfl rfl rfl (Nat.le_of_ble_eq_true rfl) (Nat.le_of_ble_eq_true rfl) rfl (Nat.le_of_ble_eq_true rfl) dX3_isInRing_6 ⟨Nat.zero_le _, Nat.zero_le _⟩ ?_
  refine Zr_topi (y := nI (aBits (cHg σ i) n)) (ehang i) ?_
  refine Zr_istore_n C dX3_isInRing_9 (by decide) ?_
  refine Zr_iconst C (0) dX3_isInRing_10 rfl ?_
  refine Zr_istore_n C dX3_isInRing_11 (by decide) ?_
  exact keyT n 0 (cHg σ i) (by omega) ⟨fun q hq hh => (cHg_iff hp hi hq).mpr hh, fun T h1 h2 q hq hX => h1 q hq ((cHg_iff hp hi hq).mp hX)⟩ (Or.inr (Nat.zero_le _))
set_option maxHeartbeats 1000000 in
set_option maxRecDepth 100000 in
theorem k_X3_tellDead {l : Launch} {D : va_G} {K : zKs} {n : Nat} {ad : zAd} {ca : Nat → Nat} {S : zSt} {σ : aS} (hB : aB n σ) (hR : cRel n σ S) {i : Nat} (hi : i < n) (hp : cRp n σ) : zMet l yX3_tellDead cX3_tellDead 3 none { frames := 3, cells := 0, slots := 0, locals := 65 } D K (cIL n) (cSh K n (cpo n σ.2.2)) (zA ad ca) S [.ref (zA ad ca (0, 0)), .int (nI i), .ref (zA ad ca (4, i))] (zR none (cSh K n (cpo n σ.2.2)) (zA ad ca) (cRel n (aDead n σ i))) := by
  refine zEnter (own := RX3) (lv0 := [some (.ref (zA ad ca (0, 0))), some (.int (nI i)), some (.ref (zA ad ca (4, i)))]) (by decide) rfl (by simp [Value.category]) (Nat.le_of_ble_eq_true rfl) rfl ?_
  intro p e s m below meth c A C _ hnm
  have hB2 : aB n (aN (aN σ 1 14 i (σ.1 1 14 i + 1)) 0 0 7 (σ.1 0 0 7 + 1)) := (hB.a (fun h => by omega)).g (by decide) (fun h => by omega)
  refine Zr_aload_n C dX3_tellDead_0 rfl ?_
  refine Zr_dup C dX3_tellDead_1 rfl ?_
  refine Zr_getE C gf_X3_192 (cm4 hi) rfl rfl rfl (hR.w hi).2.2.2.2.2.2.2.2.1 dX3_tellDead_2 ?_
  refine Zr_iconst C (1) dX3_tellDead_5 rfl ?_
  refine Zr_iadd C dX3_tellDead_6 ?_
  refine Zr_putE C pf_X3_192 (cm4 hi) rfl rfl rfl (znI _) (cRw9 hR) dX3_tellDead_7 (fun S hR => ?_)
  refine Zr_aload_n C dX3_tellDead_10 rfl ?_
  refine Zr_dup C dX3_tellDead_11 rfl ?_
  refine Zr_getE C gf_X3_226 cm0 rfl rfl rfl hR.1.2.2.2.2.2.2.1 dX3_tellDead_12 ?_
  refine Zr_iconst C (1) dX3_tellDead_15 rfl ?_
  refine Zr_iadd C dX3_tellDead_16 ?_
  refine Zr_putE C pf_X3_226 cm0 rfl rfl rfl (znI _) (cRm9 hR) dX3_tellDead_17 (fun S hR => ?_)
  refine Zr_aload_n C dX3_tellDead_20 rfl ?_
  refine Zr_iload_n C dX3_tellDead_21 rfl ?_
  refine Zr_callV C cw_X3_243 (k_X3_isInRing (σ := (aN (aN σ 1 14 i (σ.1 1 14 i + 1)) 0 0 7 (σ.1 0 0 7 + 1))) hB2 hR hi hp) cm0 rfl rfl rfl (Nat.le_of_ble_eq_true rfl) (Nat.le_of_ble_eq_true rfl) rfl (Nat.le_of_ble_eq_true rfl) dX3_tellDead_22 ⟨Nat.zero_le _, Nat.zero_le _⟩ ?_
  refine Zr_if_ne C 38 dX3_tellDead_25 (by decide) (fun h25 => ?_) (fun h25 => ?_)
  · exact Zr_vret C dX3_tellDead_38 (Nat.zero_le _) (Nat.zero_le _) ⟨rfl, rfl, rfl, by rw [aDead]; first | (rw [if_neg h25]; exact hR) | (rw [if_pos h25]; exact hR)⟩
  · refine Zr_aload_n C dX3_tellDead_28 rfl ?_
    refine Zr_dup C dX3_tellDead_29 rfl ?_
    refine Zr_getE C gf_X3_210 cm0 rfl rfl rfl hR.1.2.2.2.2.2.1 dX3_tellDead_30 ?_
    refine Zr_iconst C (1) dX3_tellDead_33 rfl ?_
    refine Zr_iadd C dX3_tellDead_34 ?_
    refine Zr_putE C pf_X3_210 cm0 rfl rfl rfl (znI _) (cRm8 hR) dX3_tellDead_35 (fun S hR => ?_)
    exact Zr_vret C dX3_tellDead_38 (Nat.zero_le _) (Nat.zero_le _) ⟨rfl, rfl, rfl, by rw [aDead]; first | (rw [if_neg h25]; exact hR) | (rw [if_pos h25]; exact hR)⟩
theorem aDead_2 {n : Nat} {σ : aS} {i : Nat} : (aDead n σ i).2 = σ.2 := by
  unfold aDead
  dsimp only
  split <;> rfl
set_option maxHeartbeats 1000000 in
set_option maxRecDepth 100000 in
theorem k_X3_takeProbe {l : Launch} {D : va_G} {K : zKs} {n : Nat} {ad : zAd} {ca : Nat → Nat} {S : zSt} {σ : aS} (hB : aB n σ) (hR : cRel n σ S) {j k i u F : Nat} (hj : j < n) (hk : k < n) (hi : i < n) (hu : u < 51) (hp : cRp n σ) (hdw : σ.1 1 16 (10 * k + k) = 0) (hlen : ∀ r, r < 100 → (σ.2.1 r).length < 640) (hF : aLam (aProbed n σ j k i (nI u)) ≤ F) : zMet l yX3_takeProbe cX3_takeProbe 6 none { frames := 4, cells := (F - aLam σ), slots := (2 * (F - aLam σ)), locals := 90 } D K (cIL n) (cSh K n (cpo n σ.2.2)) (zA ad ca) S [.ref (zA ad ca (0, 0)), .int (nI j), .int (nI k), .ref (zA ad ca (4, k)), .int (cPack (6, nI i, nI u))] (cP K n ad none (aProbed n σ j k i (nI u))) := by
  refine zEnter (own := RX3) (lv0 := [some (.ref (zA ad ca (0, 0))), some (.int (nI j)), some (.int (nI k)), some (.ref (zA ad ca (4, k))), some (.int (cPack (6, nI i, nI u))), none]) (by decide) rfl (by simp [Value.category]) (Nat.le_of_ble_eq_true rfl) rfl ?_
  intro p e s m below meth c A C _ hnm
  have hn := hB.2.2.1
  have hpb := aBits_10 (f := fun q => σ.1 1 17 (10 * k + q) != 0) hn
  have hpt : (aBits (fun q => σ.1 1 17 (10 * k + q) != 0) n).testBit j = (σ.1 1 17 (10 * k + j) != 0) := by rw [aBits_bit]; simp [hj]
  obtain ⟨c1, c2, c3⟩ := cPk i (by omega) u hu
  have hwm : aWM n (6, nI i, nI u) := Or.inr ⟨rfl, i, hi, rfl, u, hu, rfl⟩
  by_cases hw : aWf σ n k = 0
  · have hl : aProbed n σ j k i (nI u) = σ := by rw [aProbed, if_pos (Or.inl hw)]
    refine Zr_aload_n C dX3_takeProbe_0 rfl ?_
    refine Zr_callV C cw_X3_104 (k_X2_isBlocked hn hR hk) (cm4 hk) rfl rfl rfl (Nat.le_of_ble_eq_true rfl) (Nat.le_of_ble_eq_true rfl) rfl (Nat.le_of_ble_eq_true rfl) dX3_takeProbe_1 ⟨Nat.zero_le _, Nat.zero_le _⟩ ?_
    refine Zr_topi (y := 0) (if_pos hw) ?_
    refine Zr_if_eq C 18 dX3_takeProbe_4 (by decide) (fun h4 => ?_) (fun h4 => absurd rfl h4)
    exact Zr_vret C dX3_takeProbe_18 (Nat.zero_le _) (Nat.zero_le _) ⟨rfl, by rw [hl], ⟨_, rfl⟩, by rw [hl]; exact hR⟩
  · by_cases hpd : σ.1 1 17 (10 * k + j) = 0
    · have hl : aProbed n σ j k i (nI u) = σ := by rw [aProbed, if_pos (Or.inr hpd)]
      refine Zr_aload_n C dX3_takeProbe_0 rfl ?_
      refine Zr_callV C cw_X3_104 (k_X2_isBlocked hn hR hk) (cm4 hk) rfl rfl rfl (Nat.le_of_ble_eq_true rfl) (Nat.le_of_ble_eq_true rfl) rfl (Nat.le_of_ble_eq_true rfl) dX3_takeProbe_1 ⟨Nat.zero_le _, Nat.zero_le _⟩ ?_
      refine Zr_topi (y := 1) (if_neg hw) ?_
      refine Zr_if_eq C 18 dX3_takeProbe_4 (by decide) (fun h4 => absurd h4 (by decide)) (fun h4 => ?_)
      refine Zr_aload_n C dX3_takeProbe_7 rfl ?_
      refine Zr_getE C gf_X3_107 (cm4 hk) rfl rfl rfl (hR.w hk).2.2.2.2.2.2.2.1 dX3_takeProbe_8 ?_
      refine Zr_iload_n C dX3_takeProbe_11 rfl ?_
      refine Zr_callS C cw_X3_110 (k_X3_holds hpb (by omega)) rfl (Nat.le_of_ble_eq_true rfl) (Nat.le_of_ble_eq_true rfl) rfl (Nat.le_of_ble_eq_true rfl) dX3_takeProbe_12 ⟨Nat.zero_le _, Nat.zero_le _⟩ ?_
      refine Zr_topi (y := 0) (if_neg (by rw [hpt]; simp [hpd])) ?_
      refine Zr_if_ne C 19 dX3_takeProbe_15 (by decide) (fun h15 => absurd rfl h15) (fun h15 => ?_)
      exact Zr_vret C dX3_takeProbe_18 (Nat.zero_le _) (Nat.zero_le _) ⟨rfl, by rw [hl], ⟨_, rfl⟩, by rw [hl]; exact hR⟩
    · have hnb : ¬ (aWf σ n k = 0 ∨ σ.1 1 17 (10 * k + j) = 0) := fun h => h.elim hw hpd
      by_cases hki : k = i
      · have hl : aProbed n σ j k i (nI u) = aDead n σ k := by rw [aProbed, if_neg hnb, if_pos hki, hki]
        refine Zr_aload_n C dX3_takeProbe_0 rfl ?_
        refine Zr_callV C cw_X3_104 (k_X2_isBlocked hn hR hk) (cm4 hk) rfl rfl rfl (Nat.le_of_ble_eq_true rfl) (Nat.le_of_ble_eq_true rfl) rfl (Nat.le_of_ble_eq_true rfl) dX3_takeProbe_1 ⟨Nat.zero_le _, Nat.zero_le _⟩ ?_
        refine Zr_topi (y := 1) (if_neg hw) ?_
        refine Zr_if_eq C 18 dX3_takeProbe_4 (by decide) (fun h4 => absurd h4 (by decide)) (fun h4 => ?_)
        refine Zr_aload_n C dX3_takeProbe_7 rfl ?_
        refine Zr_getE C gf_X3_107 (cm4 hk) rfl rfl rfl (hR.w hk).2.2.2.2.2.2.2.1 dX3_takeProbe_8 ?_
        refine Zr_iload_n C dX3_takeProbe_11 rfl ?_
        refine Zr_callS C cw_X3_110 (k_X3_holds hpb (by omega)) rfl (Nat.le_of_ble_eq_true rfl) (Nat.le_of_ble_eq_true rfl) rfl (Nat.le_of_ble_eq_true rfl) dX3_takeProbe_12 ⟨Nat.zero_le _, Nat.zero_le _⟩ ?_
        refine Zr_topi (y := 1) (if_pos (by rw [hpt]; simp [hpd])) ?_
        refine Zr_if_ne C 19 dX3_takeProbe_15 (by decide) (fun h15 => ?_) (fun h15 => absurd h15 (by decide))
        refine Zr_iload C dX3_takeProbe_19 rfl ?_
        refine Zr_callS C cw_X3_198 (k_X3_beginnerOf) rfl (Nat.le_of_ble_eq_true rfl) (Nat.le_of_ble_eq_true rfl) rfl (Nat.le_of_ble_eq_true rfl) dX3_takeProbe_21 ⟨Nat.zero_le _, Nat.zero_le _⟩ ?_
        refine Zr_topi (y := nI i) c2 ?_
        refine Zr_istore C dX3_takeProbe_24 (by decide) ?_
        refine Zr_iload C dX3_takeProbe_26 rfl ?_
        refine Zr_iload_n C dX3_takeProbe_28 rfl ?_
        refine Zr_icmp_ne C 41 dX3_takeProbe_29 (by decide) (fun h29 => absurd (by rw [hki]) h29) (fun h29 => ?_)
        refine Zr_aload_n C dX3_takeProbe_32 rfl ?_
        refine Zr_iload_n C dX3_takeProbe_33 rfl ?_
        refine Zr_aload_n C dX3_takeProbe_34 rfl ?_
        refine Zr_callVRv C cw_X3_237 (k_X3_tellDead hB hR hk hp) cm0 rfl rfl rfl (Nat.le_of_ble_eq_true rfl) (Nat.le_of_ble_eq_true rfl) rfl (Nat.le_of_ble_eq_true rfl) dX3_takeProbe_35 ⟨Nat.zero_le _, Nat.zero_le _⟩ (fun S hR => ?_)
        refine Zr_goto C 66 dX3_takeProbe_38 (by decide) ?_
        exact Zr_vret C dX3_takeProbe_66 (Nat.zero_le _) (Nat.zero_le _) ⟨rfl, by rw [hl, aDead_2], ⟨_, rfl⟩, by rw [hl]; exact hR⟩
      · by_cases hmt : σ.1 1 18 (10 * k + i) < nI u
        · have hl : aProbed n σ j k i (nI u) = aAll (aN σ 1 18 (10 * k + i) (nI u)) k (aWaits σ k) n (6, nI i, nI u) := by rw [aProbed, if_neg hnb, if_neg hki, if_pos hmt]
          have hB2 : aB n (aN σ 1 18 (10 * k + i) (nI u)) := hB.a (fun h => by omega)
          have hF2 : aLam (aAll (aN σ 1 18 (10 * k + i) (nI u)) k (aWaits σ k) n (6, nI i, nI u)) ≤ F := by rw [← hl]; exact hF
          refine Zr_aload_n C dX3_takeProbe_0 rfl ?_
          refine Zr_callV C cw_X3_104 (k_X2_isBlocked hn hR hk) (cm4 hk) rfl rfl rfl (Nat.le_of_ble_eq_true rfl) (Nat.le_of_ble_eq_true rfl) rfl (Nat.le_of_ble_eq_true rfl) dX3_takeProbe_1 ⟨Nat.zero_le _, Nat.zero_le _⟩ ?_
          refine Zr_topi (y := 1) (if_neg hw) ?_
          refine Zr_if_eq C 18 dX3_takeProbe_4 (by decide) (fun h4 => absurd h4 (by decide)) (fun h4 => ?_)
          refine Zr_aload_n C dX3_takeProbe_7 rfl ?_
          refine Zr_getE C gf_X3_107 (cm4 hk) rfl rfl rfl (hR.w hk).2.2.2.2.2.2.2.1 dX3_takeProbe_8 ?_
          refine Zr_iload_n C dX3_takeProbe_11 rfl ?_
          refine Zr_callS C cw_X3_110 (k_X3_holds hpb (by omega)) rfl (Nat.le_of_ble_eq_true rfl) (Nat.le_of_ble_eq_true rfl) rfl (Nat.le_of_ble_eq_true rfl) dX3_takeProbe_12 ⟨Nat.zero_le _, Nat.zero_le _⟩ ?_
          refine Zr_topi (y := 1) (if_pos (by rw [hpt]; simp [hpd])) ?_
          refine Zr_if_ne C 19 dX3_takeProbe_15 (by decide) (fun h15 => ?_) (fun h15 => absurd h15 (by decide))
          refine Zr_iload C dX3_takeProbe_19 rfl ?_
          refine Zr_callS C cw_X3_198 (k_X3_beginnerOf) rfl (Nat.le_of_ble_eq_true rfl) (Nat.le_of_ble_eq_true rfl) rfl (Nat.le_of_ble_eq_true rfl) dX3_takeProbe_21 ⟨Nat.zero_le _, Nat.zero_le _⟩ ?_
          refine Zr_topi (y := nI i) c2 ?_
          refine Zr_istore C dX3_takeProbe_24 (by decide) ?_
          refine Zr_iload C dX3_takeProbe_26 rfl ?_
          refine Zr_iload_n C dX3_takeProbe_28 rfl ?_
          refine Zr_icmp_ne C 41 dX3_takeProbe_29 (by decide) (fun h29 => ?_) (fun h29 => absurd ((nI_eq (by omega) (by omega)).mp h29).symm hki)
          refine Zr_aload_n C dX3_takeProbe_41 rfl ?_
          refine Zr_iload C dX3_takeProbe_42 rfl ?_
          refine Zr_iload C dX3_takeProbe_44 rfl ?_
          refine Zr_callS C cw_X3_201 (k_X3_numberOf) rfl (Nat.le_of_ble_eq_true rfl) (Nat.le_of_ble_eq_true rfl) rfl (Nat.le_of_ble_eq_true rfl) dX3_takeProbe_46 ⟨Nat.zero_le _, Nat.zero_le _⟩ ?_
          refine Zr_topi (y := nI u) c3 ?_
          refine Zr_callVR C cw_X3_240 (k_X2_noteIfNewer_t hn hR hk hi hmt) (cm4 hk) rfl rfl rfl (Nat.le_of_ble_eq_true rfl) (Nat.le_of_ble_eq_true rfl) rfl (Nat.le_of_ble_eq_true rfl) dX3_takeProbe_49 ⟨Nat.zero_le _, Nat.zero_le _⟩ (fun S hR => ?_)
          refine Zr_if_eq C 66 dX3_takeProbe_52 (by decide) (fun h52 => absurd h52 (by decide)) (fun h52 => ?_)
          refine Zr_aload_n C dX3_takeProbe_55 rfl ?_
          refine Zr_iload_n C dX3_takeProbe_56 rfl ?_
          refine Zr_aload_n C dX3_takeProbe_57 rfl ?_
          refine Zr_getE C gf_X3_92 (cm4 hk) rfl rfl rfl (hR.w hk).2.2.2.2.2.1 dX3_takeProbe_58 ?_
          refine Zr_iload C dX3_takeProbe_61 rfl ?_
          refine Zr_callVCv C cw_X3_95 (k_X3_putToEach (σ := aN σ 1 18 (10 * k + i) (nI u)) (f := aWaits σ k) hB2 hR hk (aBits_10 hn) (by simp [aWaits, hdw]) (fun q hq _ => by rw [aBits_bit]; simp [hq, aWaits, aN, z3]) hwm hF2 hlen) cm0 rfl rfl rfl (Nat.le_of_ble_eq_true rfl) (Nat.le_of_ble_eq_true rfl) rfl (Nat.le_of_ble_eq_true rfl) dX3_takeProbe_63 ⟨by show 0 + (F - aLam σ) ≤ F - aLam σ; omega, by show 0 + 2 * (F - aLam σ) ≤ 2 * (F - aLam σ); omega⟩ (fun ca S hR => ?_)
          exact Zr_vret C dX3_takeProbe_66 (by show 0 + (F - aLam σ) ≤ F - aLam σ; omega) (by show 0 + 2 * (F - aLam σ) ≤ 2 * (F - aLam σ); omega) ⟨rfl, by rw [hl], ⟨_, rfl⟩, by rw [hl]; exact hR⟩
        · have hl : aProbed n σ j k i (nI u) = σ := by rw [aProbed, if_neg hnb, if_neg hki, if_neg hmt]
          refine Zr_aload_n C dX3_takeProbe_0 rfl ?_
          refine Zr_callV C cw_X3_104 (k_X2_isBlocked hn hR hk) (cm4 hk) rfl rfl rfl (Nat.le_of_ble_eq_true rfl) (Nat.le_of_ble_eq_true rfl) rfl (Nat.le_of_ble_eq_true rfl) dX3_takeProbe_1 ⟨Nat.zero_le _, Nat.zero_le _⟩ ?_
          refine Zr_topi (y := 1) (if_neg hw) ?_
          refine Zr_if_eq C 18 dX3_takeProbe_4 (by decide) (fun h4 => absurd h4 (by decide)) (fun h4 => ?_)
          refine Zr_aload_n C dX3_takeProbe_7 rfl ?_
          refine Zr_getE C gf_X3_107 (cm4 hk) rfl rfl rfl (hR.w hk).2.2.2.2.2.2.2.1 dX3_takeProbe_8 ?_
          refine Zr_iload_n C dX3_takeProbe_11 rfl ?_
          refine Zr_callS C cw_X3_110 (k_X3_holds hpb (by omega)) rfl (Nat.le_of_ble_eq_true rfl) (Nat.le_of_ble_eq_true rfl) rfl (Nat.le_of_ble_eq_true rfl) dX3_takeProbe_12 ⟨Nat.zero_le _, Nat.zero_le _⟩ ?_
          refine Zr_topi (y := 1) (if_pos (by rw [hpt]; simp [hpd])) ?_
          refine Zr_if_ne C 19 dX3_takeProbe_15 (by decide) (fun h15 => ?_) (fun h15 => absurd h15 (by decide))
          refine Zr_iload C dX3_takeProbe_19 rfl ?_
          refine Zr_callS C cw_X3_198 (k_X3_beginnerOf) rfl (Nat.le_of_ble_eq_true rfl) (Nat.le_of_ble_eq_true rfl) rfl (Nat.le_of_ble_eq_true rfl) dX3_takeProbe_21 ⟨Nat.zero_le _, Nat.zero_le _⟩ ?_
          refine Zr_topi (y := nI i) c2 ?_
          refine Zr_istore C dX3_takeProbe_24 (by decide) ?_
          refine Zr_iload C dX3_takeProbe_26 rfl ?_
          refine Zr_iload_n C dX3_takeProbe_28 rfl ?_
          refine Zr_icmp_ne C 41 dX3_takeProbe_29 (by decide) (fun h29 => ?_) (fun h29 => absurd ((nI_eq (by omega) (by omega)).mp h29).symm hki)
          refine Zr_aload_n C dX3_takeProbe_41 rfl ?_
          refine Zr_iload C dX3_takeProbe_42 rfl ?_
          refine Zr_iload C dX3_takeProbe_44 rfl ?_
          refine Zr_callS C cw_X3_201 (k_X3_numberOf) rfl (Nat.le_of_ble_eq_true rfl) (Nat.le_of_ble_eq_true rfl) rfl (Nat.le_of_ble_eq_true rfl) dX3_takeProbe_46 ⟨Nat.zero_le _, Nat.zero_le _⟩ ?_
          refine Zr_topi (y := nI u) c3 ?_
          refine Zr_callV C cw_X3_240 (k_X2_noteIfNewer_f hn hR hk hi hmt) (cm4 hk) rfl rfl rfl (Nat.le_of_ble_eq_true rfl) (Nat.le_of_ble_eq_true rfl) rfl (Nat.le_of_ble_eq_true rfl) dX3_takeProbe_49 ⟨Nat.zero_le _, Nat.zero_le _⟩ ?_
          refine Zr_if_eq C 66 dX3_takeProbe_52 (by decide) (fun h52 => ?_) (fun h52 => absurd rfl h52)
          exact Zr_vret C dX3_takeProbe_66 (Nat.zero_le _) (Nat.zero_le _) ⟨rfl, by rw [hl], ⟨_, rfl⟩, by rw [hl]; exact hR⟩
