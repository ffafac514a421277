set_option maxRecDepth 20000 in
theorem ci_X3_227 : zCI RX3 227 yX2_init cX2_init 2 1 := zCI.of cd_X2_init (zg 60 rfl rfl) (zg 61 rfl rfl) (zg 35 rfl rfl) rfl (by decide +kernel)
set_option maxRecDepth 20000 in
theorem ci_X3_229 : zCI RX3 229 yX0_init cX0_init 1 0 := zCI.ofN (host := "QuietWatch") cd_X0_init (zn 111 rfl rfl) (zg 112 rfl rfl) (zg 36 rfl rfl) rfl (by decide +kernel)
set_option maxRecDepth 20000 in
theorem ci_X3_40 : zCI RX3 40 yX1_init cX1_init 1 0 := zCI.ofN (host := "QuietWatch") cd_X1_init (zn 132 rfl rfl) (zg 133 rfl rfl) (zg 37 rfl rfl) rfl (by decide +kernel)
set_option maxRecDepth 20000 in
theorem ci_L_15 : zCI RL 15 yX3_init cX3_init 3 1 := zCI.of cd_X3_init (zg 42 rfl rfl) (zg 43 rfl rfl) (zg 33 rfl rfl) rfl (by decide +kernel)
set_option maxRecDepth 20000 in
theorem ci_L_20 : zCI RL 20 yX4_init cX4_init 3 1 := zCI.of cd_X4_init (zg 401 rfl rfl) (zg 402 rfl rfl) (zg 38 rfl rfl) rfl (by decide +kernel)
abbrev nds0 : List (Option zI) := [some (99, 0), none, none, none]
abbrev nds1 : List (Option zI) := [none, none, none, none]
abbrev nds2 : List (Option zI) := [some (99, 0), none, none, none, none, none, none, none, none, none, none]
abbrev nds3 : List (Option zI) := [none, some (99, 0), some (99, 0), some (99, 0), none, none, none, none, none, none, none]
abbrev nds4 : List (Option zI) := [none, none, none, none, none, none, none, none, some (99, 0), some (99, 0), some (99, 0), some (99, 0), some (99, 0), some (99, 0), some (99, 0), some (99, 0), some (99, 0), some (99, 0), some (99, 0), none, none, none, some (99, 0), some (99, 0), some (99, 0), some (99, 0), some (99, 0)]
set_option maxRecDepth 20000 in
theorem nw_X3_50 : zNewW RX3 50 2 11 nds2 := zNewW.of (T := TX2) (tys := tyX2) rfl inG2 tyX2_ok (zg 57 rfl rfl) (zg 59 rfl rfl) (zg 35 rfl rfl) (by decide +kernel)
set_option maxRecDepth 20000 in
theorem nw_X3_67 : zNewW RX3 67 0 4 nds0 := zNewW.of (T := TX0) (tys := tyX0) rfl inG0 tyX0_ok (zg 108 rfl rfl) (zg 110 rfl rfl) (zg 36 rfl rfl) (by decide +kernel)
set_option maxRecDepth 20000 in
theorem nw_X3_38 : zNewW RX3 38 1 4 nds1 := zNewW.of (T := TX1) (tys := tyX1) rfl inG1 tyX1_ok (zg 130 rfl rfl) (zg 131 rfl rfl) (zg 37 rfl rfl) (by decide +kernel)
set_option maxRecDepth 20000 in
theorem nw_L_7 : zNewW RL 7 3 11 nds3 := zNewW.of (T := TX3) (tys := tyX3) rfl inG3 tyX3_ok (zg 40 rfl rfl) (zg 41 rfl rfl) (zg 33 rfl rfl) (by decide +kernel)
set_option maxRecDepth 20000 in
theorem nw_L_18 : zNewW RL 18 4 27 nds4 := zNewW.of (T := TX4) (tys := tyX4) rfl inG4 tyX4_ok (zg 399 rfl rfl) (zg 400 rfl rfl) (zg 38 rfl rfl) (by decide +kernel)
set_option maxRecDepth 20000 in
theorem ob_X3 : Cond.methodLink RX3 1 Lib.objectInit ∈ zgw := zg 45 rfl rfl
set_option maxRecDepth 20000 in
theorem ob_X2 : Cond.methodLink RX2 3 Lib.objectInit ∈ zgw := zg 63 rfl rfl
set_option maxRecDepth 20000 in
theorem ob_X0 : Cond.methodLink RX0 3 Lib.objectInit ∈ zgw := zg 114 rfl rfl
set_option maxRecDepth 20000 in
theorem ob_X1 : Cond.methodLink RX1 3 Lib.objectInit ∈ zgw := zg 135 rfl rfl
set_option maxRecDepth 20000 in
theorem ob_X4 : Cond.methodLink RX4 1 Lib.objectInit ∈ zgw := zg 404 rfl rfl
set_option maxRecDepth 20000 in
theorem ob_i : Cond.instanceMethod Lib.objectInit ∈ zgw := zg 46 rfl rfl
set_option maxRecDepth 20000 in
theorem ob_c : Cond.code Lib.objectInit ⟨#[0xb1]⟩ 1 none ∈ zgw := zg 47 rfl rfl
set_option maxRecDepth 20000 in
theorem pr_X2_15 : zPutR RX2 15 2 0 true := zPutR.ofF (f := 0) (ref := "QuietWatch$Worker") (T := TX2) (N := 11) (tys := tyX2) (ty := .array .int) rfl (by decide) inG2 tyX2_ok nmX2 (zg 64 rfl rfl) rfl rfl rfl rfl (fun v => ⟨rfl, rfl⟩)
set_option maxRecDepth 20000 in
theorem pr_X3_26 : zPutR RX3 26 3 1 true := zPutR.ofF (f := 1) (ref := "QuietWatch") (T := TX3) (N := 11) (tys := tyX3) (ty := .array (.object "QuietWatch$Worker")) rfl (by decide) inG3 tyX3_ok nmX3 (zg 154 rfl rfl) rfl rfl rfl rfl (fun v => ⟨rfl, rfl⟩)
set_option maxRecDepth 20000 in
theorem pr_X3_34 : zPutR RX3 34 3 2 true := zPutR.ofF (f := 2) (ref := "QuietWatch") (T := TX3) (N := 11) (tys := tyX3) (ty := .array (.object "QuietWatch$Row")) rfl (by decide) inG3 tyX3_ok nmX3 (zg 155 rfl rfl) rfl rfl rfl rfl (fun v => ⟨rfl, rfl⟩)
set_option maxRecDepth 20000 in
theorem pr_X3_41 : zPutR RX3 41 3 3 true := zPutR.ofF (f := 3) (ref := "QuietWatch") (T := TX3) (N := 11) (tys := tyX3) (ty := .object "QuietWatch$Token") rfl (by decide) inG3 tyX3_ok nmX3 (zg 156 rfl rfl) rfl rfl rfl rfl (fun v => ⟨rfl, rfl⟩)
set_option maxRecDepth 20000 in
theorem pr_X4_9 : zPutR RX4 9 4 8 true := zPutR.ofF (f := 8) (ref := "QuietWatchModel") (T := TX4) (N := 27) (tys := tyX4) (ty := .array .boolean) rfl (by decide) inG4 tyX4_ok nmX4 (zg 414 rfl rfl) rfl rfl rfl rfl (fun v => ⟨rfl, rfl⟩)
set_option maxRecDepth 20000 in
theorem pr_X4_13 : zPutR RX4 13 4 9 true := zPutR.ofF (f := 9) (ref := "QuietWatchModel") (T := TX4) (N := 27) (tys := tyX4) (ty := .array .int) rfl (by decide) inG4 tyX4_ok nmX4 (zg 415 rfl rfl) rfl rfl rfl rfl (fun v => ⟨rfl, rfl⟩)
set_option maxRecDepth 20000 in
theorem pr_X4_17 : zPutR RX4 17 4 10 true := zPutR.ofF (f := 10) (ref := "QuietWatchModel") (T := TX4) (N := 27) (tys := tyX4) (ty := .array .int) rfl (by decide) inG4 tyX4_ok nmX4 (zg 416 rfl rfl) rfl rfl rfl rfl (fun v => ⟨rfl, rfl⟩)
set_option maxRecDepth 20000 in
theorem pr_X4_20 : zPutR RX4 20 4 11 true := zPutR.ofF (f := 11) (ref := "QuietWatchModel") (T := TX4) (N := 27) (tys := tyX4) (ty := .array .int) rfl (by decide) inG4 tyX4_ok nmX4 (zg 417 rfl rfl) rfl rfl rfl rfl (fun v => ⟨rfl, rfl⟩)
set_option maxRecDepth 20000 in
theorem pr_X4_23 : zPutR RX4 23 4 12 true := zPutR.ofF (f := 12) (ref := "QuietWatchModel") (T := TX4) (N := 27) (tys := tyX4) (ty := .array .boolean) rfl (by decide) inG4 tyX4_ok nmX4 (zg 418 rfl rfl) rfl rfl rfl rfl (fun v => ⟨rfl, rfl⟩)
set_option maxRecDepth 20000 in
theorem pr_X4_26 : zPutR RX4 26 4 13 true := zPutR.ofF (f := 13) (ref := "QuietWatchModel") (T := TX4) (N := 27) (tys := tyX4) (ty := .array .boolean) rfl (by decide) inG4 tyX4_ok nmX4 (zg 419 rfl rfl) rfl rfl rfl rfl (fun v => ⟨rfl, rfl⟩)
set_option maxRecDepth 20000 in
theorem pr_X4_29 : zPutR RX4 29 4 14 true := zPutR.ofF (f := 14) (ref := "QuietWatchModel") (T := TX4) (N := 27) (tys := tyX4) (ty := .array .int) rfl (by decide) inG4 tyX4_ok nmX4 (zg 420 rfl rfl) rfl rfl rfl rfl (fun v => ⟨rfl, rfl⟩)
set_option maxRecDepth 20000 in
theorem pr_X4_32 : zPutR RX4 32 4 15 true := zPutR.ofF (f := 15) (ref := "QuietWatchModel") (T := TX4) (N := 27) (tys := tyX4) (ty := .array .int) rfl (by decide) inG4 tyX4_ok nmX4 (zg 421 rfl rfl) rfl rfl rfl rfl (fun v => ⟨rfl, rfl⟩)
set_option maxRecDepth 20000 in
theorem pr_X4_35 : zPutR RX4 35 4 16 true := zPutR.ofF (f := 16) (ref := "QuietWatchModel") (T := TX4) (N := 27) (tys := tyX4) (ty := .array .boolean) rfl (by decide) inG4 tyX4_ok nmX4 (zg 422 rfl rfl) rfl rfl rfl rfl (fun v => ⟨rfl, rfl⟩)
set_option maxRecDepth 20000 in
theorem pr_X4_38 : zPutR RX4 38 4 17 true := zPutR.ofF (f := 17) (ref := "QuietWatchModel") (T := TX4) (N := 27) (tys := tyX4) (ty := .array .boolean) rfl (by decide) inG4 tyX4_ok nmX4 (zg 423 rfl rfl) rfl rfl rfl rfl (fun v => ⟨rfl, rfl⟩)
set_option maxRecDepth 20000 in
theorem pr_X4_41 : zPutR RX4 41 4 18 true := zPutR.ofF (f := 18) (ref := "QuietWatchModel") (T := TX4) (N := 27) (tys := tyX4) (ty := .array .int) rfl (by decide) inG4 tyX4_ok nmX4 (zg 424 rfl rfl) rfl rfl rfl rfl (fun v => ⟨rfl, rfl⟩)
set_option maxRecDepth 20000 in
theorem pr_X4_44 : zPutR RX4 44 4 22 true := zPutR.ofF (f := 22) (ref := "QuietWatchModel") (T := TX4) (N := 27) (tys := tyX4) (ty := .array .int) rfl (by decide) inG4 tyX4_ok nmX4 (zg 428 rfl rfl) rfl rfl rfl rfl (fun v => ⟨rfl, rfl⟩)
set_option maxRecDepth 20000 in
theorem pr_X4_48 : zPutR RX4 48 4 23 true := zPutR.ofF (f := 23) (ref := "QuietWatchModel") (T := TX4) (N := 27) (tys := tyX4) (ty := .array .int) rfl (by decide) inG4 tyX4_ok nmX4 (zg 429 rfl rfl) rfl rfl rfl rfl (fun v => ⟨rfl, rfl⟩)
set_option maxRecDepth 20000 in
theorem pr_X4_51 : zPutR RX4 51 4 24 true := zPutR.ofF (f := 24) (ref := "QuietWatchModel") (T := TX4) (N := 27) (tys := tyX4) (ty := .array .int) rfl (by decide) inG4 tyX4_ok nmX4 (zg 430 rfl rfl) rfl rfl rfl rfl (fun v => ⟨rfl, rfl⟩)
set_option maxRecDepth 20000 in
theorem pr_X4_54 : zPutR RX4 54 4 25 true := zPutR.ofF (f := 25) (ref := "QuietWatchModel") (T := TX4) (N := 27) (tys := tyX4) (ty := .array .int) rfl (by decide) inG4 tyX4_ok nmX4 (zg 431 rfl rfl) rfl rfl rfl rfl (fun v => ⟨rfl, rfl⟩)
set_option maxRecDepth 20000 in
theorem pr_X4_57 : zPutR RX4 57 4 26 true := zPutR.ofF (f := 26) (ref := "QuietWatchModel") (T := TX4) (N := 27) (tys := tyX4) (ty := .array .boolean) rfl (by decide) inG4 tyX4_ok nmX4 (zg 432 rfl rfl) rfl rfl rfl rfl (fun v => ⟨rfl, rfl⟩)
set_option maxRecDepth 20000 in
theorem pi_X3_18 : zPutI RX3 18 3 0 .int := zPut.ofF (f := 0) (ref := "QuietWatch") (T := TX3) (N := 11) (tys := tyX3) (ty := .int) rfl (by decide) inG3 tyX3_ok nmX3 (zg 153 rfl rfl) rfl rfl rfl rfl
set_option maxRecDepth 20000 in
theorem pi_X4_60 : zPutI RX4 60 4 0 .int := zPut.ofF (f := 0) (ref := "QuietWatchModel") (T := TX4) (N := 27) (tys := tyX4) (ty := .int) rfl (by decide) inG4 tyX4_ok nmX4 (zg 406 rfl rfl) rfl rfl rfl rfl
set_option maxRecDepth 20000 in
theorem mw1 : Cond.methodLink RX3 9 Lib.Math.min.name ∈ zgw := zg 48 rfl rfl
set_option maxRecDepth 20000 in
theorem mw2 : Cond.static Lib.Math.min.name ∈ zgw := zg 49 rfl rfl
set_option maxRecDepth 20000 in
theorem mw3 : Cond.code Lib.Math.min.name Lib.Math.min.code 2 (some .int) ∈ zgw := zg 50 rfl rfl
set_option maxRecDepth 20000 in
theorem mw4 : Cond.methodLink RX3 15 Lib.Math.max.name ∈ zgw := zg 51 rfl rfl
set_option maxRecDepth 20000 in
theorem mw5 : Cond.static Lib.Math.max.name ∈ zgw := zg 52 rfl rfl
set_option maxRecDepth 20000 in
theorem mw6 : Cond.code Lib.Math.max.name Lib.Math.max.code 2 (some .int) ∈ zgw := zg 53 rfl rfl
set_option maxRecDepth 20000 in
theorem mw7 : Cond.initialized "java/lang/Math" ∈ zgw := zg 34 rfl rfl
set_option maxRecDepth 20000 in
theorem qw_X3_50 : Cond.classLink RX3 50 RX2 ∈ zgw := zg 57 rfl rfl
set_option maxRecDepth 20000 in
theorem qw_X3_67 : Cond.classLink RX3 67 RX0 ∈ zgw := zg 108 rfl rfl
set_option maxRecDepth 20000 in
theorem qo_X2 : Cond.arrayOver (.object RX2) ∈ znw := zn 58 rfl rfl
set_option maxRecDepth 20000 in
theorem qo_X0 : Cond.arrayOver (.object RX0) ∈ znw := zn 109 rfl rfl
/-- what stays: shape and numbers but at P, addresses but at N -/
def zKp (P N : zI → Prop) (sh : zSh) (ad : zAd) (S : zSt) (sh' : zSh) (ad' : zAd) (S' : zSt) : Prop := (∀ i, ¬ P i → sh' i = sh i ∧ S' i.1 i.2 = S i.1 i.2) ∧ ∀ i, ¬ N i → ad' i = ad i
theorem zKp.pic {P N : zI → Prop} {sh sh' : zSh} {ad ad' : zAd} {S S' : zSt} {i : zI} (h : zKp P N sh ad S sh' ad' S') (hi : ¬ P i) (hno : zNo N (sh i)) : zpic sh' ad' S' i = zpic sh ad S i := zpic_no (h.1 i hi).1 (h.1 i hi).2 h.2 hno
def kR0 (K : zKs) (r : Nat) (sh : zSh) (ad : zAd) (S : zSt) : Option Value → zSh → zAd → zSt → Prop := fun v sh' ad' S' => v = none ∧ sh' (6, r) = .inl (0, [some (7, r), none, none, none]) ∧ sh' (7, r) = .inr (K.1, 4, none) ∧ S' 6 r = (fun _ => 0) ∧ S' 7 r = (fun _ => 0) ∧ zKp (fun i => i = (6, r) ∨ i = (7, r)) (fun i => i = (7, r)) sh ad S sh' ad' S'
set_option maxHeartbeats 1000000 in
theorem k_X0_init {l : Launch} {D : va_G} {K : zKs} {r : Nat} {sh : zSh} {ad : zAd} {S : zSt} (hs : sh (6, r) = .inl (0, nds0)) (hS : S 6 r = fun _ => 0) : zMetG l yX0_init cX0_init 1 none { frames := 1, cells := 1, slots := 4, locals := 20 } D K [(6, r)] sh ad S [.ref (ad (6, r))] [(6, r), (7, r)] (kR0 K r sh ad S) := by
  refine zEnterG (own := RX0) (lv0 := [some (.ref (ad (6, r)))]) (by decide) rfl (by simp [Value.category]) (Nat.le_of_ble_eq_true rfl) rfl ?_
  intro p e s m below meth c A C _ hnm
  refine Zr_aload_n C dX0_init_0 rfl ?_
  refine Zr_obj C ob_X0 ob_i ob_c (by decide) (by decide) dX0_init_1 ?_
  refine Zr_aload_n C dX0_init_4 rfl ?_
  refine Zr_iconst C (4) dX0_init_5 rfl ?_
  refine Zr_newI C (N := 4) (7, r) [(6, r), (7, r)] (by simp) (fun i hi => ?_) (by simp) (by simp) (by decide) (by decide) (by decide) (by decide) (by decide) dX0_init_6 (fun sh1 ad1 S1 h1 => ?_)
  · rw [List.mem_singleton.mp hi, hs]
    simp [zNo]
  have g1 := h1.2.2 (6, r) (by simp)
  refine Zr_putR C (7, r) pf_X0_11r (fun h => by cases h) (by simp) g1.2.1.symm rfl (by simp) (g1.1.trans hs) (by decide) dX0_init_8 ?_
  refine Zr_vret C dX0_init_11 (by decide) (by decide) ⟨rfl, by simp, by simp [h1.1], g1.2.2.trans hS, h1.2.1, fun i hi => ?_, fun i hi => (h1.2.2 i hi).2.1⟩
  have h6 : i ≠ (6, r) := fun h => hi (Or.inl h)
  have h7 := h1.2.2 i (fun h => hi (Or.inr h))
  exact ⟨by dsimp only; rw [if_neg h6]; exact h7.1, h7.2.2⟩
def kR1 (sh : zSh) (ad : zAd) (S : zSt) : Option Value → zSh → zAd → zSt → Prop := fun v sh' ad' S' => v = none ∧ sh' = sh ∧ ad' = ad ∧ S' 3 0 = (fun _ => 0) ∧ ∀ i, i ≠ (3, 0) → S' i.1 i.2 = S i.1 i.2
set_option maxHeartbeats 1000000 in
theorem k_X1_init {l : Launch} {D : va_G} {K : zKs} {sh : zSh} {ad : zAd} {S : zSt} (hs : sh (3, 0) = .inl (1, nds1)) (hS : S 3 0 = fun _ => 0) : zMetG l yX1_init cX1_init 1 none { frames := 1, cells := 0, slots := 0, locals := 20 } D K [(3, 0)] sh ad S [.ref (ad (3, 0))] [(3, 0)] (kR1 sh ad S) := by
  refine zEnterG (own := RX1) (lv0 := [some (.ref (ad (3, 0)))]) (by decide) rfl (by simp [Value.category]) (Nat.le_of_ble_eq_true rfl) rfl ?_
  intro p e s m below meth c A C _ hnm
  refine Zr_aload_n C dX1_init_0 rfl ?_
  refine Zr_obj C ob_X1 ob_i ob_c (by decide) (by decide) dX1_init_1 ?_
  refine Zr_aload_n C dX1_init_4 rfl ?_
  refine Zr_iconst C (0) dX1_init_5 rfl ?_
  refine Zr_put C pf_X1_9 (by simp) rfl hs rfl (znI _) dX1_init_6 ?_
  refine Zr_vret C dX1_init_9 (by decide) (by decide) ⟨rfl, rfl, rfl, ?_, fun i hi => ?_⟩
  · rw [z3_row, hS]
    funext x
    simp
  · funext x
    simp only [z3]
    rw [if_neg]
    rintro ⟨h1, h2, -⟩
    exact hi (Prod.ext h1 h2)
def kw0 : Nat → Int32 := fun k => if k = 3 then -1 else 0
def kR2 (K : zKs) (n p : Nat) (sh : zSh) (ad : zAd) (S : zSt) : Option Value → zSh → zAd → zSt → Prop := fun v sh' ad' S' => v = none ∧ sh' (4, p) = .inl (2, [some (5, p), none, none, none, none, none, none, none, none, none, none]) ∧ sh' (5, p) = .inr (K.1, n, none) ∧ S' 4 p = kw0 ∧ S' 5 p = (fun _ => 0) ∧ zKp (fun i => i = (4, p) ∨ i = (5, p)) (fun i => i = (5, p)) sh ad S sh' ad' S'
set_option maxHeartbeats 1000000 in
theorem k_X2_init {l : Launch} {D : va_G} {K : zKs} {n q : Nat} {sh : zSh} {ad : zAd} {S : zSt} (hn : n ≤ 10) (hs : sh (4, q) = .inl (2, nds2)) (hS : S 4 q = fun _ => 0) : zMetG l yX2_init cX2_init 2 none { frames := 1, cells := 1, slots := n, locals := 20 } D K [(4, q)] sh ad S [.ref (ad (4, q)), .int (nI n)] [(4, q), (5, q)] (kR2 K n q sh ad S) := by
  refine zEnterG (own := RX2) (lv0 := [some (.ref (ad (4, q))), some (.int (nI n))]) (by decide) rfl (by simp [Value.category]) (Nat.le_of_ble_eq_true rfl) rfl ?_
  intro p e s m below meth c A C _ hnm
  refine Zr_aload_n C dX2_init_0 rfl ?_
  refine Zr_obj C ob_X2 ob_i ob_c (Nat.le_refl 1) (Nat.le_of_ble_eq_true rfl) dX2_init_1 ?_
  refine Zr_aload_n C dX2_init_4 rfl ?_
  refine Zr_iconst C (-1) dX2_init_5 rfl ?_
  refine Zr_put C pf_X2_9 (by simp) rfl hs rfl (znI _) dX2_init_6 ?_
  refine Zr_aload_n C dX2_init_9 rfl ?_
  refine Zr_iload_n C dX2_init_10 rfl ?_
  refine Zr_newI C (N := n) (5, q) [(4, q), (5, q)] (by simp) (fun i hi => ?_) (by simp) (by simp) (nI_pos (by omega)) (nI_clamp (by omega)) (by omega) (Nat.le_refl 1) (by show 0 + n ≤ n; omega) dX2_init_11 (fun sh1 ad1 S1 h1 => ?_)
  · rw [List.mem_singleton.mp hi, hs]
    simp [zNo]
  have g1 := h1.2.2 (4, q) (by simp)
  refine Zr_putR C (5, q) pr_X2_15 (fun _ => hnm) (by simp) g1.2.1.symm rfl (by simp) (g1.1.trans hs) (Nat.le_of_ble_eq_true rfl) dX2_init_13 ?_
  refine Zr_vret C dX2_init_16 (Nat.le_refl 1) (by show 0 + n ≤ n; omega) ⟨rfl, by simp, by simp [h1.1], g1.2.2.trans ?_, h1.2.1, fun i hi => ?_, fun i hi => (h1.2.2 i hi).2.1⟩
  · rw [z3_row, hS]
    rfl
  have h6 : i ≠ (4, q) := fun h => hi (Or.inl h)
  have h7 := h1.2.2 i (fun h => hi (Or.inr h))
  refine ⟨by dsimp only; rw [if_neg h6]; exact h7.1, h7.2.2.trans ?_⟩
  funext x
  simp only [z3]
  rw [if_neg]
  rintro ⟨h1, h2, -⟩
  exact h6 (Prod.ext h1 h2)
