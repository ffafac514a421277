theorem i32_nat (x : Int32) : x = nI x.toBitVec.toNat := by
  apply Int32.toBitVec_inj.mp
  show x.toBitVec = BitVec.ofNat 32 x.toBitVec.toNat
  simp
theorem i32_ush (x : Int32) : (x.toUInt32 >>> ((16 : Int32).toUInt32 &&& Int32.toUInt32 31)).toInt32 = nI (x.toBitVec.toNat / 65536) := by
  have h := pk_ushr x 16 16 (by decide)
  rw [i32_nat ((x.toUInt32 >>> ((16 : Int32).toUInt32 &&& Int32.toUInt32 31)).toInt32), h]
theorem i32_u16 (x : Int32) : x.toBitVec.toNat / 65536 < 65536 := by
  have := x.toBitVec.isLt
  omega
theorem nn_pos {n : Nat} (h : 2 ≤ n) : 0 < n * n := Nat.mul_pos (by omega) (by omega)
theorem nn_le {n : Nat} (h : n ≤ 10) : n * n ≤ 100 := Nat.mul_le_mul h h
theorem hH.lt {n : Nat} {h : Int32 → Nat} (hh : hH n h) (hn : 2 ≤ n) (s : Int32) : h s < n * n := by rw [hh s]; exact Nat.mod_lt _ (nn_pos hn)
theorem nn_p {n k : Nat} (h : k < n * n) : k / n < n := Nat.div_lt_of_lt_mul h
theorem nn_q {n k : Nat} (h : 2 ≤ n) : k % n < n := Nat.mod_lt _ (by omega)
theorem aRun_s {g : Int32 → Int32} {h : Int32 → Nat} {n : Nat} {seed : Int32} {σ : aS} {k : Nat} {u : Int32 × Int32 × aS} {s2 : Int32} {x : Nat} {v : Int32 × aS} (hu : u = aRun g h n seed σ k) (hs : s2 = g u.1) (hx : x = h s2) (hv : fStep n u.2.2 x = v) : (s2, (if v.1 = -1 then u.2.1 else u.2.1 + 1), v.2) = aRun g h n seed σ (k + 1) := by
  rw [aRun, ← hu, ← hs, ← hx, hv]
theorem aRun_I {g : Int32 → Int32} {h : Int32 → Nat} {n : Nat} {seed : Int32} {σ : aS} (I : aS → Prop) (hh : hH n h) (hn2 : 2 ≤ n) (hIp : ∀ τ, I τ → ∀ i, i < n → I (fPass n τ i).2) (hIr : ∀ τ, I τ → ∀ i j, i < n → j < n → i ≠ j → I (fRecv n τ i j).2) (hI : I σ) : ∀ k, I (aRun g h n seed σ k).2.2 := by
  intro k
  induction k with
  | zero => exact hI
  | succ k ih =>
    rw [aRun]
    have hx := hh.lt hn2 (g (aRun g h n seed σ k).1)
    generalize h (g (aRun g h n seed σ k).1) = x at hx
    dsimp only
    unfold fStep
    split
    · exact hIp _ ih _ (nn_p hx)
    · rename_i hne
      exact hIr _ ih _ _ (nn_p hx) (nn_q hn2) hne
set_option maxHeartbeats 4000000 in
set_option maxRecDepth 100000 in
theorem k_X4_run {l : Launch} {D : va_G} {K : zKs} {ad : zAd} {S : zSt} {σ : aS} {n t : Nat} {seed : Int32} {g : Int32 → Int32} {h : Int32 → Nat} (hg : hG g) (hh : hH n h) (I : aS → Prop) (hIS : ∀ τ, I τ → aSafe n τ) (hIp : ∀ τ, I τ → ∀ i, i < n → I (fPass n τ i).2) (hIr : ∀ τ, I τ → ∀ i j, i < n → j < n → i ≠ j → I (fRecv n τ i j).2) (hI : I σ) (hR : rRel σ S) (ht : t ≤ 2000) : zMet l yX4_run cX4_run 10 (some .int) { frames := 5, cells := 0, slots := 0, locals := 124 } D K rIL (rSh K) ad S [.ref (ad (0, 0)), .int (nI t), .int seed] (zR (some (.int (aRun g h n seed σ t).2.1)) (rSh K) ad (rRel (aRun g h n seed σ t).2.2)) := by
  refine zEnter (own := RX4) (lv0 := [some (.ref (ad (0, 0))), some (.int (nI t)), some (.int seed), none, none, none, none, none, none, none]) (by decide) rfl (by simp [Value.category]) (Nat.le_of_ble_eq_true rfl) rfl ?_
  intro p e s m below meth c A C _ hnm
  have hB := (hIS σ hI).1
  have hn := hB.2.2.1
  have hn2 := hB.2.1
  have key : ∀ (d k : Nat) (u : Int32 × Int32 × aS) (S : zSt), k + d = t → u = aRun g h n seed σ k → rRel u.2.2 S → Z p l e ({ frames := 5, cells := 0, slots := 0, locals := 124 } : Room) s m ([.ref (ad (0, 0)), .int (nI t), .int seed] : List Value).toArray below meth c D A 10 (MQ below (zQ (zR (some (.int (aRun g h n seed σ t).2.1)) (rSh K) ad (rRel (aRun g h n seed σ t).2.2)) rIL D A) ([.ref (ad (0, 0)), .int (nI t), .int seed] : List Value).toArray s 0 0 A) rIL 0 0 (rSh K) ad S (21) ([some (.ref (ad (0, 0))), some (.int (nI t)), some (.int seed), some (.int u.1), some (.int u.2.1), some (.int (nI k)), none, none, none, none]) ([]) := by
    intro d
    induction d with
    | zero =>
      intro k u S hk hu hR
      have hk : k = t := by omega
      subst hk
      refine Zr_iload C dX4_run_21 rfl ?_
      refine Zr_iload_n C dX4_run_23 rfl ?_
      refine Zr_icmp_ge C 118 dX4_run_24 (by decide) (fun h24 => ?_) (fun h24 => absurd (nI_le (Nat.le_refl _) (by omega)) h24)
      refine Zr_iload C dX4_run_118 rfl ?_
      exact Zr_iret C dX4_run_120 (Nat.zero_le _) (Nat.zero_le _) ⟨by rw [hu], rfl, rfl, by rw [← hu]; exact hR⟩
    | succ d ih =>
      intro k u S hk hu hR
      have hSk : aSafe n u.2.2 := by rw [hu]; exact hIS _ (aRun_I I hh hn2 hIp hIr hI k)
      have hBk := hSk.1
      have hLk : ∀ r, r < 100 → (u.2.2.2.1 r).length < 640 := fun r hr => Nat.lt_of_le_of_lt (hSk.2.2.2.1 r hr) (by decide)
      have hnn := nn_le hn
      have hnp := nn_pos hn2
      obtain ⟨s2, hs2⟩ : ∃ s2, s2 = g u.1 := ⟨_, rfl⟩
      obtain ⟨y16, hy16⟩ : ∃ y16, y16 = s2.toBitVec.toNat / 65536 := ⟨_, rfl⟩
      have hu16 : y16 < 65536 := by rw [hy16]; exact i32_u16 s2
      obtain ⟨x, hx⟩ : ∃ x, x = h s2 := ⟨_, rfl⟩
      have hxy : x = y16 % (n * n) := by rw [hx, hh s2, hy16]
      have hd : x < n * n := by rw [hx]; exact hh.lt hn2 s2
      have hdp := nn_p hd
      have hdq : x % n < n := nn_q hn2
      by_cases hpq : x / n = x % n
      · have hst := aRun_s hu hs2 hx (show fStep n u.2.2 x = fPass n u.2.2 (x / n) from if_pos hpq)
        obtain ⟨dn, hdn⟩ : ∃ dn, dn = if (fPass n u.2.2 (x / n)).1 = -1 then u.2.1 else u.2.1 + 1 := ⟨_, rfl⟩
        refine Zr_iload C dX4_run_21 rfl ?_
        refine Zr_iload_n C dX4_run_23 rfl ?_
        refine Zr_icmp_ge C 118 dX4_run_24 (by decide) (fun h24 => absurd h24 (nI_ge (show k < t by omega) (by omega))) (fun h24 => ?_)
        refine Zr_iload_n C dX4_run_27 rfl ?_
        refine Zr_ldc C ct_X4_152 dX4_run_28 ?_
        refine Zr_imul C dX4_run_30 ?_
        refine Zr_sipush C (12345) dX4_run_31 rfl ?_
        refine Zr_iadd C dX4_run_34 ?_
        refine Zr_topi (y := s2) (by rw [hs2]; exact hg _) ?_
        refine Zr_istore_n C dX4_run_35 (by decide) ?_
        refine Zr_iload_n C dX4_run_36 rfl ?_
        refine Zr_bipush C (16) dX4_run_37 rfl ?_
        refine Zr_iushr C dX4_run_39 ?_
        refine Zr_topi (y := nI y16) (by rw [hy16]; exact i32_ush _) ?_
        refine Zr_aload_n C dX4_run_40 rfl ?_
        refine Zr_getE C gf_X4_60 qm0 rfl rfl rfl ((rg hR).trans hBk.1) dX4_run_41 ?_
        refine Zr_aload_n C dX4_run_44 rfl ?_
        refine Zr_getE C gf_X4_60 qm0 rfl rfl rfl ((rg hR).trans hBk.1) dX4_run_45 ?_
        refine Zr_imul C dX4_run_48 ?_
        refine Zr_topi (y := nI (n * n)) (pk_mul _ _) ?_
        refine Zr_irem C dX4_run_49 (nI_ne0 hnp (by omega)) ?_
        refine Zr_topi (y := nI x) (by rw [hxy]; exact pk_rem (by omega) hnp (by omega)) ?_
        refine Zr_istore C dX4_run_50 (by decide) ?_
        refine Zr_iload C dX4_run_52 rfl ?_
        refine Zr_aload_n C dX4_run_54 rfl ?_
        refine Zr_getE C gf_X4_60 qm0 rfl rfl rfl ((rg hR).trans hBk.1) dX4_run_55 ?_
        refine Zr_idiv C dX4_run_58 (nI_ne0 (by omega) (by omega)) ?_
        refine Zr_topi (y := nI (x / n)) (pk_div (by omega) (by omega) (by omega)) ?_
        refine Zr_istore C dX4_run_59 (by decide) ?_
        refine Zr_iload C dX4_run_61 rfl ?_
        refine Zr_aload_n C dX4_run_63 rfl ?_
        refine Zr_getE C gf_X4_60 qm0 rfl rfl rfl ((rg hR).trans hBk.1) dX4_run_64 ?_
        refine Zr_irem C dX4_run_67 (nI_ne0 (by omega) (by omega)) ?_
        refine Zr_topi (y := nI (x % n)) (pk_rem (by omega) (by omega) (by omega)) ?_
        refine Zr_istore C dX4_run_68 (by decide) ?_
        refine Zr_iload C dX4_run_70 rfl ?_
        refine Zr_iload C dX4_run_72 rfl ?_
        refine Zr_icmp_ne C 86 dX4_run_74 (by decide) (fun h74 => absurd (congrArg nI hpq) h74) (fun h74 => ?_)
        refine Zr_aload_n C dX4_run_77 rfl ?_
        refine Zr_iload C dX4_run_78 rfl ?_
        refine Zr_callVR C cw_X4_153 (k_X4_pass hBk hR hdp hLk) qm0 rfl rfl rfl (Nat.le_of_ble_eq_true rfl) (Nat.le_of_ble_eq_true rfl) rfl (Nat.le_of_ble_eq_true rfl) dX4_run_80 ⟨Nat.zero_le _, Nat.zero_le _⟩ (fun S hR => ?_)
        refine Zr_goto C 94 dX4_run_83 (by decide) ?_
        refine Zr_istore C dX4_run_94 (by decide) ?_
        refine Zr_iload C dX4_run_96 rfl ?_
        refine Zr_iload C dX4_run_98 rfl ?_
        refine Zr_iconst C (-1) dX4_run_100 rfl ?_
        refine Zr_icmp_ne C 108 dX4_run_101 (by decide) (fun h101 => ?_) (fun h101 => ?_)
        · refine Zr_iconst C (1) dX4_run_108 rfl ?_
          refine Zr_iadd C dX4_run_109 ?_
          refine Zr_topi (y := dn) (by first | (rw [hdn, if_neg h101]; done) | rw [hdn, if_pos h101, Int32.add_zero]) ?_
          refine Zr_istore C dX4_run_110 (by decide) ?_
          refine Zr_iincE C (1) (nI (k + 1)) dX4_run_112 (by decide) rfl rfl (nI_1 _) ?_
          refine Zr_goto C 21 dX4_run_115 (by decide) ?_
          exact Zr_forget 9 (Zr_forget 8 (Zr_forget 7 (Zr_forget 6 (ih (k + 1) (s2, dn, _) S (by omega) (by rw [hdn]; exact hst) hR))))
        · refine Zr_iconst C (0) dX4_run_104 rfl ?_
          refine Zr_goto C 109 dX4_run_105 (by decide) ?_
          refine Zr_iadd C dX4_run_109 ?_
          refine Zr_topi (y := dn) (by first | (rw [hdn, if_neg h101]; done) | rw [hdn, if_pos h101, Int32.add_zero]) ?_
          refine Zr_istore C dX4_run_110 (by decide) ?_
          refine Zr_iincE C (1) (nI (k + 1)) dX4_run_112 (by decide) rfl rfl (nI_1 _) ?_
          refine Zr_goto C 21 dX4_run_115 (by decide) ?_
          exact Zr_forget 9 (Zr_forget 8 (Zr_forget 7 (Zr_forget 6 (ih (k + 1) (s2, dn, _) S (by omega) (by rw [hdn]; exact hst) hR))))
      · have hst := aRun_s hu hs2 hx (show fStep n u.2.2 x = fRecv n u.2.2 (x / n) (x % n) from if_neg hpq)
        obtain ⟨dn, hdn⟩ : ∃ dn, dn = if (fRecv n u.2.2 (x / n) (x % n)).1 = -1 then u.2.1 else u.2.1 + 1 := ⟨_, rfl⟩
        refine Zr_iload C dX4_run_21 rfl ?_
        refine Zr_iload_n C dX4_run_23 rfl ?_
        refine Zr_icmp_ge C 118 dX4_run_24 (by decide) (fun h24 => absurd h24 (nI_ge (show k < t by omega) (by omega))) (fun h24 => ?_)
        refine Zr_iload_n C dX4_run_27 rfl ?_
        refine Zr_ldc C ct_X4_152 dX4_run_28 ?_
        refine Zr_imul C dX4_run_30 ?_
        refine Zr_sipush C (12345) dX4_run_31 rfl ?_
        refine Zr_iadd C dX4_run_34 ?_
        refine Zr_topi (y := s2) (by rw [hs2]; exact hg _) ?_
        refine Zr_istore_n C dX4_run_35 (by decide) ?_
        refine Zr_iload_n C dX4_run_36 rfl ?_
        refine Zr_bipush C (16) dX4_run_37 rfl ?_
        refine Zr_iushr C dX4_run_39 ?_
        refine Zr_topi (y := nI y16) (by rw [hy16]; exact i32_ush _) ?_
        refine Zr_aload_n C dX4_run_40 rfl ?_
        refine Zr_getE C gf_X4_60 qm0 rfl rfl rfl ((rg hR).trans hBk.1) dX4_run_41 ?_
        refine Zr_aload_n C dX4_run_44 rfl ?_
        refine Zr_getE C gf_X4_60 qm0 rfl rfl rfl ((rg hR).trans hBk.1) dX4_run_45 ?_
        refine Zr_imul C dX4_run_48 ?_
        refine Zr_topi (y := nI (n * n)) (pk_mul _ _) ?_
        refine Zr_irem C dX4_run_49 (nI_ne0 hnp (by omega)) ?_
        refine Zr_topi (y := nI x) (by rw [hxy]; exact pk_rem (by omega) hnp (by omega)) ?_
        refine Zr_istore C dX4_run_50 (by decide) ?_
        refine Zr_iload C dX4_run_52 rfl ?_
        refine Zr_aload_n C dX4_run_54 rfl ?_
        refine Zr_getE C gf_X4_60 qm0 rfl rfl rfl ((rg hR).trans hBk.1) dX4_run_55 ?_
        refine Zr_idiv C dX4_run_58 (nI_ne0 (by omega) (by omega)) ?_
        refine Zr_topi (y := nI (x / n)) (pk_div (by omega) (by omega) (by omega)) ?_
        refine Zr_istore C dX4_run_59 (by decide) ?_
        refine Zr_iload C dX4_run_61 rfl ?_
        refine Zr_aload_n C dX4_run_63 rfl ?_
        refine Zr_getE C gf_X4_60 qm0 rfl rfl rfl ((rg hR).trans hBk.1) dX4_run_64 ?_
        refine Zr_irem C dX4_run_67 (nI_ne0 (by omega) (by omega)) ?_
        refine Zr_topi (y := nI (x % n)) (pk_rem (by omega) (by omega) (by omega)) ?_
        refine Zr_istore C dX4_run_68 (by decide) ?_
        refine Zr_iload C dX4_run_70 rfl ?_
        refine Zr_iload C dX4_run_72 rfl ?_
        refine Zr_icmp_ne C 86 dX4_run_74 (by decide) (fun h74 => ?_) (fun h74 => absurd ((nI_eq (by omega) (by omega)).mp h74) hpq)
        refine Zr_aload_n C dX4_run_86 rfl ?_
        refine Zr_iload C dX4_run_87 rfl ?_
        refine Zr_iload C dX4_run_89 rfl ?_
        refine Zr_callVR C cw_X4_156 (k_X4_receive hSk hR hdp hdq hpq) qm0 rfl rfl rfl (Nat.le_of_ble_eq_true rfl) (Nat.le_of_ble_eq_true rfl) rfl (Nat.le_of_ble_eq_true rfl) dX4_run_91 ⟨Nat.zero_le _, Nat.zero_le _⟩ (fun S hR => ?_)
        refine Zr_istore C dX4_run_94 (by decide) ?_
        refine Zr_iload C dX4_run_96 rfl ?_
        refine Zr_iload C dX4_run_98 rfl ?_
        refine Zr_iconst C (-1) dX4_run_100 rfl ?_
        refine Zr_icmp_ne C 108 dX4_run_101 (by decide) (fun h101 => ?_) (fun h101 => ?_)
        · refine Zr_iconst C (1) dX4_run_108 rfl ?_
          refine Zr_iadd C dX4_run_109 ?_
          refine Zr_topi (y := dn) (by first | (rw [hdn, if_neg h101]; done) | rw [hdn, if_pos h101, Int32.add_zero]) ?_
          refine Zr_istore C dX4_run_110 (by decide) ?_
          refine Zr_iincE C (1) (nI (k + 1)) dX4_run_112 (by decide) rfl rfl (nI_1 _) ?_
          refine Zr_goto C 21 dX4_run_115 (by decide) ?_
          exact Zr_forget 9 (Zr_forget 8 (Zr_forget 7 (Zr_forget 6 (ih (k + 1) (s2, dn, _) S (by omega) (by rw [hdn]; exact hst) hR))))
        · refine Zr_iconst C (0) dX4_run_104 rfl ?_
          refine Zr_goto C 109 dX4_run_105 (by decide) ?_
          refine Zr_iadd C dX4_run_109 ?_
          refine Zr_topi (y := dn) (by first | (rw [hdn, if_neg h101]; done) | rw [hdn, if_pos h101, Int32.add_zero]) ?_
          refine Zr_istore C dX4_run_110 (by decide) ?_
          refine Zr_iincE C (1) (nI (k + 1)) dX4_run_112 (by decide) rfl rfl (nI_1 _) ?_
          refine Zr_goto C 21 dX4_run_115 (by decide) ?_
          exact Zr_forget 9 (Zr_forget 8 (Zr_forget 7 (Zr_forget 6 (ih (k + 1) (s2, dn, _) S (by omega) (by rw [hdn]; exact hst) hR))))
  refine Zr_iload_n C dX4_run_0 rfl ?_
  refine Zr_if_lt C 11 dX4_run_1 (by decide) (fun h1 => absurd h1 (nI_pos (by omega))) (fun h1 => ?_)
  refine Zr_iload_n C dX4_run_4 rfl ?_
  refine Zr_sipush C (2000) dX4_run_5 rfl ?_
  refine Zr_icmp_le C 13 dX4_run_8 (by decide) (fun h8 => ?_) (fun h8 => absurd (nI_le (b := 2000) ht (by decide)) h8)
  refine Zr_iload_n C dX4_run_13 rfl ?_
  refine Zr_istore_n C dX4_run_14 (by decide) ?_
  refine Zr_iconst C (0) dX4_run_15 rfl ?_
  refine Zr_istore C dX4_run_16 (by decide) ?_
  refine Zr_iconst C (0) dX4_run_18 rfl ?_
  refine Zr_istore C dX4_run_19 (by decide) ?_
  exact key t 0 (seed, 0, σ) S (by omega) rfl hR
set_option maxHeartbeats 4000000 in
set_option maxRecDepth 100000 in
theorem k_X4_run_f {l : Launch} {D : va_G} {K : zKs} {ad : zAd} {S : zSt} {σ : aS} {x seed : Int32} (hR : rRel σ S) (hx : x < 0 ∨ 2000 < x) : zMet l yX4_run cX4_run 10 (some .int) { frames := 5, cells := 0, slots := 0, locals := 124 } D K rIL (rSh K) ad S [.ref (ad (0, 0)), .int x, .int seed] (zEq (some (.int (-1))) (rSh K) ad (S)) := by
  refine zEnter (own := RX4) (lv0 := [some (.ref (ad (0, 0))), some (.int x), some (.int seed), none, none, none, none, none, none, none]) (by decide) rfl (by simp [Value.category]) (Nat.le_of_ble_eq_true rfl) rfl ?_
  intro p e s m below meth c A C _ hnm
  refine Zr_iload_n C dX4_run_0 rfl ?_
  refine Zr_if_lt C 11 dX4_run_1 (by decide) (fun h1 => ?_) (fun h1 => ?_)
  · refine Zr_iconst C (-1) dX4_run_11 rfl ?_
    exact Zr_iret C dX4_run_12 (Nat.zero_le _) (Nat.zero_le _) ⟨rfl, rfl, rfl, rfl⟩
  · refine Zr_iload_n C dX4_run_4 rfl ?_
    refine Zr_sipush C (2000) dX4_run_5 rfl ?_
    refine Zr_icmp_le C 13 dX4_run_8 (by decide) (fun h8 => absurd (hx.resolve_left h1) (i32_le h8)) (fun h8 => ?_)
    refine Zr_iconst C (-1) dX4_run_11 rfl ?_
    exact Zr_iret C dX4_run_12 (Nat.zero_le _) (Nat.zero_le _) ⟨rfl, rfl, rfl, rfl⟩
