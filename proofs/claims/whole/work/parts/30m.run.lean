theorem aLam_run {g : Int32 → Int32} {h : Int32 → Nat} {n : Nat} {seed : Int32} {σ : aS} (I : aS → Prop) (hh : hH n h) (hIS : ∀ τ, I τ → aSafe n τ) (hIp : ∀ τ, I τ → ∀ i, i < n → I (fPass n τ i).2) (hIr : ∀ τ, I τ → ∀ i j, i < n → j < n → i ≠ j → I (fRecv n τ i j).2) (hI : I σ) (k : Nat) : ∀ d, aLam (aRun g h n seed σ k).2.2 ≤ aLam (aRun g h n seed σ (k + d)).2.2 := by
  have hB := (hIS σ hI).1
  intro d
  induction d with
  | zero => exact Nat.le_refl _
  | succ d ih =>
    refine Nat.le_trans ih ?_
    show _ ≤ aLam (aRun g h n seed σ (k + d + 1)).2.2
    rw [aRun]
    have hx := hh.lt hB.2.1 (g (aRun g h n seed σ (k + d)).1)
    have hIk := aRun_I (g := g) (seed := seed) I hh hB.2.1 hIp hIr hI (k + d)
    generalize h (g (aRun g h n seed σ (k + d)).1) = x at hx
    dsimp only
    unfold fStep
    split
    · exact aLam_pass hB.2.2.1 hB.2.1 (nn_p hx)
    · exact aLam_recv (hIS _ hIk) (nn_p hx) (nn_q hB.2.1)
set_option maxHeartbeats 1000000 in
set_option maxRecDepth 100000 in
theorem k_X3_run {l : Launch} {D : va_G} {K : zKs} {n : Nat} {ad : zAd} {ca : Nat → Nat} {S : zSt} {σ : aS} {t F : Nat} {seed : Int32} {g : Int32 → Int32} {h : Int32 → Nat} (hg : hG g) (hh : hH n h) (I : aS → Prop) (hIS : ∀ τ, I τ → cOK n τ ∧ cAk n τ) (hIp : ∀ τ, I τ → ∀ i, i < n → I (fPass n τ i).2) (hIr : ∀ τ, I τ → ∀ i j, i < n → j < n → i ≠ j → I (fRecv n τ i j).2) (hI : I σ) (hR : cRel n σ S) (ht : t ≤ 2000) (hF : aLam (aRun g h n seed σ t).2.2 ≤ F) : zMet l yX3_run cX3_run 10 (some .int) { frames := 6, cells := (F - aLam σ), slots := (2 * (F - aLam σ)), locals := 140 } D K (cIL n) (cSh K n (cpo n σ.2.2)) (zA ad ca) S [.ref (zA ad ca (0, 0)), .int (nI t), .int seed] (cP K n ad (some (.int (aRun g h n seed σ t).2.1)) (aRun g h n seed σ t).2.2) := by
  refine zEnter (own := RX3) (lv0 := [some (.ref (zA ad ca (0, 0))), some (.int (nI t)), some (.int seed), none, none, none, none, none, none, none]) (by decide) rfl (by simp [Value.category]) (Nat.le_of_ble_eq_true rfl) rfl ?_
  intro p e s m below meth c A C _ hnm
  have hB := (hIS σ hI).1.b
  have hn := hB.2.2.1
  have hn2 := hB.2.1
  have hISs : ∀ τ, I τ → aSafe n τ := fun τ hτ => (hIS τ hτ).1.safe
  have mono := fun k d => aLam_run (g := g) (seed := seed) I hh hISs hIp hIr hI k d
  have key : ∀ (d k : Nat) (u : Int32 × Int32 × aS) (cb : Nat → Nat) (S : zSt), k + d = t → u = aRun g h n seed σ k → cRel n u.2.2 S → Z p l e ({ frames := 6, cells := (F - aLam σ), slots := (2 * (F - aLam σ)), locals := 140 } : Room) s m ([.ref (zA ad ca (0, 0)), .int (nI t), .int seed] : List Value).toArray below meth c D A 10 (MQ below (zQ (cP K n ad (some (.int (aRun g h n seed σ t).2.1)) (aRun g h n seed σ t).2.2) (cIL n) D A) ([.ref (zA ad ca (0, 0)), .int (nI t), .int seed] : List Value).toArray s (F - aLam σ) (2 * (F - aLam σ)) A) (cIL n) (aLam u.2.2 - aLam σ) (2 * (aLam u.2.2 - aLam σ)) (cSh K n (cpo n u.2.2.2.2)) (zA ad cb) S (21) ([some (.ref (zA ad ca (0, 0))), some (.int (nI t)), some (.int seed), some (.int u.2.1), some (.int u.1), some (.int (nI k)), none, none, none, none]) ([]) := by
    intro d
    induction d with
    | zero =>
      intro k u cb S hk hu hR
      have hk : k = t := by omega
      subst hk
      rw [← hu] at hF
      refine Zr_iload C dX3_run_21 rfl ?_
      refine Zr_iload_n C dX3_run_23 rfl ?_
      refine Zr_icmp_ge C 114 dX3_run_24 (by decide) (fun h24 => ?_) (fun h24 => absurd (nI_le (Nat.le_refl _) (by omega)) h24)
      refine Zr_iload_n C dX3_run_114 rfl ?_
      exact Zr_iret C dX3_run_115 (by show aLam u.2.2 - aLam σ ≤ F - aLam σ; omega) (by show 2 * (aLam u.2.2 - aLam σ) ≤ 2 * (F - aLam σ); omega) ⟨by rw [hu], by rw [← hu], ⟨_, rfl⟩, by rw [← hu]; exact hR⟩
    | succ d ih =>
      intro k u cb S hk hu hR
      have hIk : I u.2.2 := by rw [hu]; exact aRun_I I hh hn2 hIp hIr hI k
      obtain ⟨hOk, hAk⟩ := hIS _ hIk
      have hBk := hOk.b
      have hnn := nn_le hn
      have hnp := nn_pos hn2
      obtain ⟨s2, hs2⟩ : ∃ s2, s2 = g u.1 := ⟨_, rfl⟩
      obtain ⟨y16, hy16⟩ : ∃ y16, y16 = s2.toBitVec.toNat / 65536 := ⟨_, rfl⟩
      have hu16 : y16 < 65536 := by rw [hy16]; exact i32_u16 s2
      obtain ⟨x, hx⟩ : ∃ x, x = h s2 := ⟨_, rfl⟩
      have hxy : x = y16 % (n * n) := by rw [hx, hh s2, hy16]
      have hd : x < n * n := by rw [hx]; exact hh.lt hn2 s2
      have hdp := nn_p hd
      have hdq : x % n < n := nn_q hn2
      have m0 : aLam σ ≤ aLam u.2.2 := by
        have := mono 0 k
        rw [Nat.zero_add, ← hu] at this
        exact this
      have m2 : aLam (aRun g h n seed σ (k + 1)).2.2 ≤ F := by
        have := mono (k + 1) (t - (k + 1))
        rw [show k + 1 + (t - (k + 1)) = t by omega] at this
        omega
      by_cases hpq : x / n = x % n
      · have hst := aRun_s hu hs2 hx (show fStep n u.2.2 x = fPass n u.2.2 (x / n) from if_pos hpq)
        have m1 := aLam_pass (σ := u.2.2) hn hn2 hdp
        rw [← hst] at m2
        dsimp only at m2
        obtain ⟨dn, hdn⟩ : ∃ dn, dn = if (fPass n u.2.2 (x / n)).1 = -1 then u.2.1 else u.2.1 + 1 := ⟨_, rfl⟩
        refine Zr_iload C dX3_run_21 rfl ?_
        refine Zr_iload_n C dX3_run_23 rfl ?_
        refine Zr_icmp_ge C 114 dX3_run_24 (by decide) (fun h24 => absurd h24 (nI_ge (show k < t by omega) (by omega))) (fun h24 => ?_)
        refine Zr_iload C dX3_run_27 rfl ?_
        refine Zr_ldc C ct_X3_174 dX3_run_29 ?_
        refine Zr_imul C dX3_run_31 ?_
        refine Zr_sipush C (12345) dX3_run_32 rfl ?_
        refine Zr_iadd C dX3_run_35 ?_
        refine Zr_topi (y := s2) (by rw [hs2]; exact hg _) ?_
        refine Zr_istore C dX3_run_36 (by decide) ?_
        refine Zr_iload C dX3_run_38 rfl ?_
        refine Zr_bipush C (16) dX3_run_40 rfl ?_
        refine Zr_iushr C dX3_run_42 ?_
        refine Zr_topi (y := nI y16) (by rw [hy16]; exact i32_ush _) ?_
        refine Zr_aload_n C dX3_run_43 rfl ?_
        refine Zr_getE C gf_X3_18 cm0 rfl rfl rfl (hR.1.1.trans hBk.1) dX3_run_44 ?_
        refine Zr_aload_n C dX3_run_47 rfl ?_
        refine Zr_getE C gf_X3_18 cm0 rfl rfl rfl (hR.1.1.trans hBk.1) dX3_run_48 ?_
        refine Zr_imul C dX3_run_51 ?_
        refine Zr_topi (y := nI (n * n)) (pk_mul _ _) ?_
        refine Zr_irem C dX3_run_52 (nI_ne0 hnp (by omega)) ?_
        refine Zr_topi (y := nI x) (by rw [hxy]; exact pk_rem (by omega) hnp (by omega)) ?_
        refine Zr_istore C dX3_run_53 (by decide) ?_
        refine Zr_iload C dX3_run_55 rfl ?_
        refine Zr_aload_n C dX3_run_57 rfl ?_
        refine Zr_getE C gf_X3_18 cm0 rfl rfl rfl (hR.1.1.trans hBk.1) dX3_run_58 ?_
        refine Zr_idiv C dX3_run_61 (nI_ne0 (by omega) (by omega)) ?_
        refine Zr_topi (y := nI (x / n)) (pk_div (by omega) (by omega) (by omega)) ?_
        refine Zr_istore C dX3_run_62 (by decide) ?_
        refine Zr_iload C dX3_run_64 rfl ?_
        refine Zr_aload_n C dX3_run_66 rfl ?_
        refine Zr_getE C gf_X3_18 cm0 rfl rfl rfl (hR.1.1.trans hBk.1) dX3_run_67 ?_
        refine Zr_irem C dX3_run_70 (nI_ne0 (by omega) (by omega)) ?_
        refine Zr_topi (y := nI (x % n)) (pk_rem (by omega) (by omega) (by omega)) ?_
        refine Zr_istore C dX3_run_71 (by decide) ?_
        refine Zr_iload C dX3_run_73 rfl ?_
        refine Zr_iload C dX3_run_75 rfl ?_
        refine Zr_icmp_ne C 89 dX3_run_77 (by decide) (fun h77 => absurd (congrArg nI hpq) h77) (fun h77 => ?_)
        refine Zr_aload_n C dX3_run_80 rfl ?_
        refine Zr_iload C dX3_run_81 rfl ?_
        refine Zr_callVC C cw_X3_175 (k_X3_pass hOk hR hdp (Nat.le_refl _)) cm0 rfl rfl rfl (Nat.le_of_ble_eq_true rfl) (Nat.le_of_ble_eq_true rfl) rfl (Nat.le_of_ble_eq_true rfl) dX3_run_83 ⟨by show aLam u.2.2 - aLam σ + (aLam (fPass n u.2.2 (x / n)).2 - aLam u.2.2) ≤ F - aLam σ; omega, by show 2 * (aLam u.2.2 - aLam σ) + 2 * (aLam (fPass n u.2.2 (x / n)).2 - aLam u.2.2) ≤ 2 * (F - aLam σ); omega⟩ (fun ca S hR => ?_)
        refine Zr_goto C 97 dX3_run_86 (by decide) ?_
        refine Zr_istore C dX3_run_97 (by decide) ?_
        refine Zr_iload C dX3_run_99 rfl ?_
        refine Zr_iconst C (-1) dX3_run_101 rfl ?_
        refine Zr_icmp_eq C 108 dX3_run_102 (by decide) (fun h102 => ?_) (fun h102 => ?_)
        · have ed : dn = u.2.1 := by rw [hdn, if_pos h102]
          refine Zr_iincE C (1) (nI (k + 1)) dX3_run_108 (by decide) rfl rfl (nI_1 _) ?_
          refine Zr_goto C 21 dX3_run_111 (by decide) ?_
          first | exact (Zr_forget 9 (Zr_forget 8 (Zr_forget 7 (Zr_forget 6 (Zr_cs (cells' := aLam (fPass n u.2.2 (x / n)).2 - aLam σ) (slots' := 2 * (aLam (fPass n u.2.2 (x / n)).2 - aLam σ)) (by omega) (by omega) (ih (k + 1) (s2, dn, (fPass n u.2.2 (x / n)).2) ca S (by omega) (by rw [hdn]; exact hst) hR)))))) | (rw [← ed]; exact (Zr_forget 9 (Zr_forget 8 (Zr_forget 7 (Zr_forget 6 (Zr_cs (cells' := aLam (fPass n u.2.2 (x / n)).2 - aLam σ) (slots' := 2 * (aLam (fPass n u.2.2 (x / n)).2 - aLam σ)) (by omega) (by omega) (ih (k + 1) (s2, dn, (fPass n u.2.2 (x / n)).2) ca S (by omega) (by rw [hdn]; exact hst) hR)))))))
        · refine Zr_iincE C (1) (dn) dX3_run_105 (by decide) rfl rfl (by rw [hdn, if_neg h102]) ?_
          refine Zr_iincE C (1) (nI (k + 1)) dX3_run_108 (by decide) rfl rfl (nI_1 _) ?_
          refine Zr_goto C 21 dX3_run_111 (by decide) ?_
          first | exact (Zr_forget 9 (Zr_forget 8 (Zr_forget 7 (Zr_forget 6 (Zr_cs (cells' := aLam (fPass n u.2.2 (x / n)).2 - aLam σ) (slots' := 2 * (aLam (fPass n u.2.2 (x / n)).2 - aLam σ)) (by omega) (by omega) (ih (k + 1) (s2, dn, (fPass n u.2.2 (x / n)).2) ca S (by omega) (by rw [hdn]; exact hst) hR)))))) | (rw [← ed]; exact (Zr_forget 9 (Zr_forget 8 (Zr_forget 7 (Zr_forget 6 (Zr_cs (cells' := aLam (fPass n u.2.2 (x / n)).2 - aLam σ) (slots' := 2 * (aLam (fPass n u.2.2 (x / n)).2 - aLam σ)) (by omega) (by omega) (ih (k + 1) (s2, dn, (fPass n u.2.2 (x / n)).2) ca S (by omega) (by rw [hdn]; exact hst) hR)))))))
      · have hst := aRun_s hu hs2 hx (show fStep n u.2.2 x = fRecv n u.2.2 (x / n) (x % n) from if_neg hpq)
        have m1 := aLam_recv hOk.safe hdp hdq
        rw [← hst] at m2
        dsimp only at m2
        obtain ⟨dn, hdn⟩ : ∃ dn, dn = if (fRecv n u.2.2 (x / n) (x % n)).1 = -1 then u.2.1 else u.2.1 + 1 := ⟨_, rfl⟩
        refine Zr_iload C dX3_run_21 rfl ?_
        refine Zr_iload_n C dX3_run_23 rfl ?_
        refine Zr_icmp_ge C 114 dX3_run_24 (by decide) (fun h24 => absurd h24 (nI_ge (show k < t by omega) (by omega))) (fun h24 => ?_)
        refine Zr_iload C dX3_run_27 rfl ?_
        refine Zr_ldc C ct_X3_174 dX3_run_29 ?_
        refine Zr_imul C dX3_run_31 ?_
        refine Zr_sipush C (12345) dX3_run_32 rfl ?_
        refine Zr_iadd C dX3_run_35 ?_
        refine Zr_topi (y := s2) (by rw [hs2]; exact hg _) ?_
        refine Zr_istore C dX3_run_36 (by decide) ?_
        refine Zr_iload C dX3_run_38 rfl ?_
        refine Zr_bipush C (16) dX3_run_40 rfl ?_
        refine Zr_iushr C dX3_run_42 ?_
        refine Zr_topi (y := nI y16) (by rw [hy16]; exact i32_ush _) ?_
        refine Zr_aload_n C dX3_run_43 rfl ?_
        refine Zr_getE C gf_X3_18 cm0 rfl rfl rfl (hR.1.1.trans hBk.1) dX3_run_44 ?_
        refine Zr_aload_n C dX3_run_47 rfl ?_
        refine Zr_getE C gf_X3_18 cm0 rfl rfl rfl (hR.1.1.trans hBk.1) dX3_run_48 ?_
        refine Zr_imul C dX3_run_51 ?_
        refine Zr_topi (y := nI (n * n)) (pk_mul _ _) ?_
        refine Zr_irem C dX3_run_52 (nI_ne0 hnp (by omega)) ?_
        refine Zr_topi (y := nI x) (by rw [hxy]; exact pk_rem (by omega) hnp (by omega)) ?_
        refine Zr_istore C dX3_run_53 (by decide) ?_
        refine Zr_iload C dX3_run_55 rfl ?_
        refine Zr_aload_n C dX3_run_57 rfl ?_
        refine Zr_getE C gf_X3_18 cm0 rfl rfl rfl (hR.1.1.trans hBk.1) dX3_run_58 ?_
        refine Zr_idiv C dX3_run_61 (nI_ne0 (by omega) (by omega)) ?_
        refine Zr_topi (y := nI (x / n)) (pk_div (by omega) (by omega) (by omega)) ?_
        refine Zr_istore C dX3_run_62 (by decide) ?_
        refine Zr_iload C dX3_run_64 rfl ?_
        refine Zr_aload_n C dX3_run_66 rfl ?_
        refine Zr_getE C gf_X3_18 cm0 rfl rfl rfl (hR.1.1.trans hBk.1) dX3_run_67 ?_
        refine Zr_irem C dX3_run_70 (nI_ne0 (by omega) (by omega)) ?_
        refine Zr_topi (y := nI (x % n)) (pk_rem (by omega) (by omega) (by omega)) ?_
        refine Zr_istore C dX3_run_71 (by decide) ?_
        refine Zr_iload C dX3_run_73 rfl ?_
        refine Zr_iload C dX3_run_75 rfl ?_
        refine Zr_icmp_ne C 89 dX3_run_77 (by decide) (fun h77 => ?_) (fun h77 => absurd ((nI_eq (by omega) (by omega)).mp h77) hpq)
        refine Zr_aload_n C dX3_run_89 rfl ?_
        refine Zr_iload C dX3_run_90 rfl ?_
        refine Zr_iload C dX3_run_92 rfl ?_
        refine Zr_callVC C cw_X3_178 (k_X3_receive hOk hAk hR hdp hdq hpq (Nat.le_refl _)) cm0 rfl rfl rfl (Nat.le_of_ble_eq_true rfl) (Nat.le_of_ble_eq_true rfl) rfl (Nat.le_of_ble_eq_true rfl) dX3_run_94 ⟨by show aLam u.2.2 - aLam σ + (aLam (fRecv n u.2.2 (x / n) (x % n)).2 - aLam u.2.2) ≤ F - aLam σ; omega, by show 2 * (aLam u.2.2 - aLam σ) + 2 * (aLam (fRecv n u.2.2 (x / n) (x % n)).2 - aLam u.2.2) ≤ 2 * (F - aLam σ); omega⟩ (fun ca S hR => ?_)
        refine Zr_istore C dX3_run_97 (by decide) ?_
        refine Zr_iload C dX3_run_99 rfl ?_
        refine Zr_iconst C (-1) dX3_run_101 rfl ?_
        refine Zr_icmp_eq C 108 dX3_run_102 (by decide) (fun h102 => ?_) (fun h102 => ?_)
        · have ed : dn = u.2.1 := by rw [hdn, if_pos h102]
          refine Zr_iincE C (1) (nI (k + 1)) dX3_run_108 (by decide) rfl rfl (nI_1 _) ?_
          refine Zr_goto C 21 dX3_run_111 (by decide) ?_
          first | exact (Zr_forget 9 (Zr_forget 8 (Zr_forget 7 (Zr_forget 6 (Zr_cs (cells' := aLam (fRecv n u.2.2 (x / n) (x % n)).2 - aLam σ) (slots' := 2 * (aLam (fRecv n u.2.2 (x / n) (x % n)).2 - aLam σ)) (by omega) (by omega) (ih (k + 1) (s2, dn, (fRecv n u.2.2 (x / n) (x % n)).2) ca S (by omega) (by rw [hdn]; exact hst) hR)))))) | (rw [← ed]; exact (Zr_forget 9 (Zr_forget 8 (Zr_forget 7 (Zr_forget 6 (Zr_cs (cells' := aLam (fRecv n u.2.2 (x / n) (x % n)).2 - aLam σ) (slots' := 2 * (aLam (fRecv n u.2.2 (x / n) (x % n)).2 - aLam σ)) (by omega) (by omega) (ih (k + 1) (s2, dn, (fRecv n u.2.2 (x / n) (x % n)).2) ca S (by omega) (by rw [hdn]; exact hst) hR)))))))
        · refine Zr_iincE C (1) (dn) dX3_run_105 (by decide) rfl rfl (by rw [hdn, if_neg h102]) ?_
          refine Zr_iincE C (1) (nI (k + 1)) dX3_run_108 (by decide) rfl rfl (nI_1 _) ?_
          refine Zr_goto C 21 dX3_run_111 (by decide) ?_
          first | exact (Zr_forget 9 (Zr_forget 8 (Zr_forget 7 (Zr_forget 6 (Zr_cs (cells' := aLam (fRecv n u.2.2 (x / n) (x % n)).2 - aLam σ) (slots' := 2 * (aLam (fRecv n u.2.2 (x / n) (x % n)).2 - aLam σ)) (by omega) (by omega) (ih (k + 1) (s2, dn, (fRecv n u.2.2 (x / n) (x % n)).2) ca S (by omega) (by rw [hdn]; exact hst) hR)))))) | (rw [← ed]; exact (Zr_forget 9 (Zr_forget 8 (Zr_forget 7 (Zr_forget 6 (Zr_cs (cells' := aLam (fRecv n u.2.2 (x / n) (x % n)).2 - aLam σ) (slots' := 2 * (aLam (fRecv n u.2.2 (x / n) (x % n)).2 - aLam σ)) (by omega) (by omega) (ih (k + 1) (s2, dn, (fRecv n u.2.2 (x / n) (x % n)).2) ca S (by omega) (by rw [hdn]; exact hst) hR)))))))
  refine Zr_iload_n C dX3_run_0 rfl ?_
  refine Zr_if_lt C 11 dX3_run_1 (by decide) (fun h1 => absurd h1 (nI_pos (by omega))) (fun h1 => ?_)
  refine Zr_iload_n C dX3_run_4 rfl ?_
  refine Zr_sipush C (2000) dX3_run_5 rfl ?_
  refine Zr_icmp_le C 13 dX3_run_8 (by decide) (fun h8 => ?_) (fun h8 => absurd (nI_le (b := 2000) ht (by decide)) h8)
  refine Zr_iconst C (0) dX3_run_13 rfl ?_
  refine Zr_istore_n C dX3_run_14 (by decide) ?_
  refine Zr_iload_n C dX3_run_15 rfl ?_
  refine Zr_istore C dX3_run_16 (by decide) ?_
  refine Zr_iconst C (0) dX3_run_18 rfl ?_
  refine Zr_istore C dX3_run_19 (by decide) ?_
  exact Zr_cs (cells' := aLam σ - aLam σ) (slots' := 2 * (aLam σ - aLam σ)) (by omega) (by omega) (key t 0 (seed, 0, σ) ca S (by omega) rfl hR)
set_option maxHeartbeats 1000000 in
set_option maxRecDepth 100000 in
theorem k_X3_run_f {l : Launch} {D : va_G} {K : zKs} {n : Nat} {ad : zAd} {ca : Nat → Nat} {S : zSt} {σ : aS} {x seed : Int32} (hR : cRel n σ S) (hx : x < 0 ∨ 2000 < x) : zMet l yX3_run cX3_run 10 (some .int) { frames := 6, cells := 0, slots := 0, locals := 140 } D K (cIL n) (cSh K n (cpo n σ.2.2)) (zA ad ca) S [.ref (zA ad ca (0, 0)), .int x, .int seed] (zEq (some (.int (-1))) (cSh K n (cpo n σ.2.2)) (zA ad ca) (S)) := by
  refine zEnter (own := RX3) (lv0 := [some (.ref (zA ad ca (0, 0))), some (.int x), some (.int seed), none, none, none, none, none, none, none]) (by decide) rfl (by simp [Value.category]) (Nat.le_of_ble_eq_true rfl) rfl ?_
  intro p e s m below meth c A C _ hnm
  refine Zr_iload_n C dX3_run_0 rfl ?_
  refine Zr_if_lt C 11 dX3_run_1 (by decide) (fun h1 => ?_) (fun h1 => ?_)
  · refine Zr_iconst C (-1) dX3_run_11 rfl ?_
    exact Zr_iret C dX3_run_12 (Nat.zero_le _) (Nat.zero_le _) ⟨rfl, rfl, rfl, rfl⟩
  · refine Zr_iload_n C dX3_run_4 rfl ?_
    refine Zr_sipush C (2000) dX3_run_5 rfl ?_
    refine Zr_icmp_le C 13 dX3_run_8 (by decide) (fun h8 => absurd (hx.resolve_left h1) (i32_le h8)) (fun h8 => ?_)
    refine Zr_iconst C (-1) dX3_run_11 rfl ?_
    exact Zr_iret C dX3_run_12 (Nat.zero_le _) (Nat.zero_le _) ⟨rfl, rfl, rfl, rfl⟩
