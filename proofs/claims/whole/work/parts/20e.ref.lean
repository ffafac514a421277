theorem nI_sub1 {i : Nat} (h : 0 < i) : nI i - 1 = nI (i - 1) := by
  obtain ⟨k, rfl⟩ : ∃ k, i = k + 1 := ⟨i - 1, by omega⟩
  exact nI_pred k
theorem w_out {w : Int32} (N : Nat) (hN : N < 1000) (h : ∀ k, k ≤ N → w ≠ nI k) : w.toInt < 0 ∨ (N : Int) < w.toInt := by
  rcases Int.lt_or_le w.toInt 0 with h1 | h1
  · exact Or.inl h1
  · rcases Int.lt_or_le (N : Int) w.toInt with h2 | h2
    · exact Or.inr h2
    · exfalso
      have h3 : ¬ w < 0 := fun q => by
        have := Int32.lt_iff_toInt_lt.mp q
        simp at this
        omega
      have h4 : w ≤ nI N := by
        rw [Int32.le_iff_toInt_le, nI_toInt (by omega)]
        exact h2
      obtain ⟨j, hj, rfl⟩ := nI_of2 (n := N) (nI_toInt (by omega)) h3 h4
      exact h j hj rfl
set_option maxHeartbeats 4000000 in
set_option maxRecDepth 100000 in
theorem k_X4_pass {l : Launch} {D : va_G} {K : zKs} {ad : zAd} {S : zSt} {σ : aS} {n i : Nat} (hB : aB n σ) (hR : rRel σ S) (hi : i < n) (hL : ∀ r, r < 100 → (σ.2.1 r).length < 640) : zMet l yX4_pass cX4_pass 2 (some .int) { frames := 2, cells := 0, slots := 0, locals := 48 } D K rIL (rSh K) ad S [.ref (ad (0, 0)), .int (nI i)] (zR (some (.int (fPass n σ i).1)) (rSh K) ad (rRel (fPass n σ i).2)) := by
  refine zEnter (own := RX4) (lv0 := [some (.ref (ad (0, 0))), some (.int (nI i))]) (by decide) rfl (by simp [Value.category]) (Nat.le_of_ble_eq_true rfl) rfl ?_
  intro p e s m below meth c A C _ hnm
  have hn := hB.2.2.1
  have hn2 := hB.2.1
  rcases Nat.eq_zero_or_pos i with rfl | hz
  · have hB2 : aB n (aN σ 0 0 3 1) := hB.g (by decide) (fun _ => Or.inr rfl)
    by_cases hQ : aQuiet (aN σ 0 0 3 1) n = true
    · refine Zr_aload_n C dX4_pass_0 rfl ?_
      refine Zr_iload_n C dX4_pass_1 rfl ?_
      refine Zr_callV C cw_X4_64 (k_X4_isOne_t hB hR hi) qm0 rfl rfl rfl (Nat.le_of_ble_eq_true rfl) (Nat.le_of_ble_eq_true rfl) rfl (Nat.le_of_ble_eq_true rfl) dX4_pass_2 ⟨Nat.zero_le _, Nat.zero_le _⟩ ?_
      refine Zr_if_eq C 40 dX4_pass_5 (by decide) (fun h5 => absurd h5 (by decide)) (fun h5 => ?_)
      refine Zr_aload_n C dX4_pass_8 rfl ?_
      refine Zr_getR C gf_X4_26 qm0 rfl rfl rfl (by decide) dX4_pass_9 ?_
      refine Zr_iload_n C dX4_pass_12 rfl ?_
      refine Zr_zaldN C qm_13 rfl rfl (by omega) (by decide) (ra hR (by decide)) dX4_pass_13 ?_
      refine Zr_if_eq C 40 dX4_pass_14 (by decide) (fun h14 => ?_) (fun h14 => ?_)
      · refine Zr_iconst C (-1) dX4_pass_40 rfl ?_
        exact Zr_iret C dX4_pass_41 (Nat.zero_le _) (Nat.zero_le _) (by rw [fPass, if_pos (by first | exact Or.inl h14 | exact Or.inr (Or.inl h23) | exact Or.inr (Or.inr (Or.inl h30)) | exact Or.inr (Or.inr (Or.inr h37)))]; exact ⟨rfl, rfl, rfl, hR⟩)
      · refine Zr_aload_n C dX4_pass_17 rfl ?_
        refine Zr_getR C gf_X4_9 qm0 rfl rfl rfl (by decide) dX4_pass_18 ?_
        refine Zr_iload_n C dX4_pass_21 rfl ?_
        refine Zr_zaldN C qm_8 rfl rfl (by omega) (by decide) (ra hR (by decide)) dX4_pass_22 ?_
        refine Zr_if_ne C 40 dX4_pass_23 (by decide) (fun h23 => ?_) (fun h23 => ?_)
        · refine Zr_iconst C (-1) dX4_pass_40 rfl ?_
          exact Zr_iret C dX4_pass_41 (Nat.zero_le _) (Nat.zero_le _) (by rw [fPass, if_pos (by first | exact Or.inl h14 | exact Or.inr (Or.inl h23) | exact Or.inr (Or.inr (Or.inl h30)) | exact Or.inr (Or.inr (Or.inr h37)))]; exact ⟨rfl, rfl, rfl, hR⟩)
        · refine Zr_aload_n C dX4_pass_26 rfl ?_
          refine Zr_getE C gf_X4_79 qm0 rfl rfl rfl (rg hR) dX4_pass_27 ?_
          refine Zr_if_eq C 40 dX4_pass_30 (by decide) (fun h30 => ?_) (fun h30 => ?_)
          · refine Zr_iconst C (-1) dX4_pass_40 rfl ?_
            exact Zr_iret C dX4_pass_41 (Nat.zero_le _) (Nat.zero_le _) (by rw [fPass, if_pos (by first | exact Or.inl h14 | exact Or.inr (Or.inl h23) | exact Or.inr (Or.inr (Or.inl h30)) | exact Or.inr (Or.inr (Or.inr h37)))]; exact ⟨rfl, rfl, rfl, hR⟩)
          · refine Zr_aload_n C dX4_pass_33 rfl ?_
            refine Zr_getE C gf_X4_117 qm0 rfl rfl rfl (rg hR) dX4_pass_34 ?_
            refine Zr_if_eq C 42 dX4_pass_37 (by decide) (fun h37 => ?_) (fun h37 => ?_)
            · refine Zr_iload_n C dX4_pass_42 rfl ?_
              refine Zr_if_le C 113 dX4_pass_43 (by decide) (fun h43 => ?_) (fun h43 => absurd (by decide) h43)
              refine Zr_aload_n C dX4_pass_113 rfl ?_
              refine Zr_getE C gf_X4_126 qm0 rfl rfl rfl (rg hR) dX4_pass_114 ?_
              refine Zr_if_le C 174 dX4_pass_117 (by decide) (fun h117 => ?_) (fun h117 => ?_)
              · refine Zr_aload_n C dX4_pass_174 rfl ?_
                refine Zr_dup C dX4_pass_175 rfl ?_
                refine Zr_getE C gf_X4_126 qm0 rfl rfl rfl (rg hR) dX4_pass_176 ?_
                refine Zr_iconst C (1) dX4_pass_179 rfl ?_
                refine Zr_iadd C dX4_pass_180 ?_
                refine Zr_putE C pf_X4_126 qm0 rfl rfl rfl (znI _) (rRg hR) dX4_pass_181 (fun S hR => ?_)
                refine Zr_aload_n C dX4_pass_184 rfl ?_
                refine Zr_getR C gf_X4_23 qm0 rfl rfl rfl (by decide) dX4_pass_185 ?_
                refine Zr_iconst C (0) dX4_pass_188 rfl ?_
                refine Zr_topi (y := nI 0) rfl ?_
                refine Zr_iconst C (0) dX4_pass_189 rfl ?_
                refine Zr_zastN C qm_12 rfl rfl (by decide) (by decide) (by first | exact Or.inl rfl | exact Or.inr rfl | assumption) (rRa hR (by decide)) dX4_pass_190 (fun S hR => ?_)
                refine Zr_aload_n C dX4_pass_191 rfl ?_
                refine Zr_iconst C (0) dX4_pass_192 rfl ?_
                refine Zr_putE C pf_X4_123 qm0 rfl rfl rfl (znZ (by first | exact Or.inl rfl | exact Or.inr rfl | assumption)) (rRg hR) dX4_pass_193 (fun S hR => ?_)
                refine Zr_aload_n C dX4_pass_196 rfl ?_
                refine Zr_iconst C (0) dX4_pass_197 rfl ?_
                refine Zr_putE C pf_X4_120 qm0 rfl rfl rfl (znI _) (rRg hR) dX4_pass_198 (fun S hR => ?_)
                refine Zr_aload_n C dX4_pass_201 rfl ?_
                refine Zr_getR C gf_X4_26 qm0 rfl rfl rfl (by decide) dX4_pass_202 ?_
                refine Zr_iconst C (0) dX4_pass_205 rfl ?_
                refine Zr_topi (y := nI 0) rfl ?_
                refine Zr_iconst C (0) dX4_pass_206 rfl ?_
                refine Zr_zastN C qm_13 rfl rfl (by decide) (by decide) (by first | exact Or.inl rfl | exact Or.inr rfl | assumption) (rRa hR (by decide)) dX4_pass_207 (fun S hR => ?_)
                refine Zr_aload_n C dX4_pass_208 rfl ?_
                refine Zr_iconst C (0) dX4_pass_209 rfl ?_
                refine Zr_aload_n C dX4_pass_210 rfl ?_
                refine Zr_getE C gf_X4_60 qm0 rfl rfl rfl ((rg hR).trans hB.1) dX4_pass_211 ?_
                refine Zr_iconst C (1) dX4_pass_214 rfl ?_
                refine Zr_isub C dX4_pass_215 ?_
                refine Zr_topi (y := nI (n - 1)) (nI_sub1 (by omega)) ?_
                refine Zr_iconst C (3) dX4_pass_216 rfl ?_
                refine Zr_iconst C (-1) dX4_pass_217 rfl ?_
                refine Zr_iconst C (-1) dX4_pass_218 rfl ?_
                refine Zr_callVRv C cw_X4_92 (k_X4_sends (i := 0) (j := n - 1) hR (by omega) (by omega) (hL _ (by omega))) qm0 rfl rfl rfl (Nat.le_of_ble_eq_true rfl) (Nat.le_of_ble_eq_true rfl) rfl (Nat.le_of_ble_eq_true rfl) dX4_pass_219 ⟨Nat.zero_le _, Nat.zero_le _⟩ (fun S hR => ?_)
                refine Zr_iconst C (1) dX4_pass_222 rfl ?_
                exact Zr_iret C dX4_pass_223 (Nat.zero_le _) (Nat.zero_le _) (by rw [fPass, if_neg (fun h => h.elim h14 (fun h => h.elim (fun h => h h23) (fun h => h.elim h30 (fun h => h h37)))), if_neg (fun h => h rfl), if_neg (by first | exact fun h => absurd h.1 (i32_le h117) | exact fun h => h124 h.2.1 | exact fun h => h133 h.2.2.1 | exact fun h => h147 h.2.2.2)]; exact ⟨rfl, rfl, rfl, hR⟩)
              · refine Zr_aload_n C dX4_pass_120 rfl ?_
                refine Zr_getE C gf_X4_123 qm0 rfl rfl rfl (rg hR) dX4_pass_121 ?_
                refine Zr_if_ne C 174 dX4_pass_124 (by decide) (fun h124 => ?_) (fun h124 => ?_)
                · refine Zr_aload_n C dX4_pass_174 rfl ?_
                  refine Zr_dup C dX4_pass_175 rfl ?_
                  refine Zr_getE C gf_X4_126 qm0 rfl rfl rfl (rg hR) dX4_pass_176 ?_
                  refine Zr_iconst C (1) dX4_pass_179 rfl ?_
                  refine Zr_iadd C dX4_pass_180 ?_
                  refine Zr_putE C pf_X4_126 qm0 rfl rfl rfl (znI _) (rRg hR) dX4_pass_181 (fun S hR => ?_)
                  refine Zr_aload_n C dX4_pass_184 rfl ?_
                  refine Zr_getR C gf_X4_23 qm0 rfl rfl rfl (by decide) dX4_pass_185 ?_
                  refine Zr_iconst C (0) dX4_pass_188 rfl ?_
                  refine Zr_topi (y := nI 0) rfl ?_
                  refine Zr_iconst C (0) dX4_pass_189 rfl ?_
                  refine Zr_zastN C qm_12 rfl rfl (by decide) (by decide) (by first | exact Or.inl rfl | exact Or.inr rfl | assumption) (rRa hR (by decide)) dX4_pass_190 (fun S hR => ?_)
                  refine Zr_aload_n C dX4_pass_191 rfl ?_
                  refine Zr_iconst C (0) dX4_pass_192 rfl ?_
                  refine Zr_putE C pf_X4_123 qm0 rfl rfl rfl (znZ (by first | exact Or.inl rfl | exact Or.inr rfl | assumption)) (rRg hR) dX4_pass_193 (fun S hR => ?_)
                  refine Zr_aload_n C dX4_pass_196 rfl ?_
                  refine Zr_iconst C (0) dX4_pass_197 rfl ?_
                  refine Zr_putE C pf_X4_120 qm0 rfl rfl rfl (znI _) (rRg hR) dX4_pass_198 (fun S hR => ?_)
                  refine Zr_aload_n C dX4_pass_201 rfl ?_
                  refine Zr_getR C gf_X4_26 qm0 rfl rfl rfl (by decide) dX4_pass_202 ?_
                  refine Zr_iconst C (0) dX4_pass_205 rfl ?_
                  refine Zr_topi (y := nI 0) rfl ?_
                  refine Zr_iconst C (0) dX4_pass_206 rfl ?_
                  refine Zr_zastN C qm_13 rfl rfl (by decide) (by decide) (by first | exact Or.inl rfl | exact Or.inr rfl | assumption) (rRa hR (by decide)) dX4_pass_207 (fun S hR => ?_)
                  refine Zr_aload_n C dX4_pass_208 rfl ?_
                  refine Zr_iconst C (0) dX4_pass_209 rfl ?_
                  refine Zr_aload_n C dX4_pass_210 rfl ?_
                  refine Zr_getE C gf_X4_60 qm0 rfl rfl rfl ((rg hR).trans hB.1) dX4_pass_211 ?_
                  refine Zr_iconst C (1) dX4_pass_214 rfl ?_
                  refine Zr_isub C dX4_pass_215 ?_
                  refine Zr_topi (y := nI (n - 1)) (nI_sub1 (by omega)) ?_
                  refine Zr_iconst C (3) dX4_pass_216 rfl ?_
                  refine Zr_iconst C (-1) dX4_pass_217 rfl ?_
                  refine Zr_iconst C (-1) dX4_pass_218 rfl ?_
                  refine Zr_callVRv C cw_X4_92 (k_X4_sends (i := 0) (j := n - 1) hR (by omega) (by omega) (hL _ (by omega))) qm0 rfl rfl rfl (Nat.le_of_ble_eq_true rfl) (Nat.le_of_ble_eq_true rfl) rfl (Nat.le_of_ble_eq_true rfl) dX4_pass_219 ⟨Nat.zero_le _, Nat.zero_le _⟩ (fun S hR => ?_)
                  refine Zr_iconst C (1) dX4_pass_222 rfl ?_
                  exact Zr_iret C dX4_pass_223 (Nat.zero_le _) (Nat.zero_le _) (by rw [fPass, if_neg (fun h => h.elim h14 (fun h => h.elim (fun h => h h23) (fun h => h.elim h30 (fun h => h h37)))), if_neg (fun h => h rfl), if_neg (by first | exact fun h => absurd h.1 (i32_le h117) | exact fun h => h124 h.2.1 | exact fun h => h133 h.2.2.1 | exact fun h => h147 h.2.2.2)]; exact ⟨rfl, rfl, rfl, hR⟩)
                · refine Zr_aload_n C dX4_pass_127 rfl ?_
                  refine Zr_getR C gf_X4_23 qm0 rfl rfl rfl (by decide) dX4_pass_128 ?_
                  refine Zr_iconst C (0) dX4_pass_131 rfl ?_
                  refine Zr_topi (y := nI 0) rfl ?_
                  refine Zr_zaldN C qm_12 rfl rfl (by decide) (by decide) (ra hR (by decide)) dX4_pass_132 ?_
                  refine Zr_if_ne C 174 dX4_pass_133 (by decide) (fun h133 => ?_) (fun h133 => ?_)
                  · refine Zr_aload_n C dX4_pass_174 rfl ?_
                    refine Zr_dup C dX4_pass_175 rfl ?_
                    refine Zr_getE C gf_X4_126 qm0 rfl rfl rfl (rg hR) dX4_pass_176 ?_
                    refine Zr_iconst C (1) dX4_pass_179 rfl ?_
                    refine Zr_iadd C dX4_pass_180 ?_
                    refine Zr_putE C pf_X4_126 qm0 rfl rfl rfl (znI _) (rRg hR) dX4_pass_181 (fun S hR => ?_)
                    refine Zr_aload_n C dX4_pass_184 rfl ?_
                    refine Zr_getR C gf_X4_23 qm0 rfl rfl rfl (by decide) dX4_pass_185 ?_
                    refine Zr_iconst C (0) dX4_pass_188 rfl ?_
                    refine Zr_topi (y := nI 0) rfl ?_
                    refine Zr_iconst C (0) dX4_pass_189 rfl ?_
                    refine Zr_zastN C qm_12 rfl rfl (by decide) (by decide) (by first | exact Or.inl rfl | exact Or.inr rfl | assumption) (rRa hR (by decide)) dX4_pass_190 (fun S hR => ?_)
                    refine Zr_aload_n C dX4_pass_191 rfl ?_
                    refine Zr_iconst C (0) dX4_pass_192 rfl ?_
                    refine Zr_putE C pf_X4_123 qm0 rfl rfl rfl (znZ (by first | exact Or.inl rfl | exact Or.inr rfl | assumption)) (rRg hR) dX4_pass_193 (fun S hR => ?_)
                    refine Zr_aload_n C dX4_pass_196 rfl ?_
                    refine Zr_iconst C (0) dX4_pass_197 rfl ?_
                    refine Zr_putE C pf_X4_120 qm0 rfl rfl rfl (znI _) (rRg hR) dX4_pass_198 (fun S hR => ?_)
                    refine Zr_aload_n C dX4_pass_201 rfl ?_
                    refine Zr_getR C gf_X4_26 qm0 rfl rfl rfl (by decide) dX4_pass_202 ?_
                    refine Zr_iconst C (0) dX4_pass_205 rfl ?_
                    refine Zr_topi (y := nI 0) rfl ?_
                    refine Zr_iconst C (0) dX4_pass_206 rfl ?_
                    refine Zr_zastN C qm_13 rfl rfl (by decide) (by decide) (by first | exact Or.inl rfl | exact Or.inr rfl | assumption) (rRa hR (by decide)) dX4_pass_207 (fun S hR => ?_)
                    refine Zr_aload_n C dX4_pass_208 rfl ?_
                    refine Zr_iconst C (0) dX4_pass_209 rfl ?_
                    refine Zr_aload_n C dX4_pass_210 rfl ?_
                    refine Zr_getE C gf_X4_60 qm0 rfl rfl rfl ((rg hR).trans hB.1) dX4_pass_211 ?_
                    refine Zr_iconst C (1) dX4_pass_214 rfl ?_
                    refine Zr_isub C dX4_pass_215 ?_
                    refine Zr_topi (y := nI (n - 1)) (nI_sub1 (by omega)) ?_
                    refine Zr_iconst C (3) dX4_pass_216 rfl ?_
                    refine Zr_iconst C (-1) dX4_pass_217 rfl ?_
                    refine Zr_iconst C (-1) dX4_pass_218 rfl ?_
                    refine Zr_callVRv C cw_X4_92 (k_X4_sends (i := 0) (j := n - 1) hR (by omega) (by omega) (hL _ (by omega))) qm0 rfl rfl rfl (Nat.le_of_ble_eq_true rfl) (Nat.le_of_ble_eq_true rfl) rfl (Nat.le_of_ble_eq_true rfl) dX4_pass_219 ⟨Nat.zero_le _, Nat.zero_le _⟩ (fun S hR => ?_)
                    refine Zr_iconst C (1) dX4_pass_222 rfl ?_
                    exact Zr_iret C dX4_pass_223 (Nat.zero_le _) (Nat.zero_le _) (by rw [fPass, if_neg (fun h => h.elim h14 (fun h => h.elim (fun h => h h23) (fun h => h.elim h30 (fun h => h h37)))), if_neg (fun h => h rfl), if_neg (by first | exact fun h => absurd h.1 (i32_le h117) | exact fun h => h124 h.2.1 | exact fun h => h133 h.2.2.1 | exact fun h => h147 h.2.2.2)]; exact ⟨rfl, rfl, rfl, hR⟩)
                  · refine Zr_aload_n C dX4_pass_136 rfl ?_
                    refine Zr_getE C gf_X4_120 qm0 rfl rfl rfl (rg hR) dX4_pass_137 ?_
                    refine Zr_aload_n C dX4_pass_140 rfl ?_
                    refine Zr_getR C gf_X4_20 qm0 rfl rfl rfl (by decide) dX4_pass_141 ?_
                    refine Zr_iconst C (0) dX4_pass_144 rfl ?_
                    refine Zr_topi (y := nI 0) rfl ?_
                    refine Zr_ialdN C qm_11 rfl rfl (by decide) (by decide) (ra hR (by decide)) dX4_pass_145 ?_
                    refine Zr_iadd C dX4_pass_146 ?_
                    refine Zr_if_ne C 174 dX4_pass_147 (by decide) (fun h147 => ?_) (fun h147 => ?_)
                    · refine Zr_aload_n C dX4_pass_174 rfl ?_
                      refine Zr_dup C dX4_pass_175 rfl ?_
                      refine Zr_getE C gf_X4_126 qm0 rfl rfl rfl (rg hR) dX4_pass_176 ?_
                      refine Zr_iconst C (1) dX4_pass_179 rfl ?_
                      refine Zr_iadd C dX4_pass_180 ?_
                      refine Zr_putE C pf_X4_126 qm0 rfl rfl rfl (znI _) (rRg hR) dX4_pass_181 (fun S hR => ?_)
                      refine Zr_aload_n C dX4_pass_184 rfl ?_
                      refine Zr_getR C gf_X4_23 qm0 rfl rfl rfl (by decide) dX4_pass_185 ?_
                      refine Zr_iconst C (0) dX4_pass_188 rfl ?_
                      refine Zr_topi (y := nI 0) rfl ?_
                      refine Zr_iconst C (0) dX4_pass_189 rfl ?_
                      refine Zr_zastN C qm_12 rfl rfl (by decide) (by decide) (by first | exact Or.inl rfl | exact Or.inr rfl | assumption) (rRa hR (by decide)) dX4_pass_190 (fun S hR => ?_)
                      refine Zr_aload_n C dX4_pass_191 rfl ?_
                      refine Zr_iconst C (0) dX4_pass_192 rfl ?_
                      refine Zr_putE C pf_X4_123 qm0 rfl rfl rfl (znZ (by first | exact Or.inl rfl | exact Or.inr rfl | assumption)) (rRg hR) dX4_pass_193 (fun S hR => ?_)
                      refine Zr_aload_n C dX4_pass_196 rfl ?_
                      refine Zr_iconst C (0) dX4_pass_197 rfl ?_
                      refine Zr_putE C pf_X4_120 qm0 rfl rfl rfl (znI _) (rRg hR) dX4_pass_198 (fun S hR => ?_)
                      refine Zr_aload_n C dX4_pass_201 rfl ?_
                      refine Zr_getR C gf_X4_26 qm0 rfl rfl rfl (by decide) dX4_pass_202 ?_
                      refine Zr_iconst C (0) dX4_pass_205 rfl ?_
                      refine Zr_topi (y := nI 0) rfl ?_
                      refine Zr_iconst C (0) dX4_pass_206 rfl ?_
                      refine Zr_zastN C qm_13 rfl rfl (by decide) (by decide) (by first | exact Or.inl rfl | exact Or.inr rfl | assumption) (rRa hR (by decide)) dX4_pass_207 (fun S hR => ?_)
                      refine Zr_aload_n C dX4_pass_208 rfl ?_
                      refine Zr_iconst C (0) dX4_pass_209 rfl ?_
                      refine Zr_aload_n C dX4_pass_210 rfl ?_
                      refine Zr_getE C gf_X4_60 qm0 rfl rfl rfl ((rg hR).trans hB.1) dX4_pass_211 ?_
                      refine Zr_iconst C (1) dX4_pass_214 rfl ?_
                      refine Zr_isub C dX4_pass_215 ?_
                      refine Zr_topi (y := nI (n - 1)) (nI_sub1 (by omega)) ?_
                      refine Zr_iconst C (3) dX4_pass_216 rfl ?_
                      refine Zr_iconst C (-1) dX4_pass_217 rfl ?_
                      refine Zr_iconst C (-1) dX4_pass_218 rfl ?_
                      refine Zr_callVRv C cw_X4_92 (k_X4_sends (i := 0) (j := n - 1) hR (by omega) (by omega) (hL _ (by omega))) qm0 rfl rfl rfl (Nat.le_of_ble_eq_true rfl) (Nat.le_of_ble_eq_true rfl) rfl (Nat.le_of_ble_eq_true rfl) dX4_pass_219 ⟨Nat.zero_le _, Nat.zero_le _⟩ (fun S hR => ?_)
                      refine Zr_iconst C (1) dX4_pass_222 rfl ?_
                      exact Zr_iret C dX4_pass_223 (Nat.zero_le _) (Nat.zero_le _) (by rw [fPass, if_neg (fun h => h.elim h14 (fun h => h.elim (fun h => h h23) (fun h => h.elim h30 (fun h => h h37)))), if_neg (fun h => h rfl), if_neg (by first | exact fun h => absurd h.1 (i32_le h117) | exact fun h => h124 h.2.1 | exact fun h => h133 h.2.2.1 | exact fun h => h147 h.2.2.2)]; exact ⟨rfl, rfl, rfl, hR⟩)
                    · refine Zr_aload_n C dX4_pass_150 rfl ?_
                      refine Zr_iconst C (1) dX4_pass_151 rfl ?_
                      refine Zr_putE C pf_X4_117 qm0 rfl rfl rfl (znZ (by first | exact Or.inl rfl | exact Or.inr rfl | assumption)) (rRg hR) dX4_pass_152 (fun S hR => ?_)
                      refine Zr_aload_n C dX4_pass_155 rfl ?_
                      refine Zr_callV C cw_X4_96 (k_X4_quiet hB2 hR) qm0 rfl rfl rfl (Nat.le_of_ble_eq_true rfl) (Nat.le_of_ble_eq_true rfl) rfl (Nat.le_of_ble_eq_true rfl) dX4_pass_156 ⟨Nat.zero_le _, Nat.zero_le _⟩ ?_
                      refine Zr_topi (y := 1) (if_pos hQ) ?_
                      refine Zr_if_ne C 172 dX4_pass_159 (by decide) (fun h159 => ?_) (fun h159 => absurd h159 (by decide))
                      refine Zr_iconst C (2) dX4_pass_172 rfl ?_
                      exact Zr_iret C dX4_pass_173 (Nat.zero_le _) (Nat.zero_le _) (by rw [fPass, if_neg (fun h => h.elim h14 (fun h => h.elim (fun h => h h23) (fun h => h.elim h30 (fun h => h h37)))), if_neg (fun h => h rfl), if_pos ⟨Int32.not_le.mp h117, h124, h133, h147⟩, aJudge, if_pos hQ]; exact ⟨rfl, rfl, rfl, hR⟩)
            · refine Zr_iconst C (-1) dX4_pass_40 rfl ?_
              exact Zr_iret C dX4_pass_41 (Nat.zero_le _) (Nat.zero_le _) (by rw [fPass, if_pos (by first | exact Or.inl h14 | exact Or.inr (Or.inl h23) | exact Or.inr (Or.inr (Or.inl h30)) | exact Or.inr (Or.inr (Or.inr h37)))]; exact ⟨rfl, rfl, rfl, hR⟩)
    · refine Zr_aload_n C dX4_pass_0 rfl ?_
      refine Zr_iload_n C dX4_pass_1 rfl ?_
      refine Zr_callV C cw_X4_64 (k_X4_isOne_t hB hR hi) qm0 rfl rfl rfl (Nat.le_of_ble_eq_true rfl) (Nat.le_of_ble_eq_true rfl) rfl (Nat.le_of_ble_eq_true rfl) dX4_pass_2 ⟨Nat.zero_le _, Nat.zero_le _⟩ ?_
      refine Zr_if_eq C 40 dX4_pass_5 (by decide) (fun h5 => absurd h5 (by decide)) (fun h5 => ?_)
      refine Zr_aload_n C dX4_pass_8 rfl ?_
      refine Zr_getR C gf_X4_26 qm0 rfl rfl rfl (by decide) dX4_pass_9 ?_
      refine Zr_iload_n C dX4_pass_12 rfl ?_
      refine Zr_zaldN C qm_13 rfl rfl (by omega) (by decide) (ra hR (by decide)) dX4_pass_13 ?_
      refine Zr_if_eq C 40 dX4_pass_14 (by decide) (fun h14 => ?_) (fun h14 => ?_)
      · refine Zr_iconst C (-1) dX4_pass_40 rfl ?_
        exact Zr_iret C dX4_pass_41 (Nat.zero_le _) (Nat.zero_le _) (by rw [fPass, if_pos (by first | exact Or.inl h14 | exact Or.inr (Or.inl h23) | exact Or.inr (Or.inr (Or.inl h30)) | exact Or.inr (Or.inr (Or.inr h37)))]; exact ⟨rfl, rfl, rfl, hR⟩)
      · refine Zr_aload_n C dX4_pass_17 rfl ?_
        refine Zr_getR C gf_X4_9 qm0 rfl rfl rfl (by decide) dX4_pass_18 ?_
        refine Zr_iload_n C dX4_pass_21 rfl ?_
        refine Zr_zaldN C qm_8 rfl rfl (by omega) (by decide) (ra hR (by decide)) dX4_pass_22 ?_
        refine Zr_if_ne C 40 dX4_pass_23 (by decide) (fun h23 => ?_) (fun h23 => ?_)
        · refine Zr_iconst C (-1) dX4_pass_40 rfl ?_
          exact Zr_iret C dX4_pass_41 (Nat.zero_le _) (Nat.zero_le _) (by rw [fPass, if_pos (by first | exact Or.inl h14 | exact Or.inr (Or.inl h23) | exact Or.inr (Or.inr (Or.inl h30)) | exact Or.inr (Or.inr (Or.inr h37)))]; exact ⟨rfl, rfl, rfl, hR⟩)
        · refine Zr_aload_n C dX4_pass_26 rfl ?_
          refine Zr_getE C gf_X4_79 qm0 rfl rfl rfl (rg hR) dX4_pass_27 ?_
          refine Zr_if_eq C 40 dX4_pass_30 (by decide) (fun h30 => ?_) (fun h30 => ?_)
          · refine Zr_iconst C (-1) dX4_pass_40 rfl ?_
            exact Zr_iret C dX4_pass_41 (Nat.zero_le _) (Nat.zero_le _) (by rw [fPass, if_pos (by first | exact Or.inl h14 | exact Or.inr (Or.inl h23) | exact Or.inr (Or.inr (Or.inl h30)) | exact Or.inr (Or.inr (Or.inr h37)))]; exact ⟨rfl, rfl, rfl, hR⟩)
          · refine Zr_aload_n C dX4_pass_33 rfl ?_
            refine Zr_getE C gf_X4_117 qm0 rfl rfl rfl (rg hR) dX4_pass_34 ?_
            refine Zr_if_eq C 42 dX4_pass_37 (by decide) (fun h37 => ?_) (fun h37 => ?_)
            · refine Zr_iload_n C dX4_pass_42 rfl ?_
              refine Zr_if_le C 113 dX4_pass_43 (by decide) (fun h43 => ?_) (fun h43 => absurd (by decide) h43)
              refine Zr_aload_n C dX4_pass_113 rfl ?_
              refine Zr_getE C gf_X4_126 qm0 rfl rfl rfl (rg hR) dX4_pass_114 ?_
              refine Zr_if_le C 174 dX4_pass_117 (by decide) (fun h117 => ?_) (fun h117 => ?_)
              · refine Zr_aload_n C dX4_pass_174 rfl ?_
                refine Zr_dup C dX4_pass_175 rfl ?_
                refine Zr_getE C gf_X4_126 qm0 rfl rfl rfl (rg hR) dX4_pass_176 ?_
                refine Zr_iconst C (1) dX4_pass_179 rfl ?_
                refine Zr_iadd C dX4_pass_180 ?_
                refine Zr_putE C pf_X4_126 qm0 rfl rfl rfl (znI _) (rRg hR) dX4_pass_181 (fun S hR => ?_)
                refine Zr_aload_n C dX4_pass_184 rfl ?_
                refine Zr_getR C gf_X4_23 qm0 rfl rfl rfl (by decide) dX4_pass_185 ?_
                refine Zr_iconst C (0) dX4_pass_188 rfl ?_
                refine Zr_topi (y := nI 0) rfl ?_
                refine Zr_iconst C (0) dX4_pass_189 rfl ?_
                refine Zr_zastN C qm_12 rfl rfl (by decide) (by decide) (by first | exact Or.inl rfl | exact Or.inr rfl | assumption) (rRa hR (by decide)) dX4_pass_190 (fun S hR => ?_)
                refine Zr_aload_n C dX4_pass_191 rfl ?_
                refine Zr_iconst C (0) dX4_pass_192 rfl ?_
                refine Zr_putE C pf_X4_123 qm0 rfl rfl rfl (znZ (by first | exact Or.inl rfl | exact Or.inr rfl | assumption)) (rRg hR) dX4_pass_193 (fun S hR => ?_)
                refine Zr_aload_n C dX4_pass_196 rfl ?_
                refine Zr_iconst C (0) dX4_pass_197 rfl ?_
                refine Zr_putE C pf_X4_120 qm0 rfl rfl rfl (znI _) (rRg hR) dX4_pass_198 (fun S hR => ?_)
                refine Zr_aload_n C dX4_pass_201 rfl ?_
                refine Zr_getR C gf_X4_26 qm0 rfl rfl rfl (by decide) dX4_pass_202 ?_
                refine Zr_iconst C (0) dX4_pass_205 rfl ?_
                refine Zr_topi (y := nI 0) rfl ?_
                refine Zr_iconst C (0) dX4_pass_206 rfl ?_
                refine Zr_zastN C qm_13 rfl rfl (by decide) (by decide) (by first | exact Or.inl rfl | exact Or.inr rfl | assumption) (rRa hR (by decide)) dX4_pass_207 (fun S hR => ?_)
                refine Zr_aload_n C dX4_pass_208 rfl ?_
                refine Zr_iconst C (0) dX4_pass_209 rfl ?_
                refine Zr_aload_n C dX4_pass_210 rfl ?_
                refine Zr_getE C gf_X4_60 qm0 rfl rfl rfl ((rg hR).trans hB.1) dX4_pass_211 ?_
                refine Zr_iconst C (1) dX4_pass_214 rfl ?_
                refine Zr_isub C dX4_pass_215 ?_
                refine Zr_topi (y := nI (n - 1)) (nI_sub1 (by omega)) ?_
                refine Zr_iconst C (3) dX4_pass_216 rfl ?_
                refine Zr_iconst C (-1) dX4_pass_217 rfl ?_
                refine Zr_iconst C (-1) dX4_pass_218 rfl ?_
                refine Zr_callVRv C cw_X4_92 (k_X4_sends (i := 0) (j := n - 1) hR (by omega) (by omega) (hL _ (by omega))) qm0 rfl rfl rfl (Nat.le_of_ble_eq_true rfl) (Nat.le_of_ble_eq_true rfl) rfl (Nat.le_of_ble_eq_true rfl) dX4_pass_219 ⟨Nat.zero_le _, Nat.zero_le _⟩ (fun S hR => ?_)
                refine Zr_iconst C (1) dX4_pass_222 rfl ?_
                exact Zr_iret C dX4_pass_223 (Nat.zero_le _) (Nat.zero_le _) (by rw [fPass, if_neg (fun h => h.elim h14 (fun h => h.elim (fun h => h h23) (fun h => h.elim h30 (fun h => h h37)))), if_neg (fun h => h rfl), if_neg (by first | exact fun h => absurd h.1 (i32_le h117) | exact fun h => h124 h.2.1 | exact fun h => h133 h.2.2.1 | exact fun h => h147 h.2.2.2)]; exact ⟨rfl, rfl, rfl, hR⟩)
              · refine Zr_aload_n C dX4_pass_120 rfl ?_
                refine Zr_getE C gf_X4_123 qm0 rfl rfl rfl (rg hR) dX4_pass_121 ?_
                refine Zr_if_ne C 174 dX4_pass_124 (by decide) (fun h124 => ?_) (fun h124 => ?_)
                · refine Zr_aload_n C dX4_pass_174 rfl ?_
                  refine Zr_dup C dX4_pass_175 rfl ?_
                  refine Zr_getE C gf_X4_126 qm0 rfl rfl rfl (rg hR) dX4_pass_176 ?_
                  refine Zr_iconst C (1) dX4_pass_179 rfl ?_
                  refine Zr_iadd C dX4_pass_180 ?_
                  refine Zr_putE C pf_X4_126 qm0 rfl rfl rfl (znI _) (rRg hR) dX4_pass_181 (fun S hR => ?_)
                  refine Zr_aload_n C dX4_pass_184 rfl ?_
                  refine Zr_getR C gf_X4_23 qm0 rfl rfl rfl (by decide) dX4_pass_185 ?_
                  refine Zr_iconst C (0) dX4_pass_188 rfl ?_
                  refine Zr_topi (y := nI 0) rfl ?_
                  refine Zr_iconst C (0) dX4_pass_189 rfl ?_
                  refine Zr_zastN C qm_12 rfl rfl (by decide) (by decide) (by first | exact Or.inl rfl | exact Or.inr rfl | assumption) (rRa hR (by decide)) dX4_pass_190 (fun S hR => ?_)
                  refine Zr_aload_n C dX4_pass_191 rfl ?_
                  refine Zr_iconst C (0) dX4_pass_192 rfl ?_
                  refine Zr_putE C pf_X4_123 qm0 rfl rfl rfl (znZ (by first | exact Or.inl rfl | exact Or.inr rfl | assumption)) (rRg hR) dX4_pass_193 (fun S hR => ?_)
                  refine Zr_aload_n C dX4_pass_196 rfl ?_
                  refine Zr_iconst C (0) dX4_pass_197 rfl ?_
                  refine Zr_putE C pf_X4_120 qm0 rfl rfl rfl (znI _) (rRg hR) dX4_pass_198 (fun S hR => ?_)
                  refine Zr_aload_n C dX4_pass_201 rfl ?_
                  refine Zr_getR C gf_X4_26 qm0 rfl rfl rfl (by decide) dX4_pass_202 ?_
                  refine Zr_iconst C (0) dX4_pass_205 rfl ?_
                  refine Zr_topi (y := nI 0) rfl ?_
                  refine Zr_iconst C (0) dX4_pass_206 rfl ?_
                  refine Zr_zastN C qm_13 rfl rfl (by decide) (by decide) (by first | exact Or.inl rfl | exact Or.inr rfl | assumption) (rRa hR (by decide)) dX4_pass_207 (fun S hR => ?_)
                  refine Zr_aload_n C dX4_pass_208 rfl ?_
                  refine Zr_iconst C (0) dX4_pass_209 rfl ?_
                  refine Zr_aload_n C dX4_pass_210 rfl ?_
                  refine Zr_getE C gf_X4_60 qm0 rfl rfl rfl ((rg hR).trans hB.1) dX4_pass_211 ?_
                  refine Zr_iconst C (1) dX4_pass_214 rfl ?_
                  refine Zr_isub C dX4_pass_215 ?_
                  refine Zr_topi (y := nI (n - 1)) (nI_sub1 (by omega)) ?_
                  refine Zr_iconst C (3) dX4_pass_216 rfl ?_
                  refine Zr_iconst C (-1) dX4_pass_217 rfl ?_
                  refine Zr_iconst C (-1) dX4_pass_218 rfl ?_
                  refine Zr_callVRv C cw_X4_92 (k_X4_sends (i := 0) (j := n - 1) hR (by omega) (by omega) (hL _ (by omega))) qm0 rfl rfl rfl (Nat.le_of_ble_eq_true rfl) (Nat.le_of_ble_eq_true rfl) rfl (Nat.le_of_ble_eq_true rfl) dX4_pass_219 ⟨Nat.zero_le _, Nat.zero_le _⟩ (fun S hR => ?_)
                  refine Zr_iconst C (1) dX4_pass_222 rfl ?_
                  exact Zr_iret C dX4_pass_223 (Nat.zero_le _) (Nat.zero_le _) (by rw [fPass, if_neg (fun h => h.elim h14 (fun h => h.elim (fun h => h h23) (fun h => h.elim h30 (fun h => h h37)))), if_neg (fun h => h rfl), if_neg (by first | exact fun h => absurd h.1 (i32_le h117) | exact fun h => h124 h.2.1 | exact fun h => h133 h.2.2.1 | exact fun h => h147 h.2.2.2)]; exact ⟨rfl, rfl, rfl, hR⟩)
                · refine Zr_aload_n C dX4_pass_127 rfl ?_
                  refine Zr_getR C gf_X4_23 qm0 rfl rfl rfl (by decide) dX4_pass_128 ?_
                  refine Zr_iconst C (0) dX4_pass_131 rfl ?_
                  refine Zr_topi (y := nI 0) rfl ?_
                  refine Zr_zaldN C qm_12 rfl rfl (by decide) (by decide) (ra hR (by decide)) dX4_pass_132 ?_
                  refine Zr_if_ne C 174 dX4_pass_133 (by decide) (fun h133 => ?_) (fun h133 => ?_)
                  · refine Zr_aload_n C dX4_pass_174 rfl ?_
                    refine Zr_dup C dX4_pass_175 rfl ?_
                    refine Zr_getE C gf_X4_126 qm0 rfl rfl rfl (rg hR) dX4_pass_176 ?_
                    refine Zr_iconst C (1) dX4_pass_179 rfl ?_
                    refine Zr_iadd C dX4_pass_180 ?_
                    refine Zr_putE C pf_X4_126 qm0 rfl rfl rfl (znI _) (rRg hR) dX4_pass_181 (fun S hR => ?_)
                    refine Zr_aload_n C dX4_pass_184 rfl ?_
                    refine Zr_getR C gf_X4_23 qm0 rfl rfl rfl (by decide) dX4_pass_185 ?_
                    refine Zr_iconst C (0) dX4_pass_188 rfl ?_
                    refine Zr_topi (y := nI 0) rfl ?_
                    refine Zr_iconst C (0) dX4_pass_189 rfl ?_
                    refine Zr_zastN C qm_12 rfl rfl (by decide) (by decide) (by first | exact Or.inl rfl | exact Or.inr rfl | assumption) (rRa hR (by decide)) dX4_pass_190 (fun S hR => ?_)
                    refine Zr_aload_n C dX4_pass_191 rfl ?_
                    refine Zr_iconst C (0) dX4_pass_192 rfl ?_
                    refine Zr_putE C pf_X4_123 qm0 rfl rfl rfl (znZ (by first | exact Or.inl rfl | exact Or.inr rfl | assumption)) (rRg hR) dX4_pass_193 (fun S hR => ?_)
                    refine Zr_aload_n C dX4_pass_196 rfl ?_
                    refine Zr_iconst C (0) dX4_pass_197 rfl ?_
                    refine Zr_putE C pf_X4_120 qm0 rfl rfl rfl (znI _) (rRg hR) dX4_pass_198 (fun S hR => ?_)
                    refine Zr_aload_n C dX4_pass_201 rfl ?_
                    refine Zr_getR C gf_X4_26 qm0 rfl rfl rfl (by decide) dX4_pass_202 ?_
                    refine Zr_iconst C (0) dX4_pass_205 rfl ?_
                    refine Zr_topi (y := nI 0) rfl ?_
                    refine Zr_iconst C (0) dX4_pass_206 rfl ?_
                    refine Zr_zastN C qm_13 rfl rfl (by decide) (by decide) (by first | exact Or.inl rfl | exact Or.inr rfl | assumption) (rRa hR (by decide)) dX4_pass_207 (fun S hR => ?_)
                    refine Zr_aload_n C dX4_pass_208 rfl ?_
                    refine Zr_iconst C (0) dX4_pass_209 rfl ?_
                    refine Zr_aload_n C dX4_pass_210 rfl ?_
                    refine Zr_getE C gf_X4_60 qm0 rfl rfl rfl ((rg hR).trans hB.1) dX4_pass_211 ?_
                    refine Zr_iconst C (1) dX4_pass_214 rfl ?_
                    refine Zr_isub C dX4_pass_215 ?_
                    refine Zr_topi (y := nI (n - 1)) (nI_sub1 (by omega)) ?_
                    refine Zr_iconst C (3) dX4_pass_216 rfl ?_
                    refine Zr_iconst C (-1) dX4_pass_217 rfl ?_
                    refine Zr_iconst C (-1) dX4_pass_218 rfl ?_
                    refine Zr_callVRv C cw_X4_92 (k_X4_sends (i := 0) (j := n - 1) hR (by omega) (by omega) (hL _ (by omega))) qm0 rfl rfl rfl (Nat.le_of_ble_eq_true rfl) (Nat.le_of_ble_eq_true rfl) rfl (Nat.le_of_ble_eq_true rfl) dX4_pass_219 ⟨Nat.zero_le _, Nat.zero_le _⟩ (fun S hR => ?_)
                    refine Zr_iconst C (1) dX4_pass_222 rfl ?_
                    exact Zr_iret C dX4_pass_223 (Nat.zero_le _) (Nat.zero_le _) (by rw [fPass, if_neg (fun h => h.elim h14 (fun h => h.elim (fun h => h h23) (fun h => h.elim h30 (fun h => h h37)))), if_neg (fun h => h rfl), if_neg (by first | exact fun h => absurd h.1 (i32_le h117) | exact fun h => h124 h.2.1 | exact fun h => h133 h.2.2.1 | exact fun h => h147 h.2.2.2)]; exact ⟨rfl, rfl, rfl, hR⟩)
                  · refine Zr_aload_n C dX4_pass_136 rfl ?_
                    refine Zr_getE C gf_X4_120 qm0 rfl rfl rfl (rg hR) dX4_pass_137 ?_
                    refine Zr_aload_n C dX4_pass_140 rfl ?_
                    refine Zr_getR C gf_X4_20 qm0 rfl rfl rfl (by decide) dX4_pass_141 ?_
                    refine Zr_iconst C (0) dX4_pass_144 rfl ?_
                    refine Zr_topi (y := nI 0) rfl ?_
                    refine Zr_ialdN C qm_11 rfl rfl (by decide) (by decide) (ra hR (by decide)) dX4_pass_145 ?_
                    refine Zr_iadd C dX4_pass_146 ?_
                    refine Zr_if_ne C 174 dX4_pass_147 (by decide) (fun h147 => ?_) (fun h147 => ?_)
                    · refine Zr_aload_n C dX4_pass_174 rfl ?_
                      refine Zr_dup C dX4_pass_175 rfl ?_
                      refine Zr_getE C gf_X4_126 qm0 rfl rfl rfl (rg hR) dX4_pass_176 ?_
                      refine Zr_iconst C (1) dX4_pass_179 rfl ?_
                      refine Zr_iadd C dX4_pass_180 ?_
                      refine Zr_putE C pf_X4_126 qm0 rfl rfl rfl (znI _) (rRg hR) dX4_pass_181 (fun S hR => ?_)
                      refine Zr_aload_n C dX4_pass_184 rfl ?_
                      refine Zr_getR C gf_X4_23 qm0 rfl rfl rfl (by decide) dX4_pass_185 ?_
                      refine Zr_iconst C (0) dX4_pass_188 rfl ?_
                      refine Zr_topi (y := nI 0) rfl ?_
                      refine Zr_iconst C (0) dX4_pass_189 rfl ?_
                      refine Zr_zastN C qm_12 rfl rfl (by decide) (by decide) (by first | exact Or.inl rfl | exact Or.inr rfl | assumption) (rRa hR (by decide)) dX4_pass_190 (fun S hR => ?_)
                      refine Zr_aload_n C dX4_pass_191 rfl ?_
                      refine Zr_iconst C (0) dX4_pass_192 rfl ?_
                      refine Zr_putE C pf_X4_123 qm0 rfl rfl rfl (znZ (by first | exact Or.inl rfl | exact Or.inr rfl | assumption)) (rRg hR) dX4_pass_193 (fun S hR => ?_)
                      refine Zr_aload_n C dX4_pass_196 rfl ?_
                      refine Zr_iconst C (0) dX4_pass_197 rfl ?_
                      refine Zr_putE C pf_X4_120 qm0 rfl rfl rfl (znI _) (rRg hR) dX4_pass_198 (fun S hR => ?_)
                      refine Zr_aload_n C dX4_pass_201 rfl ?_
                      refine Zr_getR C gf_X4_26 qm0 rfl rfl rfl (by decide) dX4_pass_202 ?_
                      refine Zr_iconst C (0) dX4_pass_205 rfl ?_
                      refine Zr_topi (y := nI 0) rfl ?_
                      refine Zr_iconst C (0) dX4_pass_206 rfl ?_
                      refine Zr_zastN C qm_13 rfl rfl (by decide) (by decide) (by first | exact Or.inl rfl | exact Or.inr rfl | assumption) (rRa hR (by decide)) dX4_pass_207 (fun S hR => ?_)
                      refine Zr_aload_n C dX4_pass_208 rfl ?_
                      refine Zr_iconst C (0) dX4_pass_209 rfl ?_
                      refine Zr_aload_n C dX4_pass_210 rfl ?_
                      refine Zr_getE C gf_X4_60 qm0 rfl rfl rfl ((rg hR).trans hB.1) dX4_pass_211 ?_
                      refine Zr_iconst C (1) dX4_pass_214 rfl ?_
                      refine Zr_isub C dX4_pass_215 ?_
                      refine Zr_topi (y := nI (n - 1)) (nI_sub1 (by omega)) ?_
                      refine Zr_iconst C (3) dX4_pass_216 rfl ?_
                      refine Zr_iconst C (-1) dX4_pass_217 rfl ?_
                      refine Zr_iconst C (-1) dX4_pass_218 rfl ?_
                      refine Zr_callVRv C cw_X4_92 (k_X4_sends (i := 0) (j := n - 1) hR (by omega) (by omega) (hL _ (by omega))) qm0 rfl rfl rfl (Nat.le_of_ble_eq_true rfl) (Nat.le_of_ble_eq_true rfl) rfl (Nat.le_of_ble_eq_true rfl) dX4_pass_219 ⟨Nat.zero_le _, Nat.zero_le _⟩ (fun S hR => ?_)
                      refine Zr_iconst C (1) dX4_pass_222 rfl ?_
                      exact Zr_iret C dX4_pass_223 (Nat.zero_le _) (Nat.zero_le _) (by rw [fPass, if_neg (fun h => h.elim h14 (fun h => h.elim (fun h => h h23) (fun h => h.elim h30 (fun h => h h37)))), if_neg (fun h => h rfl), if_neg (by first | exact fun h => absurd h.1 (i32_le h117) | exact fun h => h124 h.2.1 | exact fun h => h133 h.2.2.1 | exact fun h => h147 h.2.2.2)]; exact ⟨rfl, rfl, rfl, hR⟩)
                    · refine Zr_aload_n C dX4_pass_150 rfl ?_
                      refine Zr_iconst C (1) dX4_pass_151 rfl ?_
                      refine Zr_putE C pf_X4_117 qm0 rfl rfl rfl (znZ (by first | exact Or.inl rfl | exact Or.inr rfl | assumption)) (rRg hR) dX4_pass_152 (fun S hR => ?_)
                      refine Zr_aload_n C dX4_pass_155 rfl ?_
                      refine Zr_callV C cw_X4_96 (k_X4_quiet hB2 hR) qm0 rfl rfl rfl (Nat.le_of_ble_eq_true rfl) (Nat.le_of_ble_eq_true rfl) rfl (Nat.le_of_ble_eq_true rfl) dX4_pass_156 ⟨Nat.zero_le _, Nat.zero_le _⟩ ?_
                      refine Zr_topi (y := 0) (if_neg hQ) ?_
                      refine Zr_if_ne C 172 dX4_pass_159 (by decide) (fun h159 => absurd rfl h159) (fun h159 => ?_)
                      refine Zr_aload_n C dX4_pass_162 rfl ?_
                      refine Zr_dup C dX4_pass_163 rfl ?_
                      refine Zr_getE C gf_X4_100 qm0 rfl rfl rfl (rg hR) dX4_pass_164 ?_
                      refine Zr_iconst C (1) dX4_pass_167 rfl ?_
                      refine Zr_iadd C dX4_pass_168 ?_
                      refine Zr_putE C pf_X4_100 qm0 rfl rfl rfl (znI _) (rRg hR) dX4_pass_169 (fun S hR => ?_)
                      refine Zr_iconst C (2) dX4_pass_172 rfl ?_
                      exact Zr_iret C dX4_pass_173 (Nat.zero_le _) (Nat.zero_le _) (by rw [fPass, if_neg (fun h => h.elim h14 (fun h => h.elim (fun h => h h23) (fun h => h.elim h30 (fun h => h h37)))), if_neg (fun h => h rfl), if_pos ⟨Int32.not_le.mp h117, h124, h133, h147⟩, aJudge, if_neg hQ]; exact ⟨rfl, rfl, rfl, hR⟩)
            · refine Zr_iconst C (-1) dX4_pass_40 rfl ?_
              exact Zr_iret C dX4_pass_41 (Nat.zero_le _) (Nat.zero_le _) (by rw [fPass, if_pos (by first | exact Or.inl h14 | exact Or.inr (Or.inl h23) | exact Or.inr (Or.inr (Or.inl h30)) | exact Or.inr (Or.inr (Or.inr h37)))]; exact ⟨rfl, rfl, rfl, hR⟩)
  · have hz2 : i ≠ 0 := by omega
    refine Zr_aload_n C dX4_pass_0 rfl ?_
    refine Zr_iload_n C dX4_pass_1 rfl ?_
    refine Zr_callV C cw_X4_64 (k_X4_isOne_t hB hR hi) qm0 rfl rfl rfl (Nat.le_of_ble_eq_true rfl) (Nat.le_of_ble_eq_true rfl) rfl (Nat.le_of_ble_eq_true rfl) dX4_pass_2 ⟨Nat.zero_le _, Nat.zero_le _⟩ ?_
    refine Zr_if_eq C 40 dX4_pass_5 (by decide) (fun h5 => absurd h5 (by decide)) (fun h5 => ?_)
    refine Zr_aload_n C dX4_pass_8 rfl ?_
    refine Zr_getR C gf_X4_26 qm0 rfl rfl rfl (by decide) dX4_pass_9 ?_
    refine Zr_iload_n C dX4_pass_12 rfl ?_
    refine Zr_zaldN C qm_13 rfl rfl (by omega) (by decide) (ra hR (by decide)) dX4_pass_13 ?_
    refine Zr_if_eq C 40 dX4_pass_14 (by decide) (fun h14 => ?_) (fun h14 => ?_)
    · refine Zr_iconst C (-1) dX4_pass_40 rfl ?_
      exact Zr_iret C dX4_pass_41 (Nat.zero_le _) (Nat.zero_le _) (by rw [fPass, if_pos (by first | exact Or.inl h14 | exact Or.inr (Or.inl h23) | exact Or.inr (Or.inr (Or.inl h30)) | exact Or.inr (Or.inr (Or.inr h37)))]; exact ⟨rfl, rfl, rfl, hR⟩)
    · refine Zr_aload_n C dX4_pass_17 rfl ?_
      refine Zr_getR C gf_X4_9 qm0 rfl rfl rfl (by decide) dX4_pass_18 ?_
      refine Zr_iload_n C dX4_pass_21 rfl ?_
      refine Zr_zaldN C qm_8 rfl rfl (by omega) (by decide) (ra hR (by decide)) dX4_pass_22 ?_
      refine Zr_if_ne C 40 dX4_pass_23 (by decide) (fun h23 => ?_) (fun h23 => ?_)
      · refine Zr_iconst C (-1) dX4_pass_40 rfl ?_
        exact Zr_iret C dX4_pass_41 (Nat.zero_le _) (Nat.zero_le _) (by rw [fPass, if_pos (by first | exact Or.inl h14 | exact Or.inr (Or.inl h23) | exact Or.inr (Or.inr (Or.inl h30)) | exact Or.inr (Or.inr (Or.inr h37)))]; exact ⟨rfl, rfl, rfl, hR⟩)
      · refine Zr_aload_n C dX4_pass_26 rfl ?_
        refine Zr_getE C gf_X4_79 qm0 rfl rfl rfl (rg hR) dX4_pass_27 ?_
        refine Zr_if_eq C 40 dX4_pass_30 (by decide) (fun h30 => ?_) (fun h30 => ?_)
        · refine Zr_iconst C (-1) dX4_pass_40 rfl ?_
          exact Zr_iret C dX4_pass_41 (Nat.zero_le _) (Nat.zero_le _) (by rw [fPass, if_pos (by first | exact Or.inl h14 | exact Or.inr (Or.inl h23) | exact Or.inr (Or.inr (Or.inl h30)) | exact Or.inr (Or.inr (Or.inr h37)))]; exact ⟨rfl, rfl, rfl, hR⟩)
        · refine Zr_aload_n C dX4_pass_33 rfl ?_
          refine Zr_getE C gf_X4_117 qm0 rfl rfl rfl (rg hR) dX4_pass_34 ?_
          refine Zr_if_eq C 42 dX4_pass_37 (by decide) (fun h37 => ?_) (fun h37 => ?_)
          · refine Zr_iload_n C dX4_pass_42 rfl ?_
            refine Zr_if_le C 113 dX4_pass_43 (by decide) (fun h43 => absurd h43 (nI_nle hz (by omega))) (fun h43 => ?_)
            refine Zr_aload_n C dX4_pass_46 rfl ?_
            refine Zr_dup C dX4_pass_47 rfl ?_
            refine Zr_getE C gf_X4_120 qm0 rfl rfl rfl (rg hR) dX4_pass_48 ?_
            refine Zr_aload_n C dX4_pass_51 rfl ?_
            refine Zr_getR C gf_X4_20 qm0 rfl rfl rfl (by decide) dX4_pass_52 ?_
            refine Zr_iload_n C dX4_pass_55 rfl ?_
            refine Zr_ialdN C qm_11 rfl rfl (by omega) (by decide) (ra hR (by decide)) dX4_pass_56 ?_
            refine Zr_iadd C dX4_pass_57 ?_
            refine Zr_putE C pf_X4_120 qm0 rfl rfl rfl (znI _) (rRg hR) dX4_pass_58 (fun S hR => ?_)
            refine Zr_aload_n C dX4_pass_61 rfl ?_
            refine Zr_aload_n C dX4_pass_62 rfl ?_
            refine Zr_getE C gf_X4_123 qm0 rfl rfl rfl (rg hR) dX4_pass_63 ?_
            refine Zr_if_ne C 78 dX4_pass_66 (by decide) (fun h66 => ?_) (fun h66 => ?_)
            · have h66 : ¬ σ.1 0 0 21 = 0 := h66
              refine Zr_iconst C (1) dX4_pass_78 rfl ?_
              refine Zr_goto C 83 dX4_pass_79 (by decide) ?_
              refine Zr_putE C pf_X4_123 qm0 rfl rfl rfl (znZ (by first | exact Or.inl rfl | exact Or.inr rfl | assumption)) (rRg hR) dX4_pass_83 (fun S hR => ?_)
              refine Zr_aload_n C dX4_pass_86 rfl ?_
              refine Zr_getR C gf_X4_23 qm0 rfl rfl rfl (by decide) dX4_pass_87 ?_
              refine Zr_iload_n C dX4_pass_90 rfl ?_
              refine Zr_iconst C (0) dX4_pass_91 rfl ?_
              refine Zr_zastN C qm_12 rfl rfl (by omega) (by decide) (by first | exact Or.inl rfl | exact Or.inr rfl | assumption) (rRa hR (by decide)) dX4_pass_92 (fun S hR => ?_)
              refine Zr_aload_n C dX4_pass_93 rfl ?_
              refine Zr_getR C gf_X4_26 qm0 rfl rfl rfl (by decide) dX4_pass_94 ?_
              refine Zr_iload_n C dX4_pass_97 rfl ?_
              refine Zr_iconst C (0) dX4_pass_98 rfl ?_
              refine Zr_zastN C qm_13 rfl rfl (by omega) (by decide) (by first | exact Or.inl rfl | exact Or.inr rfl | assumption) (rRa hR (by decide)) dX4_pass_99 (fun S hR => ?_)
              refine Zr_aload_n C dX4_pass_100 rfl ?_
              refine Zr_iload_n C dX4_pass_101 rfl ?_
              refine Zr_iload_n C dX4_pass_102 rfl ?_
              refine Zr_iconst C (1) dX4_pass_103 rfl ?_
              refine Zr_isub C dX4_pass_104 ?_
              refine Zr_topi (y := nI (i - 1)) (nI_sub1 hz) ?_
              refine Zr_iconst C (3) dX4_pass_105 rfl ?_
              refine Zr_iconst C (-1) dX4_pass_106 rfl ?_
              refine Zr_iconst C (-1) dX4_pass_107 rfl ?_
              refine Zr_callVRv C cw_X4_92 (k_X4_sends hR (by omega) (by omega) (hL _ (by omega))) qm0 rfl rfl rfl (Nat.le_of_ble_eq_true rfl) (Nat.le_of_ble_eq_true rfl) rfl (Nat.le_of_ble_eq_true rfl) dX4_pass_108 ⟨Nat.zero_le _, Nat.zero_le _⟩ (fun S hR => ?_)
              refine Zr_iconst C (1) dX4_pass_111 rfl ?_
              exact Zr_iret C dX4_pass_112 (Nat.zero_le _) (Nat.zero_le _) (by rw [fPass, if_neg (fun h => h.elim h14 (fun h => h.elim (fun h => h h23) (fun h => h.elim h30 (fun h => h h37)))), if_pos hz2]; refine ⟨rfl, rfl, rfl, ?_⟩; first | (rw [if_pos h66]; exact hR) | (rw [if_neg (fun h => h h66), if_pos h75]; exact hR) | (rw [if_neg (fun h => h h66), if_neg (fun h => h h75)]; exact hR))
            · have h66 : σ.1 0 0 21 = 0 := h66
              refine Zr_aload_n C dX4_pass_69 rfl ?_
              refine Zr_getR C gf_X4_23 qm0 rfl rfl rfl (by decide) dX4_pass_70 ?_
              refine Zr_iload_n C dX4_pass_73 rfl ?_
              refine Zr_zaldN C qm_12 rfl rfl (by omega) (by decide) (ra hR (by decide)) dX4_pass_74 ?_
              refine Zr_if_eq C 82 dX4_pass_75 (by decide) (fun h75 => ?_) (fun h75 => ?_)
              · have h75 : σ.1 1 12 i = 0 := h75
                refine Zr_iconst C (0) dX4_pass_82 rfl ?_
                refine Zr_putE C pf_X4_123 qm0 rfl rfl rfl (znZ (by first | exact Or.inl rfl | exact Or.inr rfl | assumption)) (rRg hR) dX4_pass_83 (fun S hR => ?_)
                refine Zr_aload_n C dX4_pass_86 rfl ?_
                refine Zr_getR C gf_X4_23 qm0 rfl rfl rfl (by decide) dX4_pass_87 ?_
                refine Zr_iload_n C dX4_pass_90 rfl ?_
                refine Zr_iconst C (0) dX4_pass_91 rfl ?_
                refine Zr_zastN C qm_12 rfl rfl (by omega) (by decide) (by first | exact Or.inl rfl | exact Or.inr rfl | assumption) (rRa hR (by decide)) dX4_pass_92 (fun S hR => ?_)
                refine Zr_aload_n C dX4_pass_93 rfl ?_
                refine Zr_getR C gf_X4_26 qm0 rfl rfl rfl (by decide) dX4_pass_94 ?_
                refine Zr_iload_n C dX4_pass_97 rfl ?_
                refine Zr_iconst C (0) dX4_pass_98 rfl ?_
                refine Zr_zastN C qm_13 rfl rfl (by omega) (by decide) (by first | exact Or.inl rfl | exact Or.inr rfl | assumption) (rRa hR (by decide)) dX4_pass_99 (fun S hR => ?_)
                refine Zr_aload_n C dX4_pass_100 rfl ?_
                refine Zr_iload_n C dX4_pass_101 rfl ?_
                refine Zr_iload_n C dX4_pass_102 rfl ?_
                refine Zr_iconst C (1) dX4_pass_103 rfl ?_
                refine Zr_isub C dX4_pass_104 ?_
                refine Zr_topi (y := nI (i - 1)) (nI_sub1 hz) ?_
                refine Zr_iconst C (3) dX4_pass_105 rfl ?_
                refine Zr_iconst C (-1) dX4_pass_106 rfl ?_
                refine Zr_iconst C (-1) dX4_pass_107 rfl ?_
                refine Zr_callVRv C cw_X4_92 (k_X4_sends hR (by omega) (by omega) (hL _ (by omega))) qm0 rfl rfl rfl (Nat.le_of_ble_eq_true rfl) (Nat.le_of_ble_eq_true rfl) rfl (Nat.le_of_ble_eq_true rfl) dX4_pass_108 ⟨Nat.zero_le _, Nat.zero_le _⟩ (fun S hR => ?_)
                refine Zr_iconst C (1) dX4_pass_111 rfl ?_
                exact Zr_iret C dX4_pass_112 (Nat.zero_le _) (Nat.zero_le _) (by rw [fPass, if_neg (fun h => h.elim h14 (fun h => h.elim (fun h => h h23) (fun h => h.elim h30 (fun h => h h37)))), if_pos hz2]; refine ⟨rfl, rfl, rfl, ?_⟩; first | (rw [if_pos h66]; exact hR) | (rw [if_neg (fun h => h h66), if_pos h75]; exact hR) | (rw [if_neg (fun h => h h66), if_neg (fun h => h h75)]; exact hR))
              · have h75 : ¬ σ.1 1 12 i = 0 := h75
                refine Zr_iconst C (1) dX4_pass_78 rfl ?_
                refine Zr_goto C 83 dX4_pass_79 (by decide) ?_
                refine Zr_putE C pf_X4_123 qm0 rfl rfl rfl (znZ (by first | exact Or.inl rfl | exact Or.inr rfl | assumption)) (rRg hR) dX4_pass_83 (fun S hR => ?_)
                refine Zr_aload_n C dX4_pass_86 rfl ?_
                refine Zr_getR C gf_X4_23 qm0 rfl rfl rfl (by decide) dX4_pass_87 ?_
                refine Zr_iload_n C dX4_pass_90 rfl ?_
                refine Zr_iconst C (0) dX4_pass_91 rfl ?_
                refine Zr_zastN C qm_12 rfl rfl (by omega) (by decide) (by first | exact Or.inl rfl | exact Or.inr rfl | assumption) (rRa hR (by decide)) dX4_pass_92 (fun S hR => ?_)
                refine Zr_aload_n C dX4_pass_93 rfl ?_
                refine Zr_getR C gf_X4_26 qm0 rfl rfl rfl (by decide) dX4_pass_94 ?_
                refine Zr_iload_n C dX4_pass_97 rfl ?_
                refine Zr_iconst C (0) dX4_pass_98 rfl ?_
                refine Zr_zastN C qm_13 rfl rfl (by omega) (by decide) (by first | exact Or.inl rfl | exact Or.inr rfl | assumption) (rRa hR (by decide)) dX4_pass_99 (fun S hR => ?_)
                refine Zr_aload_n C dX4_pass_100 rfl ?_
                refine Zr_iload_n C dX4_pass_101 rfl ?_
                refine Zr_iload_n C dX4_pass_102 rfl ?_
                refine Zr_iconst C (1) dX4_pass_103 rfl ?_
                refine Zr_isub C dX4_pass_104 ?_
                refine Zr_topi (y := nI (i - 1)) (nI_sub1 hz) ?_
                refine Zr_iconst C (3) dX4_pass_105 rfl ?_
                refine Zr_iconst C (-1) dX4_pass_106 rfl ?_
                refine Zr_iconst C (-1) dX4_pass_107 rfl ?_
                refine Zr_callVRv C cw_X4_92 (k_X4_sends hR (by omega) (by omega) (hL _ (by omega))) qm0 rfl rfl rfl (Nat.le_of_ble_eq_true rfl) (Nat.le_of_ble_eq_true rfl) rfl (Nat.le_of_ble_eq_true rfl) dX4_pass_108 ⟨Nat.zero_le _, Nat.zero_le _⟩ (fun S hR => ?_)
                refine Zr_iconst C (1) dX4_pass_111 rfl ?_
                exact Zr_iret C dX4_pass_112 (Nat.zero_le _) (Nat.zero_le _) (by rw [fPass, if_neg (fun h => h.elim h14 (fun h => h.elim (fun h => h h23) (fun h => h.elim h30 (fun h => h h37)))), if_pos hz2]; refine ⟨rfl, rfl, rfl, ?_⟩; first | (rw [if_pos h66]; exact hR) | (rw [if_neg (fun h => h h66), if_pos h75]; exact hR) | (rw [if_neg (fun h => h h66), if_neg (fun h => h h75)]; exact hR))
          · refine Zr_iconst C (-1) dX4_pass_40 rfl ?_
            exact Zr_iret C dX4_pass_41 (Nat.zero_le _) (Nat.zero_le _) (by rw [fPass, if_pos (by first | exact Or.inl h14 | exact Or.inr (Or.inl h23) | exact Or.inr (Or.inr (Or.inl h30)) | exact Or.inr (Or.inr (Or.inr h37)))]; exact ⟨rfl, rfl, rfl, hR⟩)
set_option maxHeartbeats 4000000 in
set_option maxRecDepth 100000 in
theorem k_X4_pass_f {l : Launch} {D : va_G} {K : zKs} {ad : zAd} {S : zSt} {σ : aS} {n : Nat} {x : Int32} (hB : aB n σ) (hR : rRel σ S) (hx : aBad n x) : zMet l yX4_pass cX4_pass 2 (some .int) { frames := 2, cells := 0, slots := 0, locals := 48 } D K rIL (rSh K) ad S [.ref (ad (0, 0)), .int x] (zEq (some (.int (-1))) (rSh K) ad (S)) := by
  refine zEnter (own := RX4) (lv0 := [some (.ref (ad (0, 0))), some (.int x)]) (by decide) rfl (by simp [Value.category]) (Nat.le_of_ble_eq_true rfl) rfl ?_
  intro p e s m below meth c A C _ hnm
  refine Zr_aload_n C dX4_pass_0 rfl ?_
  refine Zr_iload_n C dX4_pass_1 rfl ?_
  refine Zr_callV C cw_X4_64 (k_X4_isOne_f hB hR hx) qm0 rfl rfl rfl (Nat.le_of_ble_eq_true rfl) (Nat.le_of_ble_eq_true rfl) rfl (Nat.le_of_ble_eq_true rfl) dX4_pass_2 ⟨Nat.zero_le _, Nat.zero_le _⟩ ?_
  refine Zr_if_eq C 40 dX4_pass_5 (by decide) (fun h5 => ?_) (fun h5 => absurd rfl h5)
  refine Zr_iconst C (-1) dX4_pass_40 rfl ?_
  exact Zr_iret C dX4_pass_41 (Nat.zero_le _) (Nat.zero_le _) ⟨rfl, rfl, rfl, rfl⟩
set_option maxHeartbeats 4000000 in
set_option maxRecDepth 100000 in
theorem k_X4_hangs_t {l : Launch} {D : va_G} {K : zKs} {ad : zAd} {S : zSt} {σ : aS} {n i j : Nat} (hB : aB n σ) (hR : rRel σ S) (hi : i < n) (hj : j < n) (h : aHangs σ i j) : zMet l yX4_hangs cX4_hangs 3 (some .boolean) { frames := 1, cells := 0, slots := 0, locals := 24 } D K rIL (rSh K) ad S [.ref (ad (0, 0)), .int (nI i), .int (nI j)] (zEq (some (.int 1)) (rSh K) ad (S)) := by
  refine zEnter (own := RX4) (lv0 := [some (.ref (ad (0, 0))), some (.int (nI i)), some (.int (nI j))]) (by decide) rfl (by simp [Value.category]) (Nat.le_of_ble_eq_true rfl) rfl ?_
  intro p e s m below meth c A C _ hnm
  have hn := hB.2.2.1
  refine Zr_aload_n C dX4_hangs_0 rfl ?_
  refine Zr_getR C gf_X4_35 qm0 rfl rfl rfl (by decide) dX4_hangs_1 ?_
  refine Zr_iload_n C dX4_hangs_4 rfl ?_
  refine Zr_iload_n C dX4_hangs_5 rfl ?_
  refine Zr_callS C cw_X4_68 (k_X4_row (i := i) (j := j)) rfl (Nat.le_of_ble_eq_true rfl) (Nat.le_of_ble_eq_true rfl) rfl (Nat.le_of_ble_eq_true rfl) dX4_hangs_6 ⟨Nat.zero_le _, Nat.zero_le _⟩ ?_
  refine Zr_zaldN C qm_16 rfl rfl (by omega) (by decide) (ra hR (by decide)) dX4_hangs_9 ?_
  refine Zr_if_eq C 30 dX4_hangs_10 (by decide) (fun h10 => absurd h10 h.1) (fun h10 => ?_)
  refine Zr_aload_n C dX4_hangs_13 rfl ?_
  refine Zr_iload_n C dX4_hangs_14 rfl ?_
  refine Zr_iload_n C dX4_hangs_15 rfl ?_
  refine Zr_callS C cw_X4_68 (k_X4_row (i := j) (j := i)) rfl (Nat.le_of_ble_eq_true rfl) (Nat.le_of_ble_eq_true rfl) rfl (Nat.le_of_ble_eq_true rfl) dX4_hangs_16 ⟨Nat.zero_le _, Nat.zero_le _⟩ ?_
  refine Zr_iconst C (5) dX4_hangs_19 rfl ?_
  refine Zr_callV C cw_X4_86 (k_X4_counted hR (r10 hj hi hn)) qm0 rfl rfl rfl (Nat.le_of_ble_eq_true rfl) (Nat.le_of_ble_eq_true rfl) rfl (Nat.le_of_ble_eq_true rfl) dX4_hangs_20 ⟨Nat.zero_le _, Nat.zero_le _⟩ ?_
  refine Zr_if_ne C 30 dX4_hangs_23 (by decide) (fun h23 => absurd (by rw [h.2]; rfl) h23) (fun h23 => ?_)
  refine Zr_iconst C (1) dX4_hangs_26 rfl ?_
  refine Zr_goto C 31 dX4_hangs_27 (by decide) ?_
  exact Zr_zret C dX4_hangs_31 (Nat.zero_le _) (Nat.zero_le _) (by first | exact Or.inl rfl | exact Or.inr rfl | assumption) ⟨rfl, rfl, rfl, rfl⟩
set_option maxHeartbeats 4000000 in
set_option maxRecDepth 100000 in
theorem k_X4_hangs_f {l : Launch} {D : va_G} {K : zKs} {ad : zAd} {S : zSt} {σ : aS} {n i j : Nat} (hB : aB n σ) (hR : rRel σ S) (hi : i < n) (hj : j < n) (h : ¬ aHangs σ i j) : zMet l yX4_hangs cX4_hangs 3 (some .boolean) { frames := 1, cells := 0, slots := 0, locals := 24 } D K rIL (rSh K) ad S [.ref (ad (0, 0)), .int (nI i), .int (nI j)] (zEq (some (.int 0)) (rSh K) ad (S)) := by
  refine zEnter (own := RX4) (lv0 := [some (.ref (ad (0, 0))), some (.int (nI i)), some (.int (nI j))]) (by decide) rfl (by simp [Value.category]) (Nat.le_of_ble_eq_true rfl) rfl ?_
  intro p e s m below meth c A C _ hnm
  have hn := hB.2.2.1
  have hc : aOf 5 (σ.2.1 (10 * j + i)) ≤ 640 := Nat.le_trans aOf_le (rlen hR (by omega))
  refine Zr_aload_n C dX4_hangs_0 rfl ?_
  refine Zr_getR C gf_X4_35 qm0 rfl rfl rfl (by decide) dX4_hangs_1 ?_
  refine Zr_iload_n C dX4_hangs_4 rfl ?_
  refine Zr_iload_n C dX4_hangs_5 rfl ?_
  refine Zr_callS C cw_X4_68 (k_X4_row (i := i) (j := j)) rfl (Nat.le_of_ble_eq_true rfl) (Nat.le_of_ble_eq_true rfl) rfl (Nat.le_of_ble_eq_true rfl) dX4_hangs_6 ⟨Nat.zero_le _, Nat.zero_le _⟩ ?_
  refine Zr_zaldN C qm_16 rfl rfl (by omega) (by decide) (ra hR (by decide)) dX4_hangs_9 ?_
  refine Zr_if_eq C 30 dX4_hangs_10 (by decide) (fun h10 => ?_) (fun h10 => ?_)
  · refine Zr_iconst C (0) dX4_hangs_30 rfl ?_
    exact Zr_zret C dX4_hangs_31 (Nat.zero_le _) (Nat.zero_le _) (by first | exact Or.inl rfl | exact Or.inr rfl | assumption) ⟨rfl, rfl, rfl, rfl⟩
  · refine Zr_aload_n C dX4_hangs_13 rfl ?_
    refine Zr_iload_n C dX4_hangs_14 rfl ?_
    refine Zr_iload_n C dX4_hangs_15 rfl ?_
    refine Zr_callS C cw_X4_68 (k_X4_row (i := j) (j := i)) rfl (Nat.le_of_ble_eq_true rfl) (Nat.le_of_ble_eq_true rfl) rfl (Nat.le_of_ble_eq_true rfl) dX4_hangs_16 ⟨Nat.zero_le _, Nat.zero_le _⟩ ?_
    refine Zr_iconst C (5) dX4_hangs_19 rfl ?_
    refine Zr_callV C cw_X4_86 (k_X4_counted hR (r10 hj hi hn)) qm0 rfl rfl rfl (Nat.le_of_ble_eq_true rfl) (Nat.le_of_ble_eq_true rfl) rfl (Nat.le_of_ble_eq_true rfl) dX4_hangs_20 ⟨Nat.zero_le _, Nat.zero_le _⟩ ?_
    refine Zr_if_ne C 30 dX4_hangs_23 (by decide) (fun h23 => ?_) (fun h23 => absurd ⟨h10, (nI_eq (by omega) (by decide)).mp h23⟩ h)
    refine Zr_iconst C (0) dX4_hangs_30 rfl ?_
    exact Zr_zret C dX4_hangs_31 (Nat.zero_le _) (Nat.zero_le _) (by first | exact Or.inl rfl | exact Or.inr rfl | assumption) ⟨rfl, rfl, rfl, rfl⟩
set_option maxHeartbeats 4000000 in
set_option maxRecDepth 100000 in
theorem k_X4_work {l : Launch} {D : va_G} {K : zKs} {ad : zAd} {S : zSt} {σ : aS} {n i j : Nat} (hB : aB n σ) (hR : rRel σ S) (hi : i < n) (hj : j < n) (hl : (σ.2.1 (10 * j + i)).length < 640) : zMet l yX4_work cX4_work 3 none { frames := 2, cells := 0, slots := 0, locals := 48 } D K rIL (rSh K) ad S [.ref (ad (0, 0)), .int (nI i), .int (nI j)] (zR none (rSh K) ad (rRel (aWork σ i j))) := by
  refine zEnter (own := RX4) (lv0 := [some (.ref (ad (0, 0))), some (.int (nI i)), some (.int (nI j))]) (by decide) rfl (by simp [Value.category]) (Nat.le_of_ble_eq_true rfl) rfl ?_
  intro p e s m below meth c A C _ hnm
  have hn := hB.2.2.1
  have hB2 : aB n (aN (aN (aN σ 1 8 j 1) 1 12 j 1) 1 11 j (σ.1 1 11 j - 1)) := ((hB.a (fun _ => Or.inr rfl)).a (fun _ => Or.inr rfl)).a (fun h => by omega)
  by_cases ht : aTree (aN (aN (aN σ 1 8 j 1) 1 12 j 1) 1 11 j (σ.1 1 11 j - 1)) j = true
  · have e : aWork σ i j = aPush (aN (aN (aN σ 1 8 j 1) 1 12 j 1) 1 11 j (σ.1 1 11 j - 1)) (10 * j + i) (2, -1, -1) := if_pos ht
    refine Zr_aload_n C dX4_work_0 rfl ?_
    refine Zr_getR C gf_X4_9 qm0 rfl rfl rfl (by decide) dX4_work_1 ?_
    refine Zr_iload_n C dX4_work_4 rfl ?_
    refine Zr_iconst C (1) dX4_work_5 rfl ?_
    refine Zr_zastN C qm_8 rfl rfl (by omega) (by decide) (by first | exact Or.inl rfl | exact Or.inr rfl | assumption) (rRa hR (by decide)) dX4_work_6 (fun S hR => ?_)
    refine Zr_aload_n C dX4_work_7 rfl ?_
    refine Zr_getR C gf_X4_23 qm0 rfl rfl rfl (by decide) dX4_work_8 ?_
    refine Zr_iload_n C dX4_work_11 rfl ?_
    refine Zr_iconst C (1) dX4_work_12 rfl ?_
    refine Zr_zastN C qm_12 rfl rfl (by omega) (by decide) (by first | exact Or.inl rfl | exact Or.inr rfl | assumption) (rRa hR (by decide)) dX4_work_13 (fun S hR => ?_)
    refine Zr_aload_n C dX4_work_14 rfl ?_
    refine Zr_getR C gf_X4_20 qm0 rfl rfl rfl (by decide) dX4_work_15 ?_
    refine Zr_iload_n C dX4_work_18 rfl ?_
    refine Zr_dup2 C dX4_work_19 rfl rfl ?_
    refine Zr_ialdN C qm_11 rfl rfl (by omega) (by decide) (ra hR (by decide)) dX4_work_20 ?_
    refine Zr_iconst C (1) dX4_work_21 rfl ?_
    refine Zr_isub C dX4_work_22 ?_
    refine Zr_iastN C qm_11 rfl rfl (by omega) (by decide) (rRa hR (by decide)) dX4_work_23 (fun S hR => ?_)
    refine Zr_aload_n C dX4_work_24 rfl ?_
    refine Zr_iload_n C dX4_work_25 rfl ?_
    refine Zr_callV C cw_X4_89 (k_X4_isInTree hB2 hR hj) qm0 rfl rfl rfl (Nat.le_of_ble_eq_true rfl) (Nat.le_of_ble_eq_true rfl) rfl (Nat.le_of_ble_eq_true rfl) dX4_work_26 ⟨Nat.zero_le _, Nat.zero_le _⟩ ?_
    refine Zr_topi (y := 1) (if_pos ht) ?_
    refine Zr_if_eq C 44 dX4_work_29 (by decide) (fun h29 => absurd h29 (by decide)) (fun h29 => ?_)
    refine Zr_aload_n C dX4_work_32 rfl ?_
    refine Zr_iload_n C dX4_work_33 rfl ?_
    refine Zr_iload_n C dX4_work_34 rfl ?_
    refine Zr_iconst C (2) dX4_work_35 rfl ?_
    refine Zr_iconst C (-1) dX4_work_36 rfl ?_
    refine Zr_iconst C (-1) dX4_work_37 rfl ?_
    refine Zr_callVRv C cw_X4_92 (k_X4_sends hR (by omega) (by omega) hl) qm0 rfl rfl rfl (Nat.le_of_ble_eq_true rfl) (Nat.le_of_ble_eq_true rfl) rfl (Nat.le_of_ble_eq_true rfl) dX4_work_38 ⟨Nat.zero_le _, Nat.zero_le _⟩ (fun S hR => ?_)
    refine Zr_goto C 51 dX4_work_41 (by decide) ?_
    exact Zr_vret C dX4_work_51 (Nat.zero_le _) (Nat.zero_le _) ⟨rfl, rfl, rfl, by rw [e]; exact hR⟩
  · have e : aWork σ i j = aN (aN (aN (aN σ 1 8 j 1) 1 12 j 1) 1 11 j (σ.1 1 11 j - 1)) 1 9 j (nI i) := if_neg ht
    refine Zr_aload_n C dX4_work_0 rfl ?_
    refine Zr_getR C gf_X4_9 qm0 rfl rfl rfl (by decide) dX4_work_1 ?_
    refine Zr_iload_n C dX4_work_4 rfl ?_
    refine Zr_iconst C (1) dX4_work_5 rfl ?_
    refine Zr_zastN C qm_8 rfl rfl (by omega) (by decide) (by first | exact Or.inl rfl | exact Or.inr rfl | assumption) (rRa hR (by decide)) dX4_work_6 (fun S hR => ?_)
    refine Zr_aload_n C dX4_work_7 rfl ?_
    refine Zr_getR C gf_X4_23 qm0 rfl rfl rfl (by decide) dX4_work_8 ?_
    refine Zr_iload_n C dX4_work_11 rfl ?_
    refine Zr_iconst C (1) dX4_work_12 rfl ?_
    refine Zr_zastN C qm_12 rfl rfl (by omega) (by decide) (by first | exact Or.inl rfl | exact Or.inr rfl | assumption) (rRa hR (by decide)) dX4_work_13 (fun S hR => ?_)
    refine Zr_aload_n C dX4_work_14 rfl ?_
    refine Zr_getR C gf_X4_20 qm0 rfl rfl rfl (by decide) dX4_work_15 ?_
    refine Zr_iload_n C dX4_work_18 rfl ?_
    refine Zr_dup2 C dX4_work_19 rfl rfl ?_
    refine Zr_ialdN C qm_11 rfl rfl (by omega) (by decide) (ra hR (by decide)) dX4_work_20 ?_
    refine Zr_iconst C (1) dX4_work_21 rfl ?_
    refine Zr_isub C dX4_work_22 ?_
    refine Zr_iastN C qm_11 rfl rfl (by omega) (by decide) (rRa hR (by decide)) dX4_work_23 (fun S hR => ?_)
    refine Zr_aload_n C dX4_work_24 rfl ?_
    refine Zr_iload_n C dX4_work_25 rfl ?_
    refine Zr_callV C cw_X4_89 (k_X4_isInTree hB2 hR hj) qm0 rfl rfl rfl (Nat.le_of_ble_eq_true rfl) (Nat.le_of_ble_eq_true rfl) rfl (Nat.le_of_ble_eq_true rfl) dX4_work_26 ⟨Nat.zero_le _, Nat.zero_le _⟩ ?_
    refine Zr_topi (y := 0) (if_neg ht) ?_
    refine Zr_if_eq C 44 dX4_work_29 (by decide) (fun h29 => ?_) (fun h29 => absurd rfl h29)
    refine Zr_aload_n C dX4_work_44 rfl ?_
    refine Zr_getR C gf_X4_13 qm0 rfl rfl rfl (by decide) dX4_work_45 ?_
    refine Zr_iload_n C dX4_work_48 rfl ?_
    refine Zr_iload_n C dX4_work_49 rfl ?_
    refine Zr_iastN C qm_9 rfl rfl (by omega) (by decide) (rRa hR (by decide)) dX4_work_50 (fun S hR => ?_)
    exact Zr_vret C dX4_work_51 (Nat.zero_le _) (Nat.zero_le _) ⟨rfl, rfl, rfl, by rw [e]; exact hR⟩
set_option maxHeartbeats 4000000 in
set_option maxRecDepth 100000 in
theorem k_X4_waits {l : Launch} {D : va_G} {K : zKs} {ad : zAd} {S : zSt} {σ : aS} {n i j : Nat} (hB : aB n σ) (hR : rRel σ S) (hi : i < n) (hj : j < n) : zMet l yX4_waits cX4_waits 3 (some .boolean) { frames := 1, cells := 0, slots := 0, locals := 21 } D K rIL (rSh K) ad S [.ref (ad (0, 0)), .int (nI i), .int (nI j)] (zEq (some (.int (σ.1 1 16 (10 * i + j)))) (rSh K) ad (S)) := by
  refine zEnter (own := RX4) (lv0 := [some (.ref (ad (0, 0))), some (.int (nI i)), some (.int (nI j))]) (by decide) rfl (by simp [Value.category]) (Nat.le_of_ble_eq_true rfl) rfl ?_
  intro p e s m below meth c A C _ hnm
  have hn := hB.2.2.1
  have hb := hB.2.2.2.2 16 (10 * i + j) (by decide)
  refine Zr_aload_n C dX4_waits_0 rfl ?_
  refine Zr_iload_n C dX4_waits_1 rfl ?_
  refine Zr_callV C cw_X4_64 (k_X4_isOne_t hB hR hi) qm0 rfl rfl rfl (Nat.le_of_ble_eq_true rfl) (Nat.le_of_ble_eq_true rfl) rfl (Nat.le_of_ble_eq_true rfl) dX4_waits_2 ⟨Nat.zero_le _, Nat.zero_le _⟩ ?_
  refine Zr_if_eq C 33 dX4_waits_5 (by decide) (fun h5 => absurd h5 (by decide)) (fun h5 => ?_)
  refine Zr_aload_n C dX4_waits_8 rfl ?_
  refine Zr_iload_n C dX4_waits_9 rfl ?_
  refine Zr_callV C cw_X4_64 (k_X4_isOne_t hB hR hj) qm0 rfl rfl rfl (Nat.le_of_ble_eq_true rfl) (Nat.le_of_ble_eq_true rfl) rfl (Nat.le_of_ble_eq_true rfl) dX4_waits_10 ⟨Nat.zero_le _, Nat.zero_le _⟩ ?_
  refine Zr_if_eq C 33 dX4_waits_13 (by decide) (fun h13 => absurd h13 (by decide)) (fun h13 => ?_)
  refine Zr_aload_n C dX4_waits_16 rfl ?_
  refine Zr_getR C gf_X4_35 qm0 rfl rfl rfl (by decide) dX4_waits_17 ?_
  refine Zr_iload_n C dX4_waits_20 rfl ?_
  refine Zr_iload_n C dX4_waits_21 rfl ?_
  refine Zr_callS C cw_X4_68 (k_X4_row (i := i) (j := j)) rfl (Nat.le_of_ble_eq_true rfl) (Nat.le_of_ble_eq_true rfl) rfl (Nat.le_of_ble_eq_true rfl) dX4_waits_22 ⟨Nat.zero_le _, Nat.zero_le _⟩ ?_
  refine Zr_zaldN C qm_16 rfl rfl (by omega) (by decide) (ra hR (by decide)) dX4_waits_25 ?_
  refine Zr_if_eq C 33 dX4_waits_26 (by decide) (fun h26 => ?_) (fun h26 => ?_)
  · refine Zr_iconst C (0) dX4_waits_33 rfl ?_
    exact Zr_zret C dX4_waits_34 (Nat.zero_le _) (Nat.zero_le _) (by first | exact Or.inl rfl | exact Or.inr rfl | assumption) ⟨by first | rw [h26] | rw [hb.resolve_left h26], rfl, rfl, rfl⟩
  · refine Zr_iconst C (1) dX4_waits_29 rfl ?_
    refine Zr_goto C 34 dX4_waits_30 (by decide) ?_
    exact Zr_zret C dX4_waits_34 (Nat.zero_le _) (Nat.zero_le _) (by first | exact Or.inl rfl | exact Or.inr rfl | assumption) ⟨by first | rw [h26] | rw [hb.resolve_left h26], rfl, rfl, rfl⟩
set_option maxHeartbeats 4000000 in
set_option maxRecDepth 100000 in
theorem k_X4_waits_f {l : Launch} {D : va_G} {K : zKs} {ad : zAd} {S : zSt} {σ : aS} {n : Nat} {x y : Int32} (hB : aB n σ) (hR : rRel σ S) (hx : aBad n x ∨ aBad n y) : zMet l yX4_waits cX4_waits 3 (some .boolean) { frames := 1, cells := 0, slots := 0, locals := 21 } D K rIL (rSh K) ad S [.ref (ad (0, 0)), .int x, .int y] (zEq (some (.int 0)) (rSh K) ad (S)) := by
  refine zEnter (own := RX4) (lv0 := [some (.ref (ad (0, 0))), some (.int x), some (.int y)]) (by decide) rfl (by simp [Value.category]) (Nat.le_of_ble_eq_true rfl) rfl ?_
  intro p e s m below meth c A C _ hnm
  have hn := hB.2.2.1
  rcases aIx n hn x with h | ⟨i, hi, rfl⟩
  · refine Zr_aload_n C dX4_waits_0 rfl ?_
    refine Zr_iload_n C dX4_waits_1 rfl ?_
    refine Zr_callV C cw_X4_64 (k_X4_isOne_f hB hR h) qm0 rfl rfl rfl (Nat.le_of_ble_eq_true rfl) (Nat.le_of_ble_eq_true rfl) rfl (Nat.le_of_ble_eq_true rfl) dX4_waits_2 ⟨Nat.zero_le _, Nat.zero_le _⟩ ?_
    refine Zr_if_eq C 33 dX4_waits_5 (by decide) (fun h5 => ?_) (fun h5 => absurd rfl h5)
    refine Zr_iconst C (0) dX4_waits_33 rfl ?_
    exact Zr_zret C dX4_waits_34 (Nat.zero_le _) (Nat.zero_le _) (by first | exact Or.inl rfl | exact Or.inr rfl | assumption) ⟨rfl, rfl, rfl, rfl⟩
  · refine Zr_aload_n C dX4_waits_0 rfl ?_
    refine Zr_iload_n C dX4_waits_1 rfl ?_
    refine Zr_callV C cw_X4_64 (k_X4_isOne_t hB hR hi) qm0 rfl rfl rfl (Nat.le_of_ble_eq_true rfl) (Nat.le_of_ble_eq_true rfl) rfl (Nat.le_of_ble_eq_true rfl) dX4_waits_2 ⟨Nat.zero_le _, Nat.zero_le _⟩ ?_
    refine Zr_if_eq C 33 dX4_waits_5 (by decide) (fun h5 => absurd h5 (by decide)) (fun h5 => ?_)
    refine Zr_aload_n C dX4_waits_8 rfl ?_
    refine Zr_iload_n C dX4_waits_9 rfl ?_
    refine Zr_callV C cw_X4_64 (k_X4_isOne_f hB hR (hx.resolve_left (aBad.of hi hn))) qm0 rfl rfl rfl (Nat.le_of_ble_eq_true rfl) (Nat.le_of_ble_eq_true rfl) rfl (Nat.le_of_ble_eq_true rfl) dX4_waits_10 ⟨Nat.zero_le _, Nat.zero_le _⟩ ?_
    refine Zr_if_eq C 33 dX4_waits_13 (by decide) (fun h13 => ?_) (fun h13 => absurd rfl h13)
    refine Zr_iconst C (0) dX4_waits_33 rfl ?_
    exact Zr_zret C dX4_waits_34 (Nat.zero_le _) (Nat.zero_le _) (by first | exact Or.inl rfl | exact Or.inr rfl | assumption) ⟨rfl, rfl, rfl, rfl⟩
set_option maxHeartbeats 4000000 in
set_option maxRecDepth 100000 in
theorem k_X4_wrong {l : Launch} {D : va_G} {K : zKs} {ad : zAd} {S : zSt} {σ : aS} (hR : rRel σ S) : zMet l yX4_wrong cX4_wrong 1 (some .int) { frames := 0, cells := 0, slots := 0, locals := 0 } D K rIL (rSh K) ad S [.ref (ad (0, 0))] (zEq (some (.int (σ.1 0 0 4))) (rSh K) ad (S)) := by
  refine zEnter (own := RX4) (lv0 := [some (.ref (ad (0, 0)))]) (by decide) rfl (by simp [Value.category]) (Nat.le_of_ble_eq_true rfl) rfl ?_
  intro p e s m below meth c A C _ hnm
  refine Zr_aload_n C dX4_wrong_0 rfl ?_
  refine Zr_getE C gf_X4_100 qm0 rfl rfl rfl (rg hR) dX4_wrong_1 ?_
  exact Zr_iret C dX4_wrong_4 (Nat.zero_le _) (Nat.zero_le _) ⟨rfl, rfl, rfl, rfl⟩
set_option maxHeartbeats 4000000 in
set_option maxRecDepth 100000 in
theorem k_X4_falsely {l : Launch} {D : va_G} {K : zKs} {ad : zAd} {S : zSt} {σ : aS} (hR : rRel σ S) : zMet l yX4_falsely cX4_falsely 1 (some .int) { frames := 0, cells := 0, slots := 0, locals := 0 } D K rIL (rSh K) ad S [.ref (ad (0, 0))] (zEq (some (.int (σ.1 0 0 5))) (rSh K) ad (S)) := by
  refine zEnter (own := RX4) (lv0 := [some (.ref (ad (0, 0)))]) (by decide) rfl (by simp [Value.category]) (Nat.le_of_ble_eq_true rfl) rfl ?_
  intro p e s m below meth c A C _ hnm
  refine Zr_aload_n C dX4_falsely_0 rfl ?_
  refine Zr_getE C gf_X4_138 qm0 rfl rfl rfl (rg hR) dX4_falsely_1 ?_
  exact Zr_iret C dX4_falsely_4 (Nat.zero_le _) (Nat.zero_le _) ⟨rfl, rfl, rfl, rfl⟩
set_option maxHeartbeats 4000000 in
set_option maxRecDepth 100000 in
theorem k_X4_told {l : Launch} {D : va_G} {K : zKs} {ad : zAd} {S : zSt} {σ : aS} {n i : Nat} {w : Int32} (hB : aB n σ) (hR : rRel σ S) (hi : i < n) : zMet l yX4_told cX4_told 3 (some .int) { frames := 3, cells := 0, slots := 0, locals := 65 } D K rIL (rSh K) ad S [.ref (ad (0, 0)), .int (nI i), .int w] (zEq (some (.int (fTold n σ i w))) (rSh K) ad (S)) := by
  refine zEnter (own := RX4) (lv0 := [some (.ref (ad (0, 0))), some (.int (nI i)), some (.int w)]) (by decide) rfl (by simp [Value.category]) (Nat.le_of_ble_eq_true rfl) rfl ?_
  intro p e s m below meth c A C _ hnm
  have hn := hB.2.2.1
  have hb := fun k h => hB.2.2.2.2 k i h
  by_cases h100 : w = 0
  · subst h100
    refine Zr_aload_n C dX4_told_0 rfl ?_
    refine Zr_iload_n C dX4_told_1 rfl ?_
    refine Zr_callV C cw_X4_64 (k_X4_isOne_t hB hR hi) qm0 rfl rfl rfl (Nat.le_of_ble_eq_true rfl) (Nat.le_of_ble_eq_true rfl) rfl (Nat.le_of_ble_eq_true rfl) dX4_told_2 ⟨Nat.zero_le _, Nat.zero_le _⟩ ?_
    refine Zr_if_ne C 10 dX4_told_5 (by decide) (fun h5 => ?_) (fun h5 => absurd h5 (by decide))
    refine Zr_iload_n C dX4_told_10 rfl ?_
    refine Zr_tableIn C 72 dX4_told_11 (by decide) (by decide) rfl (by decide) ?_
    refine Zr_aload_n C dX4_told_72 rfl ?_
    refine Zr_getR C gf_X4_9 qm0 rfl rfl rfl (by decide) dX4_told_73 ?_
    refine Zr_iload_n C dX4_told_76 rfl ?_
    refine Zr_zaldN C qm_8 rfl rfl (by omega) (by decide) (ra hR (by decide)) dX4_told_77 ?_
    refine Zr_callS C cw_X4_159 (k_X4_toInt (hb 8 (by decide))) rfl (Nat.le_of_ble_eq_true rfl) (Nat.le_of_ble_eq_true rfl) rfl (Nat.le_of_ble_eq_true rfl) dX4_told_78 ⟨Nat.zero_le _, Nat.zero_le _⟩ ?_
    exact Zr_iret C dX4_told_81 (Nat.zero_le _) (Nat.zero_le _) ⟨rfl, rfl, rfl, rfl⟩
  by_cases h101 : w = 1
  · subst h101
    refine Zr_aload_n C dX4_told_0 rfl ?_
    refine Zr_iload_n C dX4_told_1 rfl ?_
    refine Zr_callV C cw_X4_64 (k_X4_isOne_t hB hR hi) qm0 rfl rfl rfl (Nat.le_of_ble_eq_true rfl) (Nat.le_of_ble_eq_true rfl) rfl (Nat.le_of_ble_eq_true rfl) dX4_told_2 ⟨Nat.zero_le _, Nat.zero_le _⟩ ?_
    refine Zr_if_ne C 10 dX4_told_5 (by decide) (fun h5 => ?_) (fun h5 => absurd h5 (by decide))
    refine Zr_iload_n C dX4_told_10 rfl ?_
    refine Zr_tableIn C 82 dX4_told_11 (by decide) (by decide) rfl (by decide) ?_
    refine Zr_aload_n C dX4_told_82 rfl ?_
    refine Zr_iload_n C dX4_told_83 rfl ?_
    refine Zr_callV C cw_X4_76 (k_X4_isBlocked hB hR hi) qm0 rfl rfl rfl (Nat.le_of_ble_eq_true rfl) (Nat.le_of_ble_eq_true rfl) rfl (Nat.le_of_ble_eq_true rfl) dX4_told_84 ⟨Nat.zero_le _, Nat.zero_le _⟩ ?_
    refine Zr_callS C cw_X4_159 (k_X4_toInt (by split <;> decide)) rfl (Nat.le_of_ble_eq_true rfl) (Nat.le_of_ble_eq_true rfl) rfl (Nat.le_of_ble_eq_true rfl) dX4_told_87 ⟨Nat.zero_le _, Nat.zero_le _⟩ ?_
    exact Zr_iret C dX4_told_90 (Nat.zero_le _) (Nat.zero_le _) ⟨rfl, rfl, rfl, rfl⟩
  by_cases h102 : w = 2
  · subst h102
    refine Zr_aload_n C dX4_told_0 rfl ?_
    refine Zr_iload_n C dX4_told_1 rfl ?_
    refine Zr_callV C cw_X4_64 (k_X4_isOne_t hB hR hi) qm0 rfl rfl rfl (Nat.le_of_ble_eq_true rfl) (Nat.le_of_ble_eq_true rfl) rfl (Nat.le_of_ble_eq_true rfl) dX4_told_2 ⟨Nat.zero_le _, Nat.zero_le _⟩ ?_
    refine Zr_if_ne C 10 dX4_told_5 (by decide) (fun h5 => ?_) (fun h5 => absurd h5 (by decide))
    refine Zr_iload_n C dX4_told_10 rfl ?_
    refine Zr_tableIn C 91 dX4_told_11 (by decide) (by decide) rfl (by decide) ?_
    refine Zr_aload_n C dX4_told_91 rfl ?_
    refine Zr_iload_n C dX4_told_92 rfl ?_
    refine Zr_callV C cw_X4_89 (k_X4_isInTree hB hR hi) qm0 rfl rfl rfl (Nat.le_of_ble_eq_true rfl) (Nat.le_of_ble_eq_true rfl) rfl (Nat.le_of_ble_eq_true rfl) dX4_told_93 ⟨Nat.zero_le _, Nat.zero_le _⟩ ?_
    refine Zr_callS C cw_X4_159 (k_X4_toInt (by split <;> decide)) rfl (Nat.le_of_ble_eq_true rfl) (Nat.le_of_ble_eq_true rfl) rfl (Nat.le_of_ble_eq_true rfl) dX4_told_96 ⟨Nat.zero_le _, Nat.zero_le _⟩ ?_
    exact Zr_iret C dX4_told_99 (Nat.zero_le _) (Nat.zero_le _) ⟨rfl, rfl, rfl, rfl⟩
  by_cases h103 : w = 3
  · subst h103
    refine Zr_aload_n C dX4_told_0 rfl ?_
    refine Zr_iload_n C dX4_told_1 rfl ?_
    refine Zr_callV C cw_X4_64 (k_X4_isOne_t hB hR hi) qm0 rfl rfl rfl (Nat.le_of_ble_eq_true rfl) (Nat.le_of_ble_eq_true rfl) rfl (Nat.le_of_ble_eq_true rfl) dX4_told_2 ⟨Nat.zero_le _, Nat.zero_le _⟩ ?_
    refine Zr_if_ne C 10 dX4_told_5 (by decide) (fun h5 => ?_) (fun h5 => absurd h5 (by decide))
    refine Zr_iload_n C dX4_told_10 rfl ?_
    refine Zr_tableIn C 100 dX4_told_11 (by decide) (by decide) rfl (by decide) ?_
    refine Zr_aload_n C dX4_told_100 rfl ?_
    refine Zr_getR C gf_X4_13 qm0 rfl rfl rfl (by decide) dX4_told_101 ?_
    refine Zr_iload_n C dX4_told_104 rfl ?_
    refine Zr_ialdN C qm_9 rfl rfl (by omega) (by decide) (ra hR (by decide)) dX4_told_105 ?_
    exact Zr_iret C dX4_told_106 (Nat.zero_le _) (Nat.zero_le _) ⟨rfl, rfl, rfl, rfl⟩
  by_cases h104 : w = 4
  · subst h104
    refine Zr_aload_n C dX4_told_0 rfl ?_
    refine Zr_iload_n C dX4_told_1 rfl ?_
    refine Zr_callV C cw_X4_64 (k_X4_isOne_t hB hR hi) qm0 rfl rfl rfl (Nat.le_of_ble_eq_true rfl) (Nat.le_of_ble_eq_true rfl) rfl (Nat.le_of_ble_eq_true rfl) dX4_told_2 ⟨Nat.zero_le _, Nat.zero_le _⟩ ?_
    refine Zr_if_ne C 10 dX4_told_5 (by decide) (fun h5 => ?_) (fun h5 => absurd h5 (by decide))
    refine Zr_iload_n C dX4_told_10 rfl ?_
    refine Zr_tableIn C 107 dX4_told_11 (by decide) (by decide) rfl (by decide) ?_
    refine Zr_aload_n C dX4_told_107 rfl ?_
    refine Zr_getR C gf_X4_17 qm0 rfl rfl rfl (by decide) dX4_told_108 ?_
    refine Zr_iload_n C dX4_told_111 rfl ?_
    refine Zr_ialdN C qm_10 rfl rfl (by omega) (by decide) (ra hR (by decide)) dX4_told_112 ?_
    exact Zr_iret C dX4_told_113 (Nat.zero_le _) (Nat.zero_le _) ⟨rfl, rfl, rfl, rfl⟩
  by_cases h105 : w = 5
  · subst h105
    refine Zr_aload_n C dX4_told_0 rfl ?_
    refine Zr_iload_n C dX4_told_1 rfl ?_
    refine Zr_callV C cw_X4_64 (k_X4_isOne_t hB hR hi) qm0 rfl rfl rfl (Nat.le_of_ble_eq_true rfl) (Nat.le_of_ble_eq_true rfl) rfl (Nat.le_of_ble_eq_true rfl) dX4_told_2 ⟨Nat.zero_le _, Nat.zero_le _⟩ ?_
    refine Zr_if_ne C 10 dX4_told_5 (by decide) (fun h5 => ?_) (fun h5 => absurd h5 (by decide))
    refine Zr_iload_n C dX4_told_10 rfl ?_
    refine Zr_tableIn C 114 dX4_told_11 (by decide) (by decide) rfl (by decide) ?_
    refine Zr_aload_n C dX4_told_114 rfl ?_
    refine Zr_getR C gf_X4_20 qm0 rfl rfl rfl (by decide) dX4_told_115 ?_
    refine Zr_iload_n C dX4_told_118 rfl ?_
    refine Zr_ialdN C qm_11 rfl rfl (by omega) (by decide) (ra hR (by decide)) dX4_told_119 ?_
    exact Zr_iret C dX4_told_120 (Nat.zero_le _) (Nat.zero_le _) ⟨rfl, rfl, rfl, rfl⟩
  by_cases h106 : w = 6
  · subst h106
    refine Zr_aload_n C dX4_told_0 rfl ?_
    refine Zr_iload_n C dX4_told_1 rfl ?_
    refine Zr_callV C cw_X4_64 (k_X4_isOne_t hB hR hi) qm0 rfl rfl rfl (Nat.le_of_ble_eq_true rfl) (Nat.le_of_ble_eq_true rfl) rfl (Nat.le_of_ble_eq_true rfl) dX4_told_2 ⟨Nat.zero_le _, Nat.zero_le _⟩ ?_
    refine Zr_if_ne C 10 dX4_told_5 (by decide) (fun h5 => ?_) (fun h5 => absurd h5 (by decide))
    refine Zr_iload_n C dX4_told_10 rfl ?_
    refine Zr_tableIn C 121 dX4_told_11 (by decide) (by decide) rfl (by decide) ?_
    refine Zr_aload_n C dX4_told_121 rfl ?_
    refine Zr_getR C gf_X4_23 qm0 rfl rfl rfl (by decide) dX4_told_122 ?_
    refine Zr_iload_n C dX4_told_125 rfl ?_
    refine Zr_zaldN C qm_12 rfl rfl (by omega) (by decide) (ra hR (by decide)) dX4_told_126 ?_
    refine Zr_callS C cw_X4_159 (k_X4_toInt (hb 12 (by decide))) rfl (Nat.le_of_ble_eq_true rfl) (Nat.le_of_ble_eq_true rfl) rfl (Nat.le_of_ble_eq_true rfl) dX4_told_127 ⟨Nat.zero_le _, Nat.zero_le _⟩ ?_
    exact Zr_iret C dX4_told_130 (Nat.zero_le _) (Nat.zero_le _) ⟨rfl, rfl, rfl, rfl⟩
  by_cases h107 : w = 7
  · subst h107
    refine Zr_aload_n C dX4_told_0 rfl ?_
    refine Zr_iload_n C dX4_told_1 rfl ?_
    refine Zr_callV C cw_X4_64 (k_X4_isOne_t hB hR hi) qm0 rfl rfl rfl (Nat.le_of_ble_eq_true rfl) (Nat.le_of_ble_eq_true rfl) rfl (Nat.le_of_ble_eq_true rfl) dX4_told_2 ⟨Nat.zero_le _, Nat.zero_le _⟩ ?_
    refine Zr_if_ne C 10 dX4_told_5 (by decide) (fun h5 => ?_) (fun h5 => absurd h5 (by decide))
    refine Zr_iload_n C dX4_told_10 rfl ?_
    refine Zr_tableIn C 131 dX4_told_11 (by decide) (by decide) rfl (by decide) ?_
    refine Zr_aload_n C dX4_told_131 rfl ?_
    refine Zr_getR C gf_X4_26 qm0 rfl rfl rfl (by decide) dX4_told_132 ?_
    refine Zr_iload_n C dX4_told_135 rfl ?_
    refine Zr_zaldN C qm_13 rfl rfl (by omega) (by decide) (ra hR (by decide)) dX4_told_136 ?_
    refine Zr_callS C cw_X4_159 (k_X4_toInt (hb 13 (by decide))) rfl (Nat.le_of_ble_eq_true rfl) (Nat.le_of_ble_eq_true rfl) rfl (Nat.le_of_ble_eq_true rfl) dX4_told_137 ⟨Nat.zero_le _, Nat.zero_le _⟩ ?_
    exact Zr_iret C dX4_told_140 (Nat.zero_le _) (Nat.zero_le _) ⟨rfl, rfl, rfl, rfl⟩
  by_cases h108 : w = 8
  · subst h108
    refine Zr_aload_n C dX4_told_0 rfl ?_
    refine Zr_iload_n C dX4_told_1 rfl ?_
    refine Zr_callV C cw_X4_64 (k_X4_isOne_t hB hR hi) qm0 rfl rfl rfl (Nat.le_of_ble_eq_true rfl) (Nat.le_of_ble_eq_true rfl) rfl (Nat.le_of_ble_eq_true rfl) dX4_told_2 ⟨Nat.zero_le _, Nat.zero_le _⟩ ?_
    refine Zr_if_ne C 10 dX4_told_5 (by decide) (fun h5 => ?_) (fun h5 => absurd h5 (by decide))
    refine Zr_iload_n C dX4_told_10 rfl ?_
    refine Zr_tableIn C 141 dX4_told_11 (by decide) (by decide) rfl (by decide) ?_
    refine Zr_aload_n C dX4_told_141 rfl ?_
    refine Zr_iload_n C dX4_told_142 rfl ?_
    refine Zr_callV C cw_X4_72 (k_X4_waitsFor hB hR hi) qm0 rfl rfl rfl (Nat.le_of_ble_eq_true rfl) (Nat.le_of_ble_eq_true rfl) rfl (Nat.le_of_ble_eq_true rfl) dX4_told_143 ⟨Nat.zero_le _, Nat.zero_le _⟩ ?_
    exact Zr_iret C dX4_told_146 (Nat.zero_le _) (Nat.zero_le _) ⟨rfl, rfl, rfl, rfl⟩
  by_cases h109 : w = 9
  · subst h109
    refine Zr_aload_n C dX4_told_0 rfl ?_
    refine Zr_iload_n C dX4_told_1 rfl ?_
    refine Zr_callV C cw_X4_64 (k_X4_isOne_t hB hR hi) qm0 rfl rfl rfl (Nat.le_of_ble_eq_true rfl) (Nat.le_of_ble_eq_true rfl) rfl (Nat.le_of_ble_eq_true rfl) dX4_told_2 ⟨Nat.zero_le _, Nat.zero_le _⟩ ?_
    refine Zr_if_ne C 10 dX4_told_5 (by decide) (fun h5 => ?_) (fun h5 => absurd h5 (by decide))
    refine Zr_iload_n C dX4_told_10 rfl ?_
    refine Zr_tableIn C 147 dX4_told_11 (by decide) (by decide) rfl (by decide) ?_
    refine Zr_aload_n C dX4_told_147 rfl ?_
    refine Zr_iload_n C dX4_told_148 rfl ?_
    refine Zr_callV C cw_X4_163 (k_X4_pendingAt hB hR hi) qm0 rfl rfl rfl (Nat.le_of_ble_eq_true rfl) (Nat.le_of_ble_eq_true rfl) rfl (Nat.le_of_ble_eq_true rfl) dX4_told_149 ⟨Nat.zero_le _, Nat.zero_le _⟩ ?_
    exact Zr_iret C dX4_told_152 (Nat.zero_le _) (Nat.zero_le _) ⟨rfl, rfl, rfl, rfl⟩
  by_cases h110 : w = 10
  · subst h110
    refine Zr_aload_n C dX4_told_0 rfl ?_
    refine Zr_iload_n C dX4_told_1 rfl ?_
    refine Zr_callV C cw_X4_64 (k_X4_isOne_t hB hR hi) qm0 rfl rfl rfl (Nat.le_of_ble_eq_true rfl) (Nat.le_of_ble_eq_true rfl) rfl (Nat.le_of_ble_eq_true rfl) dX4_told_2 ⟨Nat.zero_le _, Nat.zero_le _⟩ ?_
    refine Zr_if_ne C 10 dX4_told_5 (by decide) (fun h5 => ?_) (fun h5 => absurd h5 (by decide))
    refine Zr_iload_n C dX4_told_10 rfl ?_
    refine Zr_tableIn C 153 dX4_told_11 (by decide) (by decide) rfl (by decide) ?_
    refine Zr_aload_n C dX4_told_153 rfl ?_
    refine Zr_getR C gf_X4_29 qm0 rfl rfl rfl (by decide) dX4_told_154 ?_
    refine Zr_iload_n C dX4_told_157 rfl ?_
    refine Zr_ialdN C qm_14 rfl rfl (by omega) (by decide) (ra hR (by decide)) dX4_told_158 ?_
    exact Zr_iret C dX4_told_159 (Nat.zero_le _) (Nat.zero_le _) ⟨rfl, rfl, rfl, rfl⟩
  by_cases h111 : w = 11
  · subst h111
    refine Zr_aload_n C dX4_told_0 rfl ?_
    refine Zr_iload_n C dX4_told_1 rfl ?_
    refine Zr_callV C cw_X4_64 (k_X4_isOne_t hB hR hi) qm0 rfl rfl rfl (Nat.le_of_ble_eq_true rfl) (Nat.le_of_ble_eq_true rfl) rfl (Nat.le_of_ble_eq_true rfl) dX4_told_2 ⟨Nat.zero_le _, Nat.zero_le _⟩ ?_
    refine Zr_if_ne C 10 dX4_told_5 (by decide) (fun h5 => ?_) (fun h5 => absurd h5 (by decide))
    refine Zr_iload_n C dX4_told_10 rfl ?_
    refine Zr_tableIn C 160 dX4_told_11 (by decide) (by decide) rfl (by decide) ?_
    refine Zr_aload_n C dX4_told_160 rfl ?_
    refine Zr_getR C gf_X4_32 qm0 rfl rfl rfl (by decide) dX4_told_161 ?_
    refine Zr_iload_n C dX4_told_164 rfl ?_
    refine Zr_ialdN C qm_15 rfl rfl (by omega) (by decide) (ra hR (by decide)) dX4_told_165 ?_
    exact Zr_iret C dX4_told_166 (Nat.zero_le _) (Nat.zero_le _) ⟨rfl, rfl, rfl, rfl⟩
  refine Zr_aload_n C dX4_told_0 rfl ?_
  refine Zr_iload_n C dX4_told_1 rfl ?_
  refine Zr_callV C cw_X4_64 (k_X4_isOne_t hB hR hi) qm0 rfl rfl rfl (Nat.le_of_ble_eq_true rfl) (Nat.le_of_ble_eq_true rfl) rfl (Nat.le_of_ble_eq_true rfl) dX4_told_2 ⟨Nat.zero_le _, Nat.zero_le _⟩ ?_
  refine Zr_if_ne C 10 dX4_told_5 (by decide) (fun h5 => ?_) (fun h5 => absurd h5 (by decide))
  refine Zr_iload_n C dX4_told_10 rfl ?_
  refine Zr_tableOut C 167 dX4_told_11 (w_out 11 (by decide) (fun k hk e => by rcases (show k = 0 ∨ k = 1 ∨ k = 2 ∨ k = 3 ∨ k = 4 ∨ k = 5 ∨ k = 6 ∨ k = 7 ∨ k = 8 ∨ k = 9 ∨ k = 10 ∨ k = 11 by omega) with rfl | rfl | rfl | rfl | rfl | rfl | rfl | rfl | rfl | rfl | rfl | rfl <;> first | exact h100 e | exact h101 e | exact h102 e | exact h103 e | exact h104 e | exact h105 e | exact h106 e | exact h107 e | exact h108 e | exact h109 e | exact h110 e | exact h111 e)) (by decide) ?_
  refine Zr_iconst C (-1) dX4_told_167 rfl ?_
  exact Zr_iret C dX4_told_168 (Nat.zero_le _) (Nat.zero_le _) ⟨by simp [fTold, h100, h101, h102, h103, h104, h105, h106, h107, h108, h109, h110, h111], rfl, rfl, rfl⟩
set_option maxHeartbeats 4000000 in
set_option maxRecDepth 100000 in
theorem k_X4_told_f {l : Launch} {D : va_G} {K : zKs} {ad : zAd} {S : zSt} {σ : aS} {n : Nat} {x w : Int32} (hB : aB n σ) (hR : rRel σ S) (hx : aBad n x) : zMet l yX4_told cX4_told 3 (some .int) { frames := 3, cells := 0, slots := 0, locals := 65 } D K rIL (rSh K) ad S [.ref (ad (0, 0)), .int x, .int w] (zEq (some (.int (-1))) (rSh K) ad (S)) := by
  refine zEnter (own := RX4) (lv0 := [some (.ref (ad (0, 0))), some (.int x), some (.int w)]) (by decide) rfl (by simp [Value.category]) (Nat.le_of_ble_eq_true rfl) rfl ?_
  intro p e s m below meth c A C _ hnm
  refine Zr_aload_n C dX4_told_0 rfl ?_
  refine Zr_iload_n C dX4_told_1 rfl ?_
  refine Zr_callV C cw_X4_64 (k_X4_isOne_f hB hR hx) qm0 rfl rfl rfl (Nat.le_of_ble_eq_true rfl) (Nat.le_of_ble_eq_true rfl) rfl (Nat.le_of_ble_eq_true rfl) dX4_told_2 ⟨Nat.zero_le _, Nat.zero_le _⟩ ?_
  refine Zr_if_ne C 10 dX4_told_5 (by decide) (fun h5 => absurd rfl h5) (fun h5 => ?_)
  refine Zr_iconst C (-1) dX4_told_8 rfl ?_
  exact Zr_iret C dX4_told_9 (Nat.zero_le _) (Nat.zero_le _) ⟨rfl, rfl, rfl, rfl⟩
