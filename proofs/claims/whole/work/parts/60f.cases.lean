/-! ===== THE SIXTEEN CALLS OF THE LAW ===== -/
section LW
variable {p : Program} {l : Launch} {e : Env} {s : State} {m : MethodId} {args : Array Value} {below : List Frame} {meth : Method} {c : Code} {Q : State → Prop} {ret0 : Option FieldType} {D : va_G} {K : zKs} {A : Nat → Prop} {n i b L : Nat} {xs : Nat → Int32} {σ : aS} {ad ar : zAd} {ca : Nat → Nat} {S T : zSt}
set_option maxHeartbeats 1000000 in
theorem lc_start (C : zX p s m args meth c RL cL_law 4 ret0 D K A) (hX : va_X b L xs s s.heap) (hbl : b < s.heap.size) (hbA : ¬ A b) (hL : L < 2 ^ 31) (hi : i + 5 ≤ L) (h : aI n n σ) (hS : cRel n σ S) (hT : rRel σ T) (tail : ∀ (σ1 : aS) (ca1 : Nat → Nat) (S1 T1 : zSt), aI n n σ1 → cRel n σ1 S1 → rRel σ1 T1 → Z p l e room_1 s m args below meth c D A 4 Q (xIL n) (400 + aLam σ1) (200000 + 2 * aLam σ1) (xSh K n (cpo n σ1.2.2)) (xA (zA ad ca1) ar) (xS S1 T1) 548 [some (.ref b), some (.ref (ad (0, 0))), some (.ref (ar (0, 0))), some (.int (nI i))] []) : Z p l e room_1 s m args below meth c D A 4 Q (xIL n) (400 + aLam σ) (200000 + 2 * aLam σ) (xSh K n (cpo n σ.2.2)) (xA (zA ad ca) ar) (xS S T) 120 [some (.ref b), some (.ref (ad (0, 0))), some (.ref (ar (0, 0))), some (.int (nI i))] [] := by
  obtain ⟨V, σ1, h1, hm, hc, hr⟩ := x_start (l := l) (D := D) (K := K) h
  obtain ⟨po1, hM1, hp1⟩ := hc ad ca S hS
  obtain ⟨po2, hM2, hp2⟩ := hr ar T hT
  have hlm := h1.lam
  refine Zr_aload_n C dL_law_120 rfl ?_
  refine Zx_c C (st := []) [] cw_L_21 hM1 hp1 rfl (Nat.le_of_ble_eq_true rfl) (Nat.le_of_ble_eq_true rfl) rfl (Nat.zero_le _) dL_law_121 ⟨by show 400 + aLam σ + (aLam σ1 - aLam σ) ≤ 600000; omega, by show 200000 + 2 * aLam σ + 2 * (aLam σ1 - aLam σ) ≤ 7302250; omega⟩ (fun ca1 S1 hS1 => ?_)
  refine Zr_cs (cells' := 400 + aLam σ1) (slots' := 200000 + 2 * aLam σ1) (by show 400 + aLam σ + (aLam σ1 - aLam σ) = _; omega) (by show 200000 + 2 * aLam σ + 2 * (aLam σ1 - aLam σ) = _; omega) ?_
  refine Zr_aload_n C dL_law_124 rfl ?_
  refine Zx_r C (st := [.int V]) [] cw_L_25 hM2 hp2 rfl (Nat.le_of_ble_eq_true rfl) (Nat.le_of_ble_eq_true rfl) rfl (Nat.le_of_ble_eq_true rfl) dL_law_125 ⟨by show 400 + aLam σ1 + 0 ≤ 600000; omega, by show 200000 + 2 * aLam σ1 + 0 ≤ 7302250; omega⟩ (fun T1 hT1 => ?_)
  refine Zr_icmp_eq C 548 dL_law_128 (by decide) (fun _ => ?_) (fun h => absurd rfl h)
  exact tail σ1 ca1 S1 T1 h1 hS1 hT1
set_option maxHeartbeats 1000000 in
theorem lc_send (C : zX p s m args meth c RL cL_law 4 ret0 D K A) (hX : va_X b L xs s s.heap) (hbl : b < s.heap.size) (hbA : ¬ A b) (hL : L < 2 ^ 31) (hi : i + 5 ≤ L) (h : aI n n σ) (hS : cRel n σ S) (hT : rRel σ T) (tail : ∀ (σ1 : aS) (ca1 : Nat → Nat) (S1 T1 : zSt), aI n n σ1 → cRel n σ1 S1 → rRel σ1 T1 → Z p l e room_1 s m args below meth c D A 4 Q (xIL n) (400 + aLam σ1) (200000 + 2 * aLam σ1) (xSh K n (cpo n σ1.2.2)) (xA (zA ad ca1) ar) (xS S1 T1) 548 [some (.ref b), some (.ref (ad (0, 0))), some (.ref (ar (0, 0))), some (.int (nI i))] []) : Z p l e room_1 s m args below meth c D A 4 Q (xIL n) (400 + aLam σ) (200000 + 2 * aLam σ) (xSh K n (cpo n σ.2.2)) (xA (zA ad ca) ar) (xS S T) 133 [some (.ref b), some (.ref (ad (0, 0))), some (.ref (ar (0, 0))), some (.int (nI i))] [] := by
  obtain ⟨V, σ1, h1, hm, hc, hr⟩ := x_send (l := l) (D := D) (K := K) (x := xs (i + 1)) (y := xs (i + 2)) h
  obtain ⟨po1, hM1, hp1⟩ := hc ad ca S hS
  obtain ⟨po2, hM2, hp2⟩ := hr ar T hT
  have hlm := h1.lam
  refine Zr_aload_n C dL_law_133 rfl ?_
  refine Zr_aload_n C dL_law_134 rfl ?_
  refine Zr_iload_n C dL_law_135 rfl ?_
  refine Zr_iconst C (nI 1) dL_law_136 rfl ?_
  refine Zr_iadd C dL_law_137 ?_
  refine Zr_topi (nI_add i 1) ?_
  refine Zr_sld C hX hbl hbA (show i + 1 < L by omega) hL dL_law_138 ?_
  refine Zr_aload_n C dL_law_139 rfl ?_
  refine Zr_iload_n C dL_law_140 rfl ?_
  refine Zr_iconst C (nI 2) dL_law_141 rfl ?_
  refine Zr_iadd C dL_law_142 ?_
  refine Zr_topi (nI_add i 2) ?_
  refine Zr_sld C hX hbl hbA (show i + 2 < L by omega) hL dL_law_143 ?_
  refine Zx_c C (st := []) [.int (xs (i + 1)), .int (xs (i + 2))] cw_L_26 hM1 hp1 rfl (Nat.le_of_ble_eq_true rfl) (Nat.le_of_ble_eq_true rfl) rfl (Nat.zero_le _) dL_law_144 ⟨by show 400 + aLam σ + (aLam σ1 - aLam σ) ≤ 600000; omega, by show 200000 + 2 * aLam σ + 2 * (aLam σ1 - aLam σ) ≤ 7302250; omega⟩ (fun ca1 S1 hS1 => ?_)
  refine Zr_cs (cells' := 400 + aLam σ1) (slots' := 200000 + 2 * aLam σ1) (by show 400 + aLam σ + (aLam σ1 - aLam σ) = _; omega) (by show 200000 + 2 * aLam σ + 2 * (aLam σ1 - aLam σ) = _; omega) ?_
  refine Zr_aload_n C dL_law_147 rfl ?_
  refine Zr_aload_n C dL_law_148 rfl ?_
  refine Zr_iload_n C dL_law_149 rfl ?_
  refine Zr_iconst C (nI 1) dL_law_150 rfl ?_
  refine Zr_iadd C dL_law_151 ?_
  refine Zr_topi (nI_add i 1) ?_
  refine Zr_sld C hX hbl hbA (show i + 1 < L by omega) hL dL_law_152 ?_
  refine Zr_aload_n C dL_law_153 rfl ?_
  refine Zr_iload_n C dL_law_154 rfl ?_
  refine Zr_iconst C (nI 2) dL_law_155 rfl ?_
  refine Zr_iadd C dL_law_156 ?_
  refine Zr_topi (nI_add i 2) ?_
  refine Zr_sld C hX hbl hbA (show i + 2 < L by omega) hL dL_law_157 ?_
  refine Zx_r C (st := [.int V]) [.int (xs (i + 1)), .int (xs (i + 2))] cw_L_30 hM2 hp2 rfl (Nat.le_of_ble_eq_true rfl) (Nat.le_of_ble_eq_true rfl) rfl (Nat.le_of_ble_eq_true rfl) dL_law_158 ⟨by show 400 + aLam σ1 + 0 ≤ 600000; omega, by show 200000 + 2 * aLam σ1 + 0 ≤ 7302250; omega⟩ (fun T1 hT1 => ?_)
  refine Zr_icmp_eq C 548 dL_law_161 (by decide) (fun _ => ?_) (fun h => absurd rfl h)
  exact tail σ1 ca1 S1 T1 h1 hS1 hT1
set_option maxHeartbeats 1000000 in
theorem lc_rest (C : zX p s m args meth c RL cL_law 4 ret0 D K A) (hX : va_X b L xs s s.heap) (hbl : b < s.heap.size) (hbA : ¬ A b) (hL : L < 2 ^ 31) (hi : i + 5 ≤ L) (h : aI n n σ) (hS : cRel n σ S) (hT : rRel σ T) (tail : ∀ (σ1 : aS) (ca1 : Nat → Nat) (S1 T1 : zSt), aI n n σ1 → cRel n σ1 S1 → rRel σ1 T1 → Z p l e room_1 s m args below meth c D A 4 Q (xIL n) (400 + aLam σ1) (200000 + 2 * aLam σ1) (xSh K n (cpo n σ1.2.2)) (xA (zA ad ca1) ar) (xS S1 T1) 548 [some (.ref b), some (.ref (ad (0, 0))), some (.ref (ar (0, 0))), some (.int (nI i))] []) : Z p l e room_1 s m args below meth c D A 4 Q (xIL n) (400 + aLam σ) (200000 + 2 * aLam σ) (xSh K n (cpo n σ.2.2)) (xA (zA ad ca) ar) (xS S T) 166 [some (.ref b), some (.ref (ad (0, 0))), some (.ref (ar (0, 0))), some (.int (nI i))] [] := by
  obtain ⟨V, σ1, h1, hm, hc, hr⟩ := x_rest (l := l) (D := D) (K := K) (x := xs (i + 1)) h
  obtain ⟨po1, hM1, hp1⟩ := hc ad ca S hS
  obtain ⟨po2, hM2, hp2⟩ := hr ar T hT
  have hlm := h1.lam
  refine Zr_aload_n C dL_law_166 rfl ?_
  refine Zr_aload_n C dL_law_167 rfl ?_
  refine Zr_iload_n C dL_law_168 rfl ?_
  refine Zr_iconst C (nI 1) dL_law_169 rfl ?_
  refine Zr_iadd C dL_law_170 ?_
  refine Zr_topi (nI_add i 1) ?_
  refine Zr_sld C hX hbl hbA (show i + 1 < L by omega) hL dL_law_171 ?_
  refine Zx_c C (st := []) [.int (xs (i + 1))] cw_L_31 hM1 hp1 rfl (Nat.le_of_ble_eq_true rfl) (Nat.le_of_ble_eq_true rfl) rfl (Nat.zero_le _) dL_law_172 ⟨by show 400 + aLam σ + (aLam σ1 - aLam σ) ≤ 600000; omega, by show 200000 + 2 * aLam σ + 2 * (aLam σ1 - aLam σ) ≤ 7302250; omega⟩ (fun ca1 S1 hS1 => ?_)
  refine Zr_cs (cells' := 400 + aLam σ1) (slots' := 200000 + 2 * aLam σ1) (by show 400 + aLam σ + (aLam σ1 - aLam σ) = _; omega) (by show 200000 + 2 * aLam σ + 2 * (aLam σ1 - aLam σ) = _; omega) ?_
  refine Zr_aload_n C dL_law_175 rfl ?_
  refine Zr_aload_n C dL_law_176 rfl ?_
  refine Zr_iload_n C dL_law_177 rfl ?_
  refine Zr_iconst C (nI 1) dL_law_178 rfl ?_
  refine Zr_iadd C dL_law_179 ?_
  refine Zr_topi (nI_add i 1) ?_
  refine Zr_sld C hX hbl hbA (show i + 1 < L by omega) hL dL_law_180 ?_
  refine Zx_r C (st := [.int V]) [.int (xs (i + 1))] cw_L_35 hM2 hp2 rfl (Nat.le_of_ble_eq_true rfl) (Nat.le_of_ble_eq_true rfl) rfl (Nat.le_of_ble_eq_true rfl) dL_law_181 ⟨by show 400 + aLam σ1 + 0 ≤ 600000; omega, by show 200000 + 2 * aLam σ1 + 0 ≤ 7302250; omega⟩ (fun T1 hT1 => ?_)
  refine Zr_icmp_eq C 548 dL_law_184 (by decide) (fun _ => ?_) (fun h => absurd rfl h)
  exact tail σ1 ca1 S1 T1 h1 hS1 hT1
set_option maxHeartbeats 1000000 in
theorem lc_ask (C : zX p s m args meth c RL cL_law 4 ret0 D K A) (hX : va_X b L xs s s.heap) (hbl : b < s.heap.size) (hbA : ¬ A b) (hL : L < 2 ^ 31) (hi : i + 5 ≤ L) (h : aI n n σ) (hS : cRel n σ S) (hT : rRel σ T) (tail : ∀ (σ1 : aS) (ca1 : Nat → Nat) (S1 T1 : zSt), aI n n σ1 → cRel n σ1 S1 → rRel σ1 T1 → Z p l e room_1 s m args below meth c D A 4 Q (xIL n) (400 + aLam σ1) (200000 + 2 * aLam σ1) (xSh K n (cpo n σ1.2.2)) (xA (zA ad ca1) ar) (xS S1 T1) 548 [some (.ref b), some (.ref (ad (0, 0))), some (.ref (ar (0, 0))), some (.int (nI i))] []) : Z p l e room_1 s m args below meth c D A 4 Q (xIL n) (400 + aLam σ) (200000 + 2 * aLam σ) (xSh K n (cpo n σ.2.2)) (xA (zA ad ca) ar) (xS S T) 189 [some (.ref b), some (.ref (ad (0, 0))), some (.ref (ar (0, 0))), some (.int (nI i))] [] := by
  obtain ⟨V, σ1, h1, hm, hc, hr⟩ := x_ask (l := l) (D := D) (K := K) (x := xs (i + 1)) (y := xs (i + 2)) h
  obtain ⟨po1, hM1, hp1⟩ := hc ad ca S hS
  obtain ⟨po2, hM2, hp2⟩ := hr ar T hT
  have hlm := h1.lam
  refine Zr_aload_n C dL_law_189 rfl ?_
  refine Zr_aload_n C dL_law_190 rfl ?_
  refine Zr_iload_n C dL_law_191 rfl ?_
  refine Zr_iconst C (nI 1) dL_law_192 rfl ?_
  refine Zr_iadd C dL_law_193 ?_
  refine Zr_topi (nI_add i 1) ?_
  refine Zr_sld C hX hbl hbA (show i + 1 < L by omega) hL dL_law_194 ?_
  refine Zr_aload_n C dL_law_195 rfl ?_
  refine Zr_iload_n C dL_law_196 rfl ?_
  refine Zr_iconst C (nI 2) dL_law_197 rfl ?_
  refine Zr_iadd C dL_law_198 ?_
  refine Zr_topi (nI_add i 2) ?_
  refine Zr_sld C hX hbl hbA (show i + 2 < L by omega) hL dL_law_199 ?_
  refine Zx_c C (st := []) [.int (xs (i + 1)), .int (xs (i + 2))] cw_L_36 hM1 hp1 rfl (Nat.le_of_ble_eq_true rfl) (Nat.le_of_ble_eq_true rfl) rfl (Nat.zero_le _) dL_law_200 ⟨by show 400 + aLam σ + (aLam σ1 - aLam σ) ≤ 600000; omega, by show 200000 + 2 * aLam σ + 2 * (aLam σ1 - aLam σ) ≤ 7302250; omega⟩ (fun ca1 S1 hS1 => ?_)
  refine Zr_cs (cells' := 400 + aLam σ1) (slots' := 200000 + 2 * aLam σ1) (by show 400 + aLam σ + (aLam σ1 - aLam σ) = _; omega) (by show 200000 + 2 * aLam σ + 2 * (aLam σ1 - aLam σ) = _; omega) ?_
  refine Zr_aload_n C dL_law_203 rfl ?_
  refine Zr_aload_n C dL_law_204 rfl ?_
  refine Zr_iload_n C dL_law_205 rfl ?_
  refine Zr_iconst C (nI 1) dL_law_206 rfl ?_
  refine Zr_iadd C dL_law_207 ?_
  refine Zr_topi (nI_add i 1) ?_
  refine Zr_sld C hX hbl hbA (show i + 1 < L by omega) hL dL_law_208 ?_
  refine Zr_aload_n C dL_law_209 rfl ?_
  refine Zr_iload_n C dL_law_210 rfl ?_
  refine Zr_iconst C (nI 2) dL_law_211 rfl ?_
  refine Zr_iadd C dL_law_212 ?_
  refine Zr_topi (nI_add i 2) ?_
  refine Zr_sld C hX hbl hbA (show i + 2 < L by omega) hL dL_law_213 ?_
  refine Zx_r C (st := [.int V]) [.int (xs (i + 1)), .int (xs (i + 2))] cw_L_40 hM2 hp2 rfl (Nat.le_of_ble_eq_true rfl) (Nat.le_of_ble_eq_true rfl) rfl (Nat.le_of_ble_eq_true rfl) dL_law_214 ⟨by show 400 + aLam σ1 + 0 ≤ 600000; omega, by show 200000 + 2 * aLam σ1 + 0 ≤ 7302250; omega⟩ (fun T1 hT1 => ?_)
  refine Zr_icmp_eq C 548 dL_law_217 (by decide) (fun _ => ?_) (fun h => absurd rfl h)
  exact tail σ1 ca1 S1 T1 h1 hS1 hT1
set_option maxHeartbeats 1000000 in
theorem lc_answer (C : zX p s m args meth c RL cL_law 4 ret0 D K A) (hX : va_X b L xs s s.heap) (hbl : b < s.heap.size) (hbA : ¬ A b) (hL : L < 2 ^ 31) (hi : i + 5 ≤ L) (h : aI n n σ) (hS : cRel n σ S) (hT : rRel σ T) (tail : ∀ (σ1 : aS) (ca1 : Nat → Nat) (S1 T1 : zSt), aI n n σ1 → cRel n σ1 S1 → rRel σ1 T1 → Z p l e room_1 s m args below meth c D A 4 Q (xIL n) (400 + aLam σ1) (200000 + 2 * aLam σ1) (xSh K n (cpo n σ1.2.2)) (xA (zA ad ca1) ar) (xS S1 T1) 548 [some (.ref b), some (.ref (ad (0, 0))), some (.ref (ar (0, 0))), some (.int (nI i))] []) : Z p l e room_1 s m args below meth c D A 4 Q (xIL n) (400 + aLam σ) (200000 + 2 * aLam σ) (xSh K n (cpo n σ.2.2)) (xA (zA ad ca) ar) (xS S T) 222 [some (.ref b), some (.ref (ad (0, 0))), some (.ref (ar (0, 0))), some (.int (nI i))] [] := by
  obtain ⟨V, σ1, h1, hm, hc, hr⟩ := x_answer (l := l) (D := D) (K := K) (x := xs (i + 1)) (y := xs (i + 2)) h
  obtain ⟨po1, hM1, hp1⟩ := hc ad ca S hS
  obtain ⟨po2, hM2, hp2⟩ := hr ar T hT
  have hlm := h1.lam
  refine Zr_aload_n C dL_law_222 rfl ?_
  refine Zr_aload_n C dL_law_223 rfl ?_
  refine Zr_iload_n C dL_law_224 rfl ?_
  refine Zr_iconst C (nI 1) dL_law_225 rfl ?_
  refine Zr_iadd C dL_law_226 ?_
  refine Zr_topi (nI_add i 1) ?_
  refine Zr_sld C hX hbl hbA (show i + 1 < L by omega) hL dL_law_227 ?_
  refine Zr_aload_n C dL_law_228 rfl ?_
  refine Zr_iload_n C dL_law_229 rfl ?_
  refine Zr_iconst C (nI 2) dL_law_230 rfl ?_
  refine Zr_iadd C dL_law_231 ?_
  refine Zr_topi (nI_add i 2) ?_
  refine Zr_sld C hX hbl hbA (show i + 2 < L by omega) hL dL_law_232 ?_
  refine Zx_c C (st := []) [.int (xs (i + 1)), .int (xs (i + 2))] cw_L_41 hM1 hp1 rfl (Nat.le_of_ble_eq_true rfl) (Nat.le_of_ble_eq_true rfl) rfl (Nat.zero_le _) dL_law_233 ⟨by show 400 + aLam σ + (aLam σ1 - aLam σ) ≤ 600000; omega, by show 200000 + 2 * aLam σ + 2 * (aLam σ1 - aLam σ) ≤ 7302250; omega⟩ (fun ca1 S1 hS1 => ?_)
  refine Zr_cs (cells' := 400 + aLam σ1) (slots' := 200000 + 2 * aLam σ1) (by show 400 + aLam σ + (aLam σ1 - aLam σ) = _; omega) (by show 200000 + 2 * aLam σ + 2 * (aLam σ1 - aLam σ) = _; omega) ?_
  refine Zr_aload_n C dL_law_236 rfl ?_
  refine Zr_aload_n C dL_law_237 rfl ?_
  refine Zr_iload_n C dL_law_238 rfl ?_
  refine Zr_iconst C (nI 1) dL_law_239 rfl ?_
  refine Zr_iadd C dL_law_240 ?_
  refine Zr_topi (nI_add i 1) ?_
  refine Zr_sld C hX hbl hbA (show i + 1 < L by omega) hL dL_law_241 ?_
  refine Zr_aload_n C dL_law_242 rfl ?_
  refine Zr_iload_n C dL_law_243 rfl ?_
  refine Zr_iconst C (nI 2) dL_law_244 rfl ?_
  refine Zr_iadd C dL_law_245 ?_
  refine Zr_topi (nI_add i 2) ?_
  refine Zr_sld C hX hbl hbA (show i + 2 < L by omega) hL dL_law_246 ?_
  refine Zx_r C (st := [.int V]) [.int (xs (i + 1)), .int (xs (i + 2))] cw_L_44 hM2 hp2 rfl (Nat.le_of_ble_eq_true rfl) (Nat.le_of_ble_eq_true rfl) rfl (Nat.le_of_ble_eq_true rfl) dL_law_247 ⟨by show 400 + aLam σ1 + 0 ≤ 600000; omega, by show 200000 + 2 * aLam σ1 + 0 ≤ 7302250; omega⟩ (fun T1 hT1 => ?_)
  refine Zr_icmp_eq C 548 dL_law_250 (by decide) (fun _ => ?_) (fun h => absurd rfl h)
  exact tail σ1 ca1 S1 T1 h1 hS1 hT1
set_option maxHeartbeats 1000000 in
theorem lc_probe (C : zX p s m args meth c RL cL_law 4 ret0 D K A) (hX : va_X b L xs s s.heap) (hbl : b < s.heap.size) (hbA : ¬ A b) (hL : L < 2 ^ 31) (hi : i + 5 ≤ L) (h : aI n n σ) (hS : cRel n σ S) (hT : rRel σ T) (tail : ∀ (σ1 : aS) (ca1 : Nat → Nat) (S1 T1 : zSt), aI n n σ1 → cRel n σ1 S1 → rRel σ1 T1 → Z p l e room_1 s m args below meth c D A 4 Q (xIL n) (400 + aLam σ1) (200000 + 2 * aLam σ1) (xSh K n (cpo n σ1.2.2)) (xA (zA ad ca1) ar) (xS S1 T1) 548 [some (.ref b), some (.ref (ad (0, 0))), some (.ref (ar (0, 0))), some (.int (nI i))] []) : Z p l e room_1 s m args below meth c D A 4 Q (xIL n) (400 + aLam σ) (200000 + 2 * aLam σ) (xSh K n (cpo n σ.2.2)) (xA (zA ad ca) ar) (xS S T) 255 [some (.ref b), some (.ref (ad (0, 0))), some (.ref (ar (0, 0))), some (.int (nI i))] [] := by
  obtain ⟨V, σ1, h1, hm, hc, hr⟩ := x_probe (l := l) (D := D) (K := K) (x := xs (i + 1)) h
  obtain ⟨po1, hM1, hp1⟩ := hc ad ca S hS
  obtain ⟨po2, hM2, hp2⟩ := hr ar T hT
  have hlm := h1.lam
  refine Zr_aload_n C dL_law_255 rfl ?_
  refine Zr_aload_n C dL_law_256 rfl ?_
  refine Zr_iload_n C dL_law_257 rfl ?_
  refine Zr_iconst C (nI 1) dL_law_258 rfl ?_
  refine Zr_iadd C dL_law_259 ?_
  refine Zr_topi (nI_add i 1) ?_
  refine Zr_sld C hX hbl hbA (show i + 1 < L by omega) hL dL_law_260 ?_
  refine Zx_c C (st := []) [.int (xs (i + 1))] cw_L_45 hM1 hp1 rfl (Nat.le_of_ble_eq_true rfl) (Nat.le_of_ble_eq_true rfl) rfl (Nat.zero_le _) dL_law_261 ⟨by show 400 + aLam σ + (aLam σ1 - aLam σ) ≤ 600000; omega, by show 200000 + 2 * aLam σ + 2 * (aLam σ1 - aLam σ) ≤ 7302250; omega⟩ (fun ca1 S1 hS1 => ?_)
  refine Zr_cs (cells' := 400 + aLam σ1) (slots' := 200000 + 2 * aLam σ1) (by show 400 + aLam σ + (aLam σ1 - aLam σ) = _; omega) (by show 200000 + 2 * aLam σ + 2 * (aLam σ1 - aLam σ) = _; omega) ?_
  refine Zr_aload_n C dL_law_264 rfl ?_
  refine Zr_aload_n C dL_law_265 rfl ?_
  refine Zr_iload_n C dL_law_266 rfl ?_
  refine Zr_iconst C (nI 1) dL_law_267 rfl ?_
  refine Zr_iadd C dL_law_268 ?_
  refine Zr_topi (nI_add i 1) ?_
  refine Zr_sld C hX hbl hbA (show i + 1 < L by omega) hL dL_law_269 ?_
  refine Zx_r C (st := [.int V]) [.int (xs (i + 1))] cw_L_49 hM2 hp2 rfl (Nat.le_of_ble_eq_true rfl) (Nat.le_of_ble_eq_true rfl) rfl (Nat.le_of_ble_eq_true rfl) dL_law_270 ⟨by show 400 + aLam σ1 + 0 ≤ 600000; omega, by show 200000 + 2 * aLam σ1 + 0 ≤ 7302250; omega⟩ (fun T1 hT1 => ?_)
  refine Zr_icmp_eq C 548 dL_law_273 (by decide) (fun _ => ?_) (fun h => absurd rfl h)
  exact tail σ1 ca1 S1 T1 h1 hS1 hT1
set_option maxHeartbeats 1000000 in
theorem lc_pass (C : zX p s m args meth c RL cL_law 4 ret0 D K A) (hX : va_X b L xs s s.heap) (hbl : b < s.heap.size) (hbA : ¬ A b) (hL : L < 2 ^ 31) (hi : i + 5 ≤ L) (h : aI n n σ) (hS : cRel n σ S) (hT : rRel σ T) (tail : ∀ (σ1 : aS) (ca1 : Nat → Nat) (S1 T1 : zSt), aI n n σ1 → cRel n σ1 S1 → rRel σ1 T1 → Z p l e room_1 s m args below meth c D A 4 Q (xIL n) (400 + aLam σ1) (200000 + 2 * aLam σ1) (xSh K n (cpo n σ1.2.2)) (xA (zA ad ca1) ar) (xS S1 T1) 548 [some (.ref b), some (.ref (ad (0, 0))), some (.ref (ar (0, 0))), some (.int (nI i))] []) : Z p l e room_1 s m args below meth c D A 4 Q (xIL n) (400 + aLam σ) (200000 + 2 * aLam σ) (xSh K n (cpo n σ.2.2)) (xA (zA ad ca) ar) (xS S T) 278 [some (.ref b), some (.ref (ad (0, 0))), some (.ref (ar (0, 0))), some (.int (nI i))] [] := by
  obtain ⟨V, σ1, h1, hm, hc, hr⟩ := x_pass (l := l) (D := D) (K := K) (x := xs (i + 1)) h
  obtain ⟨po1, hM1, hp1⟩ := hc ad ca S hS
  obtain ⟨po2, hM2, hp2⟩ := hr ar T hT
  have hlm := h1.lam
  refine Zr_aload_n C dL_law_278 rfl ?_
  refine Zr_aload_n C dL_law_279 rfl ?_
  refine Zr_iload_n C dL_law_280 rfl ?_
  refine Zr_iconst C (nI 1) dL_law_281 rfl ?_
  refine Zr_iadd C dL_law_282 ?_
  refine Zr_topi (nI_add i 1) ?_
  refine Zr_sld C hX hbl hbA (show i + 1 < L by omega) hL dL_law_283 ?_
  refine Zx_c C (st := []) [.int (xs (i + 1))] cw_L_50 hM1 hp1 rfl (Nat.le_of_ble_eq_true rfl) (Nat.le_of_ble_eq_true rfl) rfl (Nat.zero_le _) dL_law_284 ⟨by show 400 + aLam σ + (aLam σ1 - aLam σ) ≤ 600000; omega, by show 200000 + 2 * aLam σ + 2 * (aLam σ1 - aLam σ) ≤ 7302250; omega⟩ (fun ca1 S1 hS1 => ?_)
  refine Zr_cs (cells' := 400 + aLam σ1) (slots' := 200000 + 2 * aLam σ1) (by show 400 + aLam σ + (aLam σ1 - aLam σ) = _; omega) (by show 200000 + 2 * aLam σ + 2 * (aLam σ1 - aLam σ) = _; omega) ?_
  refine Zr_aload_n C dL_law_287 rfl ?_
  refine Zr_aload_n C dL_law_288 rfl ?_
  refine Zr_iload_n C dL_law_289 rfl ?_
  refine Zr_iconst C (nI 1) dL_law_290 rfl ?_
  refine Zr_iadd C dL_law_291 ?_
  refine Zr_topi (nI_add i 1) ?_
  refine Zr_sld C hX hbl hbA (show i + 1 < L by omega) hL dL_law_292 ?_
  refine Zx_r C (st := [.int V]) [.int (xs (i + 1))] cw_L_53 hM2 hp2 rfl (Nat.le_of_ble_eq_true rfl) (Nat.le_of_ble_eq_true rfl) rfl (Nat.le_of_ble_eq_true rfl) dL_law_293 ⟨by show 400 + aLam σ1 + 0 ≤ 600000; omega, by show 200000 + 2 * aLam σ1 + 0 ≤ 7302250; omega⟩ (fun T1 hT1 => ?_)
  refine Zr_icmp_eq C 548 dL_law_296 (by decide) (fun _ => ?_) (fun h => absurd rfl h)
  exact tail σ1 ca1 S1 T1 h1 hS1 hT1
set_option maxHeartbeats 1000000 in
theorem lc_receive (C : zX p s m args meth c RL cL_law 4 ret0 D K A) (hX : va_X b L xs s s.heap) (hbl : b < s.heap.size) (hbA : ¬ A b) (hL : L < 2 ^ 31) (hi : i + 5 ≤ L) (h : aI n n σ) (hS : cRel n σ S) (hT : rRel σ T) (tail : ∀ (σ1 : aS) (ca1 : Nat → Nat) (S1 T1 : zSt), aI n n σ1 → cRel n σ1 S1 → rRel σ1 T1 → Z p l e room_1 s m args below meth c D A 4 Q (xIL n) (400 + aLam σ1) (200000 + 2 * aLam σ1) (xSh K n (cpo n σ1.2.2)) (xA (zA ad ca1) ar) (xS S1 T1) 548 [some (.ref b), some (.ref (ad (0, 0))), some (.ref (ar (0, 0))), some (.int (nI i))] []) : Z p l e room_1 s m args below meth c D A 4 Q (xIL n) (400 + aLam σ) (200000 + 2 * aLam σ) (xSh K n (cpo n σ.2.2)) (xA (zA ad ca) ar) (xS S T) 301 [some (.ref b), some (.ref (ad (0, 0))), some (.ref (ar (0, 0))), some (.int (nI i))] [] := by
  obtain ⟨V, σ1, h1, hm, hc, hr⟩ := x_receive (l := l) (D := D) (K := K) (x := xs (i + 1)) (y := xs (i + 2)) h
  obtain ⟨po1, hM1, hp1⟩ := hc ad ca S hS
  obtain ⟨po2, hM2, hp2⟩ := hr ar T hT
  have hlm := h1.lam
  refine Zr_aload_n C dL_law_301 rfl ?_
  refine Zr_aload_n C dL_law_302 rfl ?_
  refine Zr_iload_n C dL_law_303 rfl ?_
  refine Zr_iconst C (nI 1) dL_law_304 rfl ?_
  refine Zr_iadd C dL_law_305 ?_
  refine Zr_topi (nI_add i 1) ?_
  refine Zr_sld C hX hbl hbA (show i + 1 < L by omega) hL dL_law_306 ?_
  refine Zr_aload_n C dL_law_307 rfl ?_
  refine Zr_iload_n C dL_law_308 rfl ?_
  refine Zr_iconst C (nI 2) dL_law_309 rfl ?_
  refine Zr_iadd C dL_law_310 ?_
  refine Zr_topi (nI_add i 2) ?_
  refine Zr_sld C hX hbl hbA (show i + 2 < L by omega) hL dL_law_311 ?_
  refine Zx_c C (st := []) [.int (xs (i + 1)), .int (xs (i + 2))] cw_L_54 hM1 hp1 rfl (Nat.le_of_ble_eq_true rfl) (Nat.le_of_ble_eq_true rfl) rfl (Nat.zero_le _) dL_law_312 ⟨by show 400 + aLam σ + (aLam σ1 - aLam σ) ≤ 600000; omega, by show 200000 + 2 * aLam σ + 2 * (aLam σ1 - aLam σ) ≤ 7302250; omega⟩ (fun ca1 S1 hS1 => ?_)
  refine Zr_cs (cells' := 400 + aLam σ1) (slots' := 200000 + 2 * aLam σ1) (by show 400 + aLam σ + (aLam σ1 - aLam σ) = _; omega) (by show 200000 + 2 * aLam σ + 2 * (aLam σ1 - aLam σ) = _; omega) ?_
  refine Zr_aload_n C dL_law_315 rfl ?_
  refine Zr_aload_n C dL_law_316 rfl ?_
  refine Zr_iload_n C dL_law_317 rfl ?_
  refine Zr_iconst C (nI 1) dL_law_318 rfl ?_
  refine Zr_iadd C dL_law_319 ?_
  refine Zr_topi (nI_add i 1) ?_
  refine Zr_sld C hX hbl hbA (show i + 1 < L by omega) hL dL_law_320 ?_
  refine Zr_aload_n C dL_law_321 rfl ?_
  refine Zr_iload_n C dL_law_322 rfl ?_
  refine Zr_iconst C (nI 2) dL_law_323 rfl ?_
  refine Zr_iadd C dL_law_324 ?_
  refine Zr_topi (nI_add i 2) ?_
  refine Zr_sld C hX hbl hbA (show i + 2 < L by omega) hL dL_law_325 ?_
  refine Zx_r C (st := [.int V]) [.int (xs (i + 1)), .int (xs (i + 2))] cw_L_57 hM2 hp2 rfl (Nat.le_of_ble_eq_true rfl) (Nat.le_of_ble_eq_true rfl) rfl (Nat.le_of_ble_eq_true rfl) dL_law_326 ⟨by show 400 + aLam σ1 + 0 ≤ 600000; omega, by show 200000 + 2 * aLam σ1 + 0 ≤ 7302250; omega⟩ (fun T1 hT1 => ?_)
  refine Zr_icmp_eq C 548 dL_law_329 (by decide) (fun _ => ?_) (fun h => absurd rfl h)
  exact tail σ1 ca1 S1 T1 h1 hS1 hT1
set_option maxHeartbeats 1000000 in
theorem lc_run (C : zX p s m args meth c RL cL_law 4 ret0 D K A) (hX : va_X b L xs s s.heap) (hbl : b < s.heap.size) (hbA : ¬ A b) (hL : L < 2 ^ 31) (hi : i + 5 ≤ L) (h : aI n n σ) (hS : cRel n σ S) (hT : rRel σ T) (tail : ∀ (σ1 : aS) (ca1 : Nat → Nat) (S1 T1 : zSt), aI n n σ1 → cRel n σ1 S1 → rRel σ1 T1 → Z p l e room_1 s m args below meth c D A 4 Q (xIL n) (400 + aLam σ1) (200000 + 2 * aLam σ1) (xSh K n (cpo n σ1.2.2)) (xA (zA ad ca1) ar) (xS S1 T1) 548 [some (.ref b), some (.ref (ad (0, 0))), some (.ref (ar (0, 0))), some (.int (nI i))] []) : Z p l e room_1 s m args below meth c D A 4 Q (xIL n) (400 + aLam σ) (200000 + 2 * aLam σ) (xSh K n (cpo n σ.2.2)) (xA (zA ad ca) ar) (xS S T) 334 [some (.ref b), some (.ref (ad (0, 0))), some (.ref (ar (0, 0))), some (.int (nI i))] [] := by
  obtain ⟨V, σ1, h1, hm, hc, hr⟩ := x_run (l := l) (D := D) (K := K) (x := xs (i + 1)) (y := xs (i + 2)) h
  obtain ⟨po1, hM1, hp1⟩ := hc ad ca S hS
  obtain ⟨po2, hM2, hp2⟩ := hr ar T hT
  have hlm := h1.lam
  refine Zr_aload_n C dL_law_334 rfl ?_
  refine Zr_aload_n C dL_law_335 rfl ?_
  refine Zr_iload_n C dL_law_336 rfl ?_
  refine Zr_iconst C (nI 1) dL_law_337 rfl ?_
  refine Zr_iadd C dL_law_338 ?_
  refine Zr_topi (nI_add i 1) ?_
  refine Zr_sld C hX hbl hbA (show i + 1 < L by omega) hL dL_law_339 ?_
  refine Zr_aload_n C dL_law_340 rfl ?_
  refine Zr_iload_n C dL_law_341 rfl ?_
  refine Zr_iconst C (nI 2) dL_law_342 rfl ?_
  refine Zr_iadd C dL_law_343 ?_
  refine Zr_topi (nI_add i 2) ?_
  refine Zr_sld C hX hbl hbA (show i + 2 < L by omega) hL dL_law_344 ?_
  refine Zx_c C (st := []) [.int (xs (i + 1)), .int (xs (i + 2))] cw_L_58 hM1 hp1 rfl (Nat.le_of_ble_eq_true rfl) (Nat.le_of_ble_eq_true rfl) rfl (Nat.zero_le _) dL_law_345 ⟨by show 400 + aLam σ + (aLam σ1 - aLam σ) ≤ 600000; omega, by show 200000 + 2 * aLam σ + 2 * (aLam σ1 - aLam σ) ≤ 7302250; omega⟩ (fun ca1 S1 hS1 => ?_)
  refine Zr_cs (cells' := 400 + aLam σ1) (slots' := 200000 + 2 * aLam σ1) (by show 400 + aLam σ + (aLam σ1 - aLam σ) = _; omega) (by show 200000 + 2 * aLam σ + 2 * (aLam σ1 - aLam σ) = _; omega) ?_
  refine Zr_aload_n C dL_law_348 rfl ?_
  refine Zr_aload_n C dL_law_349 rfl ?_
  refine Zr_iload_n C dL_law_350 rfl ?_
  refine Zr_iconst C (nI 1) dL_law_351 rfl ?_
  refine Zr_iadd C dL_law_352 ?_
  refine Zr_topi (nI_add i 1) ?_
  refine Zr_sld C hX hbl hbA (show i + 1 < L by omega) hL dL_law_353 ?_
  refine Zr_aload_n C dL_law_354 rfl ?_
  refine Zr_iload_n C dL_law_355 rfl ?_
  refine Zr_iconst C (nI 2) dL_law_356 rfl ?_
  refine Zr_iadd C dL_law_357 ?_
  refine Zr_topi (nI_add i 2) ?_
  refine Zr_sld C hX hbl hbA (show i + 2 < L by omega) hL dL_law_358 ?_
  refine Zx_r C (st := [.int V]) [.int (xs (i + 1)), .int (xs (i + 2))] cw_L_61 hM2 hp2 rfl (Nat.le_of_ble_eq_true rfl) (Nat.le_of_ble_eq_true rfl) rfl (Nat.le_of_ble_eq_true rfl) dL_law_359 ⟨by show 400 + aLam σ1 + 0 ≤ 600000; omega, by show 200000 + 2 * aLam σ1 + 0 ≤ 7302250; omega⟩ (fun T1 hT1 => ?_)
  refine Zr_icmp_eq C 548 dL_law_362 (by decide) (fun _ => ?_) (fun h => absurd rfl h)
  exact tail σ1 ca1 S1 T1 h1 hS1 hT1
set_option maxHeartbeats 1000000 in
theorem lc_told (C : zX p s m args meth c RL cL_law 4 ret0 D K A) (hX : va_X b L xs s s.heap) (hbl : b < s.heap.size) (hbA : ¬ A b) (hL : L < 2 ^ 31) (hi : i + 5 ≤ L) (h : aI n n σ) (hS : cRel n σ S) (hT : rRel σ T) (tail : ∀ (σ1 : aS) (ca1 : Nat → Nat) (S1 T1 : zSt), aI n n σ1 → cRel n σ1 S1 → rRel σ1 T1 → Z p l e room_1 s m args below meth c D A 4 Q (xIL n) (400 + aLam σ1) (200000 + 2 * aLam σ1) (xSh K n (cpo n σ1.2.2)) (xA (zA ad ca1) ar) (xS S1 T1) 548 [some (.ref b), some (.ref (ad (0, 0))), some (.ref (ar (0, 0))), some (.int (nI i))] []) : Z p l e room_1 s m args below meth c D A 4 Q (xIL n) (400 + aLam σ) (200000 + 2 * aLam σ) (xSh K n (cpo n σ.2.2)) (xA (zA ad ca) ar) (xS S T) 367 [some (.ref b), some (.ref (ad (0, 0))), some (.ref (ar (0, 0))), some (.int (nI i))] [] := by
  obtain ⟨V, σ1, h1, hm, hc, hr⟩ := x_told (l := l) (D := D) (K := K) (x := xs (i + 1)) (y := xs (i + 2)) h
  obtain ⟨po1, hM1, hp1⟩ := hc ad ca S hS
  obtain ⟨po2, hM2, hp2⟩ := hr ar T hT
  have hlm := h1.lam
  refine Zr_aload_n C dL_law_367 rfl ?_
  refine Zr_aload_n C dL_law_368 rfl ?_
  refine Zr_iload_n C dL_law_369 rfl ?_
  refine Zr_iconst C (nI 1) dL_law_370 rfl ?_
  refine Zr_iadd C dL_law_371 ?_
  refine Zr_topi (nI_add i 1) ?_
  refine Zr_sld C hX hbl hbA (show i + 1 < L by omega) hL dL_law_372 ?_
  refine Zr_aload_n C dL_law_373 rfl ?_
  refine Zr_iload_n C dL_law_374 rfl ?_
  refine Zr_iconst C (nI 2) dL_law_375 rfl ?_
  refine Zr_iadd C dL_law_376 ?_
  refine Zr_topi (nI_add i 2) ?_
  refine Zr_sld C hX hbl hbA (show i + 2 < L by omega) hL dL_law_377 ?_
  refine Zx_c C (st := []) [.int (xs (i + 1)), .int (xs (i + 2))] cw_L_62 hM1 hp1 rfl (Nat.le_of_ble_eq_true rfl) (Nat.le_of_ble_eq_true rfl) rfl (Nat.zero_le _) dL_law_378 ⟨by show 400 + aLam σ + (aLam σ1 - aLam σ) ≤ 600000; omega, by show 200000 + 2 * aLam σ + 2 * (aLam σ1 - aLam σ) ≤ 7302250; omega⟩ (fun ca1 S1 hS1 => ?_)
  refine Zr_cs (cells' := 400 + aLam σ1) (slots' := 200000 + 2 * aLam σ1) (by show 400 + aLam σ + (aLam σ1 - aLam σ) = _; omega) (by show 200000 + 2 * aLam σ + 2 * (aLam σ1 - aLam σ) = _; omega) ?_
  refine Zr_aload_n C dL_law_381 rfl ?_
  refine Zr_aload_n C dL_law_382 rfl ?_
  refine Zr_iload_n C dL_law_383 rfl ?_
  refine Zr_iconst C (nI 1) dL_law_384 rfl ?_
  refine Zr_iadd C dL_law_385 ?_
  refine Zr_topi (nI_add i 1) ?_
  refine Zr_sld C hX hbl hbA (show i + 1 < L by omega) hL dL_law_386 ?_
  refine Zr_aload_n C dL_law_387 rfl ?_
  refine Zr_iload_n C dL_law_388 rfl ?_
  refine Zr_iconst C (nI 2) dL_law_389 rfl ?_
  refine Zr_iadd C dL_law_390 ?_
  refine Zr_topi (nI_add i 2) ?_
  refine Zr_sld C hX hbl hbA (show i + 2 < L by omega) hL dL_law_391 ?_
  refine Zx_r C (st := [.int V]) [.int (xs (i + 1)), .int (xs (i + 2))] cw_L_65 hM2 hp2 rfl (Nat.le_of_ble_eq_true rfl) (Nat.le_of_ble_eq_true rfl) rfl (Nat.le_of_ble_eq_true rfl) dL_law_392 ⟨by show 400 + aLam σ1 + 0 ≤ 600000; omega, by show 200000 + 2 * aLam σ1 + 0 ≤ 7302250; omega⟩ (fun T1 hT1 => ?_)
  refine Zr_icmp_eq C 548 dL_law_395 (by decide) (fun _ => ?_) (fun h => absurd rfl h)
  exact tail σ1 ca1 S1 T1 h1 hS1 hT1
set_option maxHeartbeats 1000000 in
theorem lc_waits (C : zX p s m args meth c RL cL_law 4 ret0 D K A) (hX : va_X b L xs s s.heap) (hbl : b < s.heap.size) (hbA : ¬ A b) (hL : L < 2 ^ 31) (hi : i + 5 ≤ L) (h : aI n n σ) (hS : cRel n σ S) (hT : rRel σ T) (tail : ∀ (σ1 : aS) (ca1 : Nat → Nat) (S1 T1 : zSt), aI n n σ1 → cRel n σ1 S1 → rRel σ1 T1 → Z p l e room_1 s m args below meth c D A 4 Q (xIL n) (400 + aLam σ1) (200000 + 2 * aLam σ1) (xSh K n (cpo n σ1.2.2)) (xA (zA ad ca1) ar) (xS S1 T1) 548 [some (.ref b), some (.ref (ad (0, 0))), some (.ref (ar (0, 0))), some (.int (nI i))] []) : Z p l e room_1 s m args below meth c D A 4 Q (xIL n) (400 + aLam σ) (200000 + 2 * aLam σ) (xSh K n (cpo n σ.2.2)) (xA (zA ad ca) ar) (xS S T) 400 [some (.ref b), some (.ref (ad (0, 0))), some (.ref (ar (0, 0))), some (.int (nI i))] [] := by
  obtain ⟨V, σ1, h1, hm, hc, hr⟩ := x_waits (l := l) (D := D) (K := K) (x := xs (i + 1)) (y := xs (i + 2)) h
  obtain ⟨po1, hM1, hp1⟩ := hc ad ca S hS
  obtain ⟨po2, hM2, hp2⟩ := hr ar T hT
  have hlm := h1.lam
  refine Zr_aload_n C dL_law_400 rfl ?_
  refine Zr_aload_n C dL_law_401 rfl ?_
  refine Zr_iload_n C dL_law_402 rfl ?_
  refine Zr_iconst C (nI 1) dL_law_403 rfl ?_
  refine Zr_iadd C dL_law_404 ?_
  refine Zr_topi (nI_add i 1) ?_
  refine Zr_sld C hX hbl hbA (show i + 1 < L by omega) hL dL_law_405 ?_
  refine Zr_aload_n C dL_law_406 rfl ?_
  refine Zr_iload_n C dL_law_407 rfl ?_
  refine Zr_iconst C (nI 2) dL_law_408 rfl ?_
  refine Zr_iadd C dL_law_409 ?_
  refine Zr_topi (nI_add i 2) ?_
  refine Zr_sld C hX hbl hbA (show i + 2 < L by omega) hL dL_law_410 ?_
  refine Zx_c C (st := []) [.int (xs (i + 1)), .int (xs (i + 2))] cw_L_66 hM1 hp1 rfl (Nat.le_of_ble_eq_true rfl) (Nat.le_of_ble_eq_true rfl) rfl (Nat.zero_le _) dL_law_411 ⟨by show 400 + aLam σ + (aLam σ1 - aLam σ) ≤ 600000; omega, by show 200000 + 2 * aLam σ + 2 * (aLam σ1 - aLam σ) ≤ 7302250; omega⟩ (fun ca1 S1 hS1 => ?_)
  refine Zr_cs (cells' := 400 + aLam σ1) (slots' := 200000 + 2 * aLam σ1) (by show 400 + aLam σ + (aLam σ1 - aLam σ) = _; omega) (by show 200000 + 2 * aLam σ + 2 * (aLam σ1 - aLam σ) = _; omega) ?_
  refine Zr_aload_n C dL_law_414 rfl ?_
  refine Zr_aload_n C dL_law_415 rfl ?_
  refine Zr_iload_n C dL_law_416 rfl ?_
  refine Zr_iconst C (nI 1) dL_law_417 rfl ?_
  refine Zr_iadd C dL_law_418 ?_
  refine Zr_topi (nI_add i 1) ?_
  refine Zr_sld C hX hbl hbA (show i + 1 < L by omega) hL dL_law_419 ?_
  refine Zr_aload_n C dL_law_420 rfl ?_
  refine Zr_iload_n C dL_law_421 rfl ?_
  refine Zr_iconst C (nI 2) dL_law_422 rfl ?_
  refine Zr_iadd C dL_law_423 ?_
  refine Zr_topi (nI_add i 2) ?_
  refine Zr_sld C hX hbl hbA (show i + 2 < L by omega) hL dL_law_424 ?_
  refine Zx_r C (st := [.int V]) [.int (xs (i + 1)), .int (xs (i + 2))] cw_L_69 hM2 hp2 rfl (Nat.le_of_ble_eq_true rfl) (Nat.le_of_ble_eq_true rfl) rfl (Nat.le_of_ble_eq_true rfl) dL_law_425 ⟨by show 400 + aLam σ1 + 0 ≤ 600000; omega, by show 200000 + 2 * aLam σ1 + 0 ≤ 7302250; omega⟩ (fun T1 hT1 => ?_)
  refine Zr_icmp_eq C 548 dL_law_428 (by decide) (fun _ => ?_) (fun h => absurd rfl h)
  exact tail σ1 ca1 S1 T1 h1 hS1 hT1
set_option maxHeartbeats 1000000 in
theorem lc_message (C : zX p s m args meth c RL cL_law 4 ret0 D K A) (hX : va_X b L xs s s.heap) (hbl : b < s.heap.size) (hbA : ¬ A b) (hL : L < 2 ^ 31) (hi : i + 5 ≤ L) (h : aI n n σ) (hS : cRel n σ S) (hT : rRel σ T) (tail : ∀ (σ1 : aS) (ca1 : Nat → Nat) (S1 T1 : zSt), aI n n σ1 → cRel n σ1 S1 → rRel σ1 T1 → Z p l e room_1 s m args below meth c D A 4 Q (xIL n) (400 + aLam σ1) (200000 + 2 * aLam σ1) (xSh K n (cpo n σ1.2.2)) (xA (zA ad ca1) ar) (xS S1 T1) 548 [some (.ref b), some (.ref (ad (0, 0))), some (.ref (ar (0, 0))), some (.int (nI i))] []) : Z p l e room_1 s m args below meth c D A 4 Q (xIL n) (400 + aLam σ) (200000 + 2 * aLam σ) (xSh K n (cpo n σ.2.2)) (xA (zA ad ca) ar) (xS S T) 433 [some (.ref b), some (.ref (ad (0, 0))), some (.ref (ar (0, 0))), some (.int (nI i))] [] := by
  obtain ⟨V, σ1, h1, hm, hc, hr⟩ := x_message (l := l) (D := D) (K := K) (x := xs (i + 1)) (y := xs (i + 2)) (z := xs (i + 3)) (w := xs (i + 4)) h
  obtain ⟨po1, hM1, hp1⟩ := hc ad ca S hS
  obtain ⟨po2, hM2, hp2⟩ := hr ar T hT
  have hlm := h1.lam
  refine Zr_aload_n C dL_law_433 rfl ?_
  refine Zr_aload_n C dL_law_434 rfl ?_
  refine Zr_iload_n C dL_law_435 rfl ?_
  refine Zr_iconst C (nI 1) dL_law_436 rfl ?_
  refine Zr_iadd C dL_law_437 ?_
  refine Zr_topi (nI_add i 1) ?_
  refine Zr_sld C hX hbl hbA (show i + 1 < L by omega) hL dL_law_438 ?_
  refine Zr_aload_n C dL_law_439 rfl ?_
  refine Zr_iload_n C dL_law_440 rfl ?_
  refine Zr_iconst C (nI 2) dL_law_441 rfl ?_
  refine Zr_iadd C dL_law_442 ?_
  refine Zr_topi (nI_add i 2) ?_
  refine Zr_sld C hX hbl hbA (show i + 2 < L by omega) hL dL_law_443 ?_
  refine Zr_aload_n C dL_law_444 rfl ?_
  refine Zr_iload_n C dL_law_445 rfl ?_
  refine Zr_iconst C (nI 3) dL_law_446 rfl ?_
  refine Zr_iadd C dL_law_447 ?_
  refine Zr_topi (nI_add i 3) ?_
  refine Zr_sld C hX hbl hbA (show i + 3 < L by omega) hL dL_law_448 ?_
  refine Zr_aload_n C dL_law_449 rfl ?_
  refine Zr_iload_n C dL_law_450 rfl ?_
  refine Zr_iconst C (nI 4) dL_law_451 rfl ?_
  refine Zr_iadd C dL_law_452 ?_
  refine Zr_topi (nI_add i 4) ?_
  refine Zr_sld C hX hbl hbA (show i + 4 < L by omega) hL dL_law_453 ?_
  refine Zx_c C (st := []) [.int (xs (i + 1)), .int (xs (i + 2)), .int (xs (i + 3)), .int (xs (i + 4))] cw_L_70 hM1 hp1 rfl (Nat.le_of_ble_eq_true rfl) (Nat.le_of_ble_eq_true rfl) rfl (Nat.zero_le _) dL_law_454 ⟨by show 400 + aLam σ + (aLam σ1 - aLam σ) ≤ 600000; omega, by show 200000 + 2 * aLam σ + 2 * (aLam σ1 - aLam σ) ≤ 7302250; omega⟩ (fun ca1 S1 hS1 => ?_)
  refine Zr_cs (cells' := 400 + aLam σ1) (slots' := 200000 + 2 * aLam σ1) (by show 400 + aLam σ + (aLam σ1 - aLam σ) = _; omega) (by show 200000 + 2 * aLam σ + 2 * (aLam σ1 - aLam σ) = _; omega) ?_
  refine Zr_aload_n C dL_law_457 rfl ?_
  refine Zr_aload_n C dL_law_458 rfl ?_
  refine Zr_iload_n C dL_law_459 rfl ?_
  refine Zr_iconst C (nI 1) dL_law_460 rfl ?_
  refine Zr_iadd C dL_law_461 ?_
  refine Zr_topi (nI_add i 1) ?_
  refine Zr_sld C hX hbl hbA (show i + 1 < L by omega) hL dL_law_462 ?_
  refine Zr_aload_n C dL_law_463 rfl ?_
  refine Zr_iload_n C dL_law_464 rfl ?_
  refine Zr_iconst C (nI 2) dL_law_465 rfl ?_
  refine Zr_iadd C dL_law_466 ?_
  refine Zr_topi (nI_add i 2) ?_
  refine Zr_sld C hX hbl hbA (show i + 2 < L by omega) hL dL_law_467 ?_
  refine Zr_aload_n C dL_law_468 rfl ?_
  refine Zr_iload_n C dL_law_469 rfl ?_
  refine Zr_iconst C (nI 3) dL_law_470 rfl ?_
  refine Zr_iadd C dL_law_471 ?_
  refine Zr_topi (nI_add i 3) ?_
  refine Zr_sld C hX hbl hbA (show i + 3 < L by omega) hL dL_law_472 ?_
  refine Zr_aload_n C dL_law_473 rfl ?_
  refine Zr_iload_n C dL_law_474 rfl ?_
  refine Zr_iconst C (nI 4) dL_law_475 rfl ?_
  refine Zr_iadd C dL_law_476 ?_
  refine Zr_topi (nI_add i 4) ?_
  refine Zr_sld C hX hbl hbA (show i + 4 < L by omega) hL dL_law_477 ?_
  refine Zx_r C (st := [.int V]) [.int (xs (i + 1)), .int (xs (i + 2)), .int (xs (i + 3)), .int (xs (i + 4))] cw_L_74 hM2 hp2 rfl (Nat.le_of_ble_eq_true rfl) (Nat.le_of_ble_eq_true rfl) rfl (Nat.le_of_ble_eq_true rfl) dL_law_478 ⟨by show 400 + aLam σ1 + 0 ≤ 600000; omega, by show 200000 + 2 * aLam σ1 + 0 ≤ 7302250; omega⟩ (fun T1 hT1 => ?_)
  refine Zr_icmp_eq C 548 dL_law_481 (by decide) (fun _ => ?_) (fun h => absurd rfl h)
  exact tail σ1 ca1 S1 T1 h1 hS1 hT1
set_option maxHeartbeats 1000000 in
theorem lc_quiet (C : zX p s m args meth c RL cL_law 4 ret0 D K A) (hX : va_X b L xs s s.heap) (hbl : b < s.heap.size) (hbA : ¬ A b) (hL : L < 2 ^ 31) (hi : i + 5 ≤ L) (h : aI n n σ) (hS : cRel n σ S) (hT : rRel σ T) (tail : ∀ (σ1 : aS) (ca1 : Nat → Nat) (S1 T1 : zSt), aI n n σ1 → cRel n σ1 S1 → rRel σ1 T1 → Z p l e room_1 s m args below meth c D A 4 Q (xIL n) (400 + aLam σ1) (200000 + 2 * aLam σ1) (xSh K n (cpo n σ1.2.2)) (xA (zA ad ca1) ar) (xS S1 T1) 548 [some (.ref b), some (.ref (ad (0, 0))), some (.ref (ar (0, 0))), some (.int (nI i))] []) : Z p l e room_1 s m args below meth c D A 4 Q (xIL n) (400 + aLam σ) (200000 + 2 * aLam σ) (xSh K n (cpo n σ.2.2)) (xA (zA ad ca) ar) (xS S T) 486 [some (.ref b), some (.ref (ad (0, 0))), some (.ref (ar (0, 0))), some (.int (nI i))] [] := by
  obtain ⟨V, σ1, h1, hm, hc, hr⟩ := x_quiet (l := l) (D := D) (K := K) h
  obtain ⟨po1, hM1, hp1⟩ := hc ad ca S hS
  obtain ⟨po2, hM2, hp2⟩ := hr ar T hT
  have hlm := h1.lam
  refine Zr_aload_n C dL_law_486 rfl ?_
  refine Zx_c C (st := []) [] cw_L_75 hM1 hp1 rfl (Nat.le_of_ble_eq_true rfl) (Nat.le_of_ble_eq_true rfl) rfl (Nat.zero_le _) dL_law_487 ⟨by show 400 + aLam σ + (aLam σ1 - aLam σ) ≤ 600000; omega, by show 200000 + 2 * aLam σ + 2 * (aLam σ1 - aLam σ) ≤ 7302250; omega⟩ (fun ca1 S1 hS1 => ?_)
  refine Zr_cs (cells' := 400 + aLam σ1) (slots' := 200000 + 2 * aLam σ1) (by show 400 + aLam σ + (aLam σ1 - aLam σ) = _; omega) (by show 200000 + 2 * aLam σ + 2 * (aLam σ1 - aLam σ) = _; omega) ?_
  refine Zr_aload_n C dL_law_490 rfl ?_
  refine Zx_r C (st := [.int V]) [] cw_L_78 hM2 hp2 rfl (Nat.le_of_ble_eq_true rfl) (Nat.le_of_ble_eq_true rfl) rfl (Nat.le_of_ble_eq_true rfl) dL_law_491 ⟨by show 400 + aLam σ1 + 0 ≤ 600000; omega, by show 200000 + 2 * aLam σ1 + 0 ≤ 7302250; omega⟩ (fun T1 hT1 => ?_)
  refine Zr_icmp_eq C 548 dL_law_494 (by decide) (fun _ => ?_) (fun h => absurd rfl h)
  exact tail σ1 ca1 S1 T1 h1 hS1 hT1
set_option maxHeartbeats 1000000 in
theorem lc_wrong (C : zX p s m args meth c RL cL_law 4 ret0 D K A) (hX : va_X b L xs s s.heap) (hbl : b < s.heap.size) (hbA : ¬ A b) (hL : L < 2 ^ 31) (hi : i + 5 ≤ L) (h : aI n n σ) (hS : cRel n σ S) (hT : rRel σ T) (tail : ∀ (σ1 : aS) (ca1 : Nat → Nat) (S1 T1 : zSt), aI n n σ1 → cRel n σ1 S1 → rRel σ1 T1 → Z p l e room_1 s m args below meth c D A 4 Q (xIL n) (400 + aLam σ1) (200000 + 2 * aLam σ1) (xSh K n (cpo n σ1.2.2)) (xA (zA ad ca1) ar) (xS S1 T1) 548 [some (.ref b), some (.ref (ad (0, 0))), some (.ref (ar (0, 0))), some (.int (nI i))] []) : Z p l e room_1 s m args below meth c D A 4 Q (xIL n) (400 + aLam σ) (200000 + 2 * aLam σ) (xSh K n (cpo n σ.2.2)) (xA (zA ad ca) ar) (xS S T) 499 [some (.ref b), some (.ref (ad (0, 0))), some (.ref (ar (0, 0))), some (.int (nI i))] [] := by
  obtain ⟨V, σ1, h1, hm, hc, hr⟩ := x_wrong (l := l) (D := D) (K := K) h
  obtain ⟨po1, hM1, hp1⟩ := hc ad ca S hS
  obtain ⟨po2, hM2, hp2⟩ := hr ar T hT
  have hlm := h1.lam
  refine Zr_aload_n C dL_law_499 rfl ?_
  refine Zx_c C (st := []) [] cw_L_79 hM1 hp1 rfl (Nat.le_of_ble_eq_true rfl) (Nat.le_of_ble_eq_true rfl) rfl (Nat.zero_le _) dL_law_500 ⟨by show 400 + aLam σ + (aLam σ1 - aLam σ) ≤ 600000; omega, by show 200000 + 2 * aLam σ + 2 * (aLam σ1 - aLam σ) ≤ 7302250; omega⟩ (fun ca1 S1 hS1 => ?_)
  refine Zr_cs (cells' := 400 + aLam σ1) (slots' := 200000 + 2 * aLam σ1) (by show 400 + aLam σ + (aLam σ1 - aLam σ) = _; omega) (by show 200000 + 2 * aLam σ + 2 * (aLam σ1 - aLam σ) = _; omega) ?_
  refine Zr_aload_n C dL_law_503 rfl ?_
  refine Zx_r C (st := [.int V]) [] cw_L_83 hM2 hp2 rfl (Nat.le_of_ble_eq_true rfl) (Nat.le_of_ble_eq_true rfl) rfl (Nat.le_of_ble_eq_true rfl) dL_law_504 ⟨by show 400 + aLam σ1 + 0 ≤ 600000; omega, by show 200000 + 2 * aLam σ1 + 0 ≤ 7302250; omega⟩ (fun T1 hT1 => ?_)
  refine Zr_icmp_eq C 548 dL_law_507 (by decide) (fun _ => ?_) (fun h => absurd rfl h)
  exact tail σ1 ca1 S1 T1 h1 hS1 hT1
set_option maxHeartbeats 1000000 in
theorem lc_falsely (C : zX p s m args meth c RL cL_law 4 ret0 D K A) (hX : va_X b L xs s s.heap) (hbl : b < s.heap.size) (hbA : ¬ A b) (hL : L < 2 ^ 31) (hi : i + 5 ≤ L) (h : aI n n σ) (hS : cRel n σ S) (hT : rRel σ T) (tail : ∀ (σ1 : aS) (ca1 : Nat → Nat) (S1 T1 : zSt), aI n n σ1 → cRel n σ1 S1 → rRel σ1 T1 → Z p l e room_1 s m args below meth c D A 4 Q (xIL n) (400 + aLam σ1) (200000 + 2 * aLam σ1) (xSh K n (cpo n σ1.2.2)) (xA (zA ad ca1) ar) (xS S1 T1) 548 [some (.ref b), some (.ref (ad (0, 0))), some (.ref (ar (0, 0))), some (.int (nI i))] []) : Z p l e room_1 s m args below meth c D A 4 Q (xIL n) (400 + aLam σ) (200000 + 2 * aLam σ) (xSh K n (cpo n σ.2.2)) (xA (zA ad ca) ar) (xS S T) 512 [some (.ref b), some (.ref (ad (0, 0))), some (.ref (ar (0, 0))), some (.int (nI i))] [] := by
  obtain ⟨V, σ1, h1, hm, hc, hr⟩ := x_falsely (l := l) (D := D) (K := K) h
  obtain ⟨po1, hM1, hp1⟩ := hc ad ca S hS
  obtain ⟨po2, hM2, hp2⟩ := hr ar T hT
  have hlm := h1.lam
  refine Zr_aload_n C dL_law_512 rfl ?_
  refine Zx_c C (st := []) [] cw_L_84 hM1 hp1 rfl (Nat.le_of_ble_eq_true rfl) (Nat.le_of_ble_eq_true rfl) rfl (Nat.zero_le _) dL_law_513 ⟨by show 400 + aLam σ + (aLam σ1 - aLam σ) ≤ 600000; omega, by show 200000 + 2 * aLam σ + 2 * (aLam σ1 - aLam σ) ≤ 7302250; omega⟩ (fun ca1 S1 hS1 => ?_)
  refine Zr_cs (cells' := 400 + aLam σ1) (slots' := 200000 + 2 * aLam σ1) (by show 400 + aLam σ + (aLam σ1 - aLam σ) = _; omega) (by show 200000 + 2 * aLam σ + 2 * (aLam σ1 - aLam σ) = _; omega) ?_
  refine Zr_aload_n C dL_law_516 rfl ?_
  refine Zx_r C (st := [.int V]) [] cw_L_87 hM2 hp2 rfl (Nat.le_of_ble_eq_true rfl) (Nat.le_of_ble_eq_true rfl) rfl (Nat.le_of_ble_eq_true rfl) dL_law_517 ⟨by show 400 + aLam σ1 + 0 ≤ 600000; omega, by show 200000 + 2 * aLam σ1 + 0 ≤ 7302250; omega⟩ (fun T1 hT1 => ?_)
  refine Zr_icmp_eq C 548 dL_law_520 (by decide) (fun _ => ?_) (fun h => absurd rfl h)
  exact tail σ1 ca1 S1 T1 h1 hS1 hT1
set_option maxHeartbeats 1000000 in
theorem lc_count (C : zX p s m args meth c RL cL_law 4 ret0 D K A) (hX : va_X b L xs s s.heap) (hbl : b < s.heap.size) (hbA : ¬ A b) (hL : L < 2 ^ 31) (hi : i + 5 ≤ L) (h : aI n n σ) (hS : cRel n σ S) (hT : rRel σ T) (tail : ∀ (σ1 : aS) (ca1 : Nat → Nat) (S1 T1 : zSt), aI n n σ1 → cRel n σ1 S1 → rRel σ1 T1 → Z p l e room_1 s m args below meth c D A 4 Q (xIL n) (400 + aLam σ1) (200000 + 2 * aLam σ1) (xSh K n (cpo n σ1.2.2)) (xA (zA ad ca1) ar) (xS S1 T1) 548 [some (.ref b), some (.ref (ad (0, 0))), some (.ref (ar (0, 0))), some (.int (nI i))] []) : Z p l e room_1 s m args below meth c D A 4 Q (xIL n) (400 + aLam σ) (200000 + 2 * aLam σ) (xSh K n (cpo n σ.2.2)) (xA (zA ad ca) ar) (xS S T) 525 [some (.ref b), some (.ref (ad (0, 0))), some (.ref (ar (0, 0))), some (.int (nI i))] [] := by
  obtain ⟨V, σ1, h1, hm, hc, hr⟩ := x_count (l := l) (D := D) (K := K) (x := xs (i + 1)) h
  obtain ⟨po1, hM1, hp1⟩ := hc ad ca S hS
  obtain ⟨po2, hM2, hp2⟩ := hr ar T hT
  have hlm := h1.lam
  refine Zr_aload_n C dL_law_525 rfl ?_
  refine Zr_aload_n C dL_law_526 rfl ?_
  refine Zr_iload_n C dL_law_527 rfl ?_
  refine Zr_iconst C (nI 1) dL_law_528 rfl ?_
  refine Zr_iadd C dL_law_529 ?_
  refine Zr_topi (nI_add i 1) ?_
  refine Zr_sld C hX hbl hbA (show i + 1 < L by omega) hL dL_law_530 ?_
  refine Zx_c C (st := []) [.int (xs (i + 1))] cw_L_88 hM1 hp1 rfl (Nat.le_of_ble_eq_true rfl) (Nat.le_of_ble_eq_true rfl) rfl (Nat.zero_le _) dL_law_531 ⟨by show 400 + aLam σ + (aLam σ1 - aLam σ) ≤ 600000; omega, by show 200000 + 2 * aLam σ + 2 * (aLam σ1 - aLam σ) ≤ 7302250; omega⟩ (fun ca1 S1 hS1 => ?_)
  refine Zr_cs (cells' := 400 + aLam σ1) (slots' := 200000 + 2 * aLam σ1) (by show 400 + aLam σ + (aLam σ1 - aLam σ) = _; omega) (by show 200000 + 2 * aLam σ + 2 * (aLam σ1 - aLam σ) = _; omega) ?_
  refine Zr_aload_n C dL_law_534 rfl ?_
  refine Zr_aload_n C dL_law_535 rfl ?_
  refine Zr_iload_n C dL_law_536 rfl ?_
  refine Zr_iconst C (nI 1) dL_law_537 rfl ?_
  refine Zr_iadd C dL_law_538 ?_
  refine Zr_topi (nI_add i 1) ?_
  refine Zr_sld C hX hbl hbA (show i + 1 < L by omega) hL dL_law_539 ?_
  refine Zx_r C (st := [.int V]) [.int (xs (i + 1))] cw_L_91 hM2 hp2 rfl (Nat.le_of_ble_eq_true rfl) (Nat.le_of_ble_eq_true rfl) rfl (Nat.le_of_ble_eq_true rfl) dL_law_540 ⟨by show 400 + aLam σ1 + 0 ≤ 600000; omega, by show 200000 + 2 * aLam σ1 + 0 ≤ 7302250; omega⟩ (fun T1 hT1 => ?_)
  refine Zr_icmp_eq C 548 dL_law_543 (by decide) (fun _ => ?_) (fun h => absurd rfl h)
  exact tail σ1 ca1 S1 T1 h1 hS1 hT1
end LW
