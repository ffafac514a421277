section ZAA
variable {p : Program} {l : Launch} {e : Env} {R : Room} {s : State} {m : MethodId} {args : Array Value} {below : List Frame} {meth : Method} {c : Code} {Q : State → Prop} {cells slots : Nat}
variable {own : String} {cc : ByteArray} {nL : Nat} {ret : Option FieldType} {D : va_G} {K : zKs} {A : Nat → Prop} {IL : List zI} {sh : zSh} {ad : zAd} {S : zSt} {pc : Nat} {lv : List (Option Value)} {st : List Value}
theorem Zr_aaldS (C : zX p s m args meth c own cc nL ret D K A) {a b n x0 i : Nat} {cA : ClassId} {Cn : String} {f : Nat → Option zI} {j : zI} (t0 : Nat) (hm : (a, b) ∈ IL) (hx0 : x0 = ad (a, b)) (hs : sh (a, b) = .inr (cA, n, some f)) (ht : (ztys K)[t0]? = some (cA, .object Cn)) (hi : i < n) (hn : n < 2 ^ 31) (hf : f i = some j) (hd : decode cc pc = .ok (.aaload, 1)) (k : Z p l e R s m args below meth c D A nL Q IL cells slots sh ad S (pc + 1) lv (.ref (ad j) :: st)) : Z p l e R s m args below meth c D A nL Q IL cells slots sh ad S pc lv (.int (nI i) :: .ref x0 :: st) := by
  refine Zr_aald C t0 hm hx0 hs ht (vp_in_nI hi hn) hd ?_
  rw [nI_clamp (Nat.lt_trans hi hn), hf]
  exact k
theorem Zr_aaldZ (C : zX p s m args meth c own cc nL ret D K A) {a b n x0 i : Nat} {cA : ClassId} {Cn : String} {f : Nat → Option zI} (t0 : Nat) (hm : (a, b) ∈ IL) (hx0 : x0 = ad (a, b)) (hs : sh (a, b) = .inr (cA, n, some f)) (ht : (ztys K)[t0]? = some (cA, .object Cn)) (hi : i < n) (hn : n < 2 ^ 31) (hf : f i = none) (hd : decode cc pc = .ok (.aaload, 1)) (k : Z p l e R s m args below meth c D A nL Q IL cells slots sh ad S (pc + 1) lv (.null :: st)) : Z p l e R s m args below meth c D A nL Q IL cells slots sh ad S pc lv (.int (nI i) :: .ref x0 :: st) := by
  refine Zr_aald C t0 hm hx0 hs ht (vp_in_nI hi hn) hd ?_
  rw [nI_clamp (Nat.lt_trans hi hn), hf]
  exact k
end ZAA
theorem cDiv {n i j : Nat} (hj : j < n) : (i * n + j) / n = i ∧ (i * n + j) % n = j := by
  have h0 : 0 < n := by omega
  exact ⟨by rw [Nat.mul_comm, Nat.mul_add_div h0, Nat.div_eq_of_lt hj, Nat.add_zero], by rw [Nat.mul_comm, Nat.mul_add_mod, Nat.mod_eq_of_lt hj]⟩
theorem cLt {n i j : Nat} (hi : i < n) (hj : j < n) : i * n + j < n * n := by
  calc i * n + j < i * n + n := by omega
    _ = (i + 1) * n := by rw [Nat.succ_mul]
    _ ≤ n * n := Nat.mul_le_mul_right n hi
set_option maxHeartbeats 1000000 in
set_option maxRecDepth 100000 in
theorem k_X3_isProcess_t {l : Launch} {D : va_G} {K : zKs} {n : Nat} {ad : zAd} {ca : Nat → Nat} {S : zSt} {σ : aS} (hB : aB n σ) (hR : cRel n σ S) {i : Nat} (hi : i < n) : zMet l yX3_isProcess cX3_isProcess 2 (some .boolean) { frames := 0, cells := 0, slots := 0, locals := 0 } D K (cIL n) (cSh K n (cpo n σ.2.2)) (zA ad ca) S [.ref (zA ad ca (0, 0)), .int (nI i)] (zEq (some (.int 1)) (cSh K n (cpo n σ.2.2)) (zA ad ca) (S)) := by
  refine zEnter (own := RX3) (lv0 := [some (.ref (zA ad ca (0, 0))), some (.int (nI i))]) (by decide) rfl (by simp [Value.category]) (Nat.le_of_ble_eq_true rfl) rfl ?_
  intro p e s m below meth c A C _ hnm
  have hn := hB.2.2.1
  refine Zr_iload_n C dX3_isProcess_0 rfl ?_
  refine Zr_if_lt C 16 dX3_isProcess_1 (by decide) (fun h1 => absurd h1 (nI_pos (by omega))) (fun h1 => ?_)
  refine Zr_iload_n C dX3_isProcess_4 rfl ?_
  refine Zr_aload_n C dX3_isProcess_5 rfl ?_
  refine Zr_getE C gf_X3_18 cm0 rfl rfl rfl hR.1.1 dX3_isProcess_6 ?_
  refine Zr_icmp_ge C 16 dX3_isProcess_9 (by decide) (fun h9 => absurd h9 (by rw [hB.1]; exact nI_ge hi (by omega))) (fun h9 => ?_)
  refine Zr_iconst C (1) dX3_isProcess_12 rfl ?_
  refine Zr_goto C 17 dX3_isProcess_13 (by decide) ?_
  exact Zr_zret C dX3_isProcess_17 (Nat.zero_le _) (Nat.zero_le _) (by first | exact Or.inl rfl | exact Or.inr rfl | assumption) ⟨rfl, rfl, rfl, rfl⟩
set_option maxHeartbeats 1000000 in
set_option maxRecDepth 100000 in
theorem k_X3_isProcess_f {l : Launch} {D : va_G} {K : zKs} {n : Nat} {ad : zAd} {ca : Nat → Nat} {S : zSt} {σ : aS} (hB : aB n σ) (hR : cRel n σ S) {x : Int32} (hx : aBad n x) : zMet l yX3_isProcess cX3_isProcess 2 (some .boolean) { frames := 0, cells := 0, slots := 0, locals := 0 } D K (cIL n) (cSh K n (cpo n σ.2.2)) (zA ad ca) S [.ref (zA ad ca (0, 0)), .int x] (zEq (some (.int 0)) (cSh K n (cpo n σ.2.2)) (zA ad ca) (S)) := by
  refine zEnter (own := RX3) (lv0 := [some (.ref (zA ad ca (0, 0))), some (.int x)]) (by decide) rfl (by simp [Value.category]) (Nat.le_of_ble_eq_true rfl) rfl ?_
  intro p e s m below meth c A C _ hnm
  refine Zr_iload_n C dX3_isProcess_0 rfl ?_
  refine Zr_if_lt C 16 dX3_isProcess_1 (by decide) (fun h1 => ?_) (fun h1 => ?_)
  · refine Zr_iconst C (0) dX3_isProcess_16 rfl ?_
    exact Zr_zret C dX3_isProcess_17 (Nat.zero_le _) (Nat.zero_le _) (by first | exact Or.inl rfl | exact Or.inr rfl | assumption) ⟨rfl, rfl, rfl, rfl⟩
  · refine Zr_iload_n C dX3_isProcess_4 rfl ?_
    refine Zr_aload_n C dX3_isProcess_5 rfl ?_
    refine Zr_getE C gf_X3_18 cm0 rfl rfl rfl hR.1.1 dX3_isProcess_6 ?_
    refine Zr_icmp_ge C 16 dX3_isProcess_9 (by decide) (fun h9 => ?_) (fun h9 => absurd (hx.resolve_left h1) (by rw [← hB.1]; exact h9))
    refine Zr_iconst C (0) dX3_isProcess_16 rfl ?_
    exact Zr_zret C dX3_isProcess_17 (Nat.zero_le _) (Nat.zero_le _) (by first | exact Or.inl rfl | exact Or.inr rfl | assumption) ⟨rfl, rfl, rfl, rfl⟩
set_option maxHeartbeats 1000000 in
set_option maxRecDepth 100000 in
theorem k_X3_workerAt_t {l : Launch} {D : va_G} {K : zKs} {n : Nat} {ad : zAd} {ca : Nat → Nat} {S : zSt} {σ : aS} (hB : aB n σ) (hR : cRel n σ S) {i : Nat} (hi : i < n) : zMet l yX3_workerAt cX3_workerAt 2 (some (.object "QuietWatch$Worker")) { frames := 1, cells := 0, slots := 0, locals := 21 } D K (cIL n) (cSh K n (cpo n σ.2.2)) (zA ad ca) S [.ref (zA ad ca (0, 0)), .int (nI i)] (zEq (some (.ref (zA ad ca (4, i)))) (cSh K n (cpo n σ.2.2)) (zA ad ca) (S)) := by
  refine zEnter (own := RX3) (lv0 := [some (.ref (zA ad ca (0, 0))), some (.int (nI i))]) (by decide) rfl (by simp [Value.category]) (Nat.le_of_ble_eq_true rfl) rfl ?_
  intro p e s m below meth c A C _ hnm
  have hn := hB.2.2.1
  refine Zr_aload_n C dX3_workerAt_0 rfl ?_
  refine Zr_iload_n C dX3_workerAt_1 rfl ?_
  refine Zr_callV C cw_X3_230 (k_X3_isProcess_t hB hR hi) cm0 rfl rfl rfl (Nat.le_of_ble_eq_true rfl) (Nat.le_of_ble_eq_true rfl) rfl (Nat.le_of_ble_eq_true rfl) dX3_workerAt_2 ⟨Nat.zero_le _, Nat.zero_le _⟩ ?_
  refine Zr_if_eq C 17 dX3_workerAt_5 (by decide) (fun h5 => absurd h5 (by decide)) (fun h5 => ?_)
  refine Zr_aload_n C dX3_workerAt_8 rfl ?_
  refine Zr_getR C gf_X3_26 cm0 rfl rfl rfl (by simp) dX3_workerAt_9 ?_
  refine Zr_iload_n C dX3_workerAt_12 rfl ?_
  refine Zr_aaldS C 2 cm1 rfl rfl rfl hi (by omega) rfl dX3_workerAt_13 ?_
  refine Zr_goto C 18 dX3_workerAt_14 (by decide) ?_
  exact Zr_aret C (Or.inl ⟨_, rfl⟩) (Or.inr ⟨_, rfl⟩) dX3_workerAt_18 (Nat.zero_le _) (Nat.zero_le _) ⟨rfl, rfl, rfl, rfl⟩
set_option maxHeartbeats 1000000 in
set_option maxRecDepth 100000 in
theorem k_X3_workerAt_f {l : Launch} {D : va_G} {K : zKs} {n : Nat} {ad : zAd} {ca : Nat → Nat} {S : zSt} {σ : aS} (hB : aB n σ) (hR : cRel n σ S) {x : Int32} (hx : aBad n x) : zMet l yX3_workerAt cX3_workerAt 2 (some (.object "QuietWatch$Worker")) { frames := 1, cells := 0, slots := 0, locals := 21 } D K (cIL n) (cSh K n (cpo n σ.2.2)) (zA ad ca) S [.ref (zA ad ca (0, 0)), .int x] (zEq (some (.null)) (cSh K n (cpo n σ.2.2)) (zA ad ca) (S)) := by
  refine zEnter (own := RX3) (lv0 := [some (.ref (zA ad ca (0, 0))), some (.int x)]) (by decide) rfl (by simp [Value.category]) (Nat.le_of_ble_eq_true rfl) rfl ?_
  intro p e s m below meth c A C _ hnm
  refine Zr_aload_n C dX3_workerAt_0 rfl ?_
  refine Zr_iload_n C dX3_workerAt_1 rfl ?_
  refine Zr_callV C cw_X3_230 (k_X3_isProcess_f hB hR hx) cm0 rfl rfl rfl (Nat.le_of_ble_eq_true rfl) (Nat.le_of_ble_eq_true rfl) rfl (Nat.le_of_ble_eq_true rfl) dX3_workerAt_2 ⟨Nat.zero_le _, Nat.zero_le _⟩ ?_
  refine Zr_if_eq C 17 dX3_workerAt_5 (by decide) (fun h5 => ?_) (fun h5 => absurd rfl h5)
  refine Zr_null C dX3_workerAt_17 ?_
  exact Zr_aret C (Or.inl ⟨_, rfl⟩) (Or.inl rfl) dX3_workerAt_18 (Nat.zero_le _) (Nat.zero_le _) ⟨rfl, rfl, rfl, rfl⟩
set_option maxHeartbeats 1000000 in
set_option maxRecDepth 100000 in
theorem k_X3_rowBetween_t {l : Launch} {D : va_G} {K : zKs} {n : Nat} {ad : zAd} {ca : Nat → Nat} {S : zSt} {σ : aS} (hB : aB n σ) (hR : cRel n σ S) {i j : Nat} (hi : i < n) (hj : j < n) (hij : i ≠ j) : zMet l yX3_rowBetween cX3_rowBetween 3 (some (.object "QuietWatch$Row")) { frames := 1, cells := 0, slots := 0, locals := 21 } D K (cIL n) (cSh K n (cpo n σ.2.2)) (zA ad ca) S [.ref (zA ad ca (0, 0)), .int (nI i), .int (nI j)] (zEq (some (.ref (zA ad ca (6, i * n + j)))) (cSh K n (cpo n σ.2.2)) (zA ad ca) (S)) := by
  refine zEnter (own := RX3) (lv0 := [some (.ref (zA ad ca (0, 0))), some (.int (nI i)), some (.int (nI j))]) (by decide) rfl (by simp [Value.category]) (Nat.le_of_ble_eq_true rfl) rfl ?_
  intro p e s m below meth c A C _ hnm
  have hn := hB.2.2.1
  have hr := cRow_of hi hj hij
  have hlt := cLt hi hj
  have hnn := nn_le hn
  refine Zr_aload_n C dX3_rowBetween_0 rfl ?_
  refine Zr_iload_n C dX3_rowBetween_1 rfl ?_
  refine Zr_callV C cw_X3_230 (k_X3_isProcess_t hB hR hi) cm0 rfl rfl rfl (Nat.le_of_ble_eq_true rfl) (Nat.le_of_ble_eq_true rfl) rfl (Nat.le_of_ble_eq_true rfl) dX3_rowBetween_2 ⟨Nat.zero_le _, Nat.zero_le _⟩ ?_
  refine Zr_if_eq C 32 dX3_rowBetween_5 (by decide) (fun h5 => absurd h5 (by decide)) (fun h5 => ?_)
  refine Zr_aload_n C dX3_rowBetween_8 rfl ?_
  refine Zr_iload_n C dX3_rowBetween_9 rfl ?_
  refine Zr_callV C cw_X3_230 (k_X3_isProcess_t hB hR hj) cm0 rfl rfl rfl (Nat.le_of_ble_eq_true rfl) (Nat.le_of_ble_eq_true rfl) rfl (Nat.le_of_ble_eq_true rfl) dX3_rowBetween_10 ⟨Nat.zero_le _, Nat.zero_le _⟩ ?_
  refine Zr_if_eq C 32 dX3_rowBetween_13 (by decide) (fun h13 => absurd h13 (by decide)) (fun h13 => ?_)
  refine Zr_aload_n C dX3_rowBetween_16 rfl ?_
  refine Zr_getR C gf_X3_34 cm0 rfl rfl rfl (by simp) dX3_rowBetween_17 ?_
  refine Zr_iload_n C dX3_rowBetween_20 rfl ?_
  refine Zr_aload_n C dX3_rowBetween_21 rfl ?_
  refine Zr_getE C gf_X3_18 cm0 rfl rfl rfl hR.1.1 dX3_rowBetween_22 ?_
  refine Zr_imul C dX3_rowBetween_25 ?_
  refine Zr_topi (y := nI (i * n)) (by rw [hB.1, pk_mul]) ?_
  refine Zr_iload_n C dX3_rowBetween_26 rfl ?_
  refine Zr_iadd C dX3_rowBetween_27 ?_
  refine Zr_topi (y := nI (i * n + j)) (nI_add _ _) ?_
  refine Zr_aaldS C 3 cm2 rfl rfl rfl hlt (by omega) (if_neg (by rw [(cDiv hj).1, (cDiv hj).2]; exact hij)) dX3_rowBetween_28 ?_
  refine Zr_goto C 33 dX3_rowBetween_29 (by decide) ?_
  exact Zr_aret C (Or.inl ⟨_, rfl⟩) (Or.inr ⟨_, rfl⟩) dX3_rowBetween_33 (Nat.zero_le _) (Nat.zero_le _) ⟨rfl, rfl, rfl, rfl⟩
set_option maxHeartbeats 1000000 in
set_option maxRecDepth 100000 in
theorem k_X3_rowBetween_d {l : Launch} {D : va_G} {K : zKs} {n : Nat} {ad : zAd} {ca : Nat → Nat} {S : zSt} {σ : aS} (hB : aB n σ) (hR : cRel n σ S) {i : Nat} (hi : i < n) : zMet l yX3_rowBetween cX3_rowBetween 3 (some (.object "QuietWatch$Row")) { frames := 1, cells := 0, slots := 0, locals := 21 } D K (cIL n) (cSh K n (cpo n σ.2.2)) (zA ad ca) S [.ref (zA ad ca (0, 0)), .int (nI i), .int (nI i)] (zEq (some (.null)) (cSh K n (cpo n σ.2.2)) (zA ad ca) (S)) := by
  refine zEnter (own := RX3) (lv0 := [some (.ref (zA ad ca (0, 0))), some (.int (nI i)), some (.int (nI i))]) (by decide) rfl (by simp [Value.category]) (Nat.le_of_ble_eq_true rfl) rfl ?_
  intro p e s m below meth c A C _ hnm
  have hn := hB.2.2.1
  have hlt := cLt hi hi
  have hnn := nn_le hn
  refine Zr_aload_n C dX3_rowBetween_0 rfl ?_
  refine Zr_iload_n C dX3_rowBetween_1 rfl ?_
  refine Zr_callV C cw_X3_230 (k_X3_isProcess_t hB hR hi) cm0 rfl rfl rfl (Nat.le_of_ble_eq_true rfl) (Nat.le_of_ble_eq_true rfl) rfl (Nat.le_of_ble_eq_true rfl) dX3_rowBetween_2 ⟨Nat.zero_le _, Nat.zero_le _⟩ ?_
  refine Zr_if_eq C 32 dX3_rowBetween_5 (by decide) (fun h5 => absurd h5 (by decide)) (fun h5 => ?_)
  refine Zr_aload_n C dX3_rowBetween_8 rfl ?_
  refine Zr_iload_n C dX3_rowBetween_9 rfl ?_
  refine Zr_callV C cw_X3_230 (k_X3_isProcess_t hB hR hi) cm0 rfl rfl rfl (Nat.le_of_ble_eq_true rfl) (Nat.le_of_ble_eq_true rfl) rfl (Nat.le_of_ble_eq_true rfl) dX3_rowBetween_10 ⟨Nat.zero_le _, Nat.zero_le _⟩ ?_
  refine Zr_if_eq C 32 dX3_rowBetween_13 (by decide) (fun h13 => absurd h13 (by decide)) (fun h13 => ?_)
  refine Zr_aload_n C dX3_rowBetween_16 rfl ?_
  refine Zr_getR C gf_X3_34 cm0 rfl rfl rfl (by simp) dX3_rowBetween_17 ?_
  refine Zr_iload_n C dX3_rowBetween_20 rfl ?_
  refine Zr_aload_n C dX3_rowBetween_21 rfl ?_
  refine Zr_getE C gf_X3_18 cm0 rfl rfl rfl hR.1.1 dX3_rowBetween_22 ?_
  refine Zr_imul C dX3_rowBetween_25 ?_
  refine Zr_topi (y := nI (i * n)) (by rw [hB.1, pk_mul]) ?_
  refine Zr_iload_n C dX3_rowBetween_26 rfl ?_
  refine Zr_iadd C dX3_rowBetween_27 ?_
  refine Zr_topi (y := nI (i * n + i)) (nI_add _ _) ?_
  refine Zr_aaldZ C 3 cm2 rfl rfl rfl hlt (by omega) (if_pos (by rw [(cDiv hi).1, (cDiv hi).2])) dX3_rowBetween_28 ?_
  refine Zr_goto C 33 dX3_rowBetween_29 (by decide) ?_
  exact Zr_aret C (Or.inl ⟨_, rfl⟩) (Or.inl rfl) dX3_rowBetween_33 (Nat.zero_le _) (Nat.zero_le _) ⟨rfl, rfl, rfl, rfl⟩
set_option maxHeartbeats 1000000 in
set_option maxRecDepth 100000 in
theorem k_X3_rowBetween_f {l : Launch} {D : va_G} {K : zKs} {n : Nat} {ad : zAd} {ca : Nat → Nat} {S : zSt} {σ : aS} (hB : aB n σ) (hR : cRel n σ S) {x y : Int32} (hx : aBad n x ∨ aBad n y) : zMet l yX3_rowBetween cX3_rowBetween 3 (some (.object "QuietWatch$Row")) { frames := 1, cells := 0, slots := 0, locals := 21 } D K (cIL n) (cSh K n (cpo n σ.2.2)) (zA ad ca) S [.ref (zA ad ca (0, 0)), .int x, .int y] (zEq (some (.null)) (cSh K n (cpo n σ.2.2)) (zA ad ca) (S)) := by
  refine zEnter (own := RX3) (lv0 := [some (.ref (zA ad ca (0, 0))), some (.int x), some (.int y)]) (by decide) rfl (by simp [Value.category]) (Nat.le_of_ble_eq_true rfl) rfl ?_
  intro p e s m below meth c A C _ hnm
  have hn := hB.2.2.1
  rcases aIx n hn x with h | ⟨i, hi, rfl⟩
  · refine Zr_aload_n C dX3_rowBetween_0 rfl ?_
    refine Zr_iload_n C dX3_rowBetween_1 rfl ?_
    refine Zr_callV C cw_X3_230 (k_X3_isProcess_f hB hR h) cm0 rfl rfl rfl (Nat.le_of_ble_eq_true rfl) (Nat.le_of_ble_eq_true rfl) rfl (Nat.le_of_ble_eq_true rfl) dX3_rowBetween_2 ⟨Nat.zero_le _, Nat.zero_le _⟩ ?_
    refine Zr_if_eq C 32 dX3_rowBetween_5 (by decide) (fun h5 => ?_) (fun h5 => absurd rfl h5)
    refine Zr_null C dX3_rowBetween_32 ?_
    exact Zr_aret C (Or.inl ⟨_, rfl⟩) (Or.inl rfl) dX3_rowBetween_33 (Nat.zero_le _) (Nat.zero_le _) ⟨rfl, rfl, rfl, rfl⟩
  · refine Zr_aload_n C dX3_rowBetween_0 rfl ?_
    refine Zr_iload_n C dX3_rowBetween_1 rfl ?_
    refine Zr_callV C cw_X3_230 (k_X3_isProcess_t hB hR hi) cm0 rfl rfl rfl (Nat.le_of_ble_eq_true rfl) (Nat.le_of_ble_eq_true rfl) rfl (Nat.le_of_ble_eq_true rfl) dX3_rowBetween_2 ⟨Nat.zero_le _, Nat.zero_le _⟩ ?_
    refine Zr_if_eq C 32 dX3_rowBetween_5 (by decide) (fun h5 => absurd h5 (by decide)) (fun h5 => ?_)
    refine Zr_aload_n C dX3_rowBetween_8 rfl ?_
    refine Zr_iload_n C dX3_rowBetween_9 rfl ?_
    refine Zr_callV C cw_X3_230 (k_X3_isProcess_f hB hR (hx.resolve_left (aBad.of hi hn))) cm0 rfl rfl rfl (Nat.le_of_ble_eq_true rfl) (Nat.le_of_ble_eq_true rfl) rfl (Nat.le_of_ble_eq_true rfl) dX3_rowBetween_10 ⟨Nat.zero_le _, Nat.zero_le _⟩ ?_
    refine Zr_if_eq C 32 dX3_rowBetween_13 (by decide) (fun h13 => ?_) (fun h13 => absurd rfl h13)
    refine Zr_null C dX3_rowBetween_32 ?_
    exact Zr_aret C (Or.inl ⟨_, rfl⟩) (Or.inl rfl) dX3_rowBetween_33 (Nat.zero_le _) (Nat.zero_le _) ⟨rfl, rfl, rfl, rfl⟩
theorem k_app {l : Launch} {D : va_G} {K : zKs} {n : Nat} {ad : zAd} {ca : Nat → Nat} {S : zSt} {σ : aS} {i j : Nat} (hn : n ≤ 10) (hR : cRel n σ S) (hi : i < n) (hj : j < n) (hij : i ≠ j) {mm : aM} {F : Nat} (hw : aWM n mm) (hF : aLam (aPush σ (10 * i + j) mm) ≤ F) (hlen : (σ.2.1 (10 * i + j)).length < 640) : zMet l yX0_append cX0_append 2 none { frames := 2, cells := (F - aLam σ), slots := (2 * (F - aLam σ)), locals := 44 } D K (cIL n) (cSh K n (cpo n σ.2.2)) (zA ad ca) S [.ref (zA ad ca (6, i * n + j)), .int (cPack mm)] (cP K n ad none (aPush σ (10 * i + j) mm)) := by
  have h := cix_of (i := i) hj
  have := k_X0_append (l := l) (D := D) (K := K) (ad := ad) (ca := ca) (F := F) (mm := mm) hn hR (cRow_of hi hj hij) hw (by rw [h]; exact hF) (by rw [h]; exact hlen)
  rw [h] at this
  exact this
set_option maxHeartbeats 1000000 in
set_option maxRecDepth 100000 in
theorem k_X3_put {l : Launch} {D : va_G} {K : zKs} {n : Nat} {ad : zAd} {ca : Nat → Nat} {S : zSt} {σ : aS} (hB : aB n σ) (hR : cRel n σ S) {i j : Nat} (hi : i < n) (hj : j < n) (hij : i ≠ j) {mm : aM} {F : Nat} (hw : aWM n mm) (hF : aLam (aPush σ (10 * i + j) mm) ≤ F) (hlen : (σ.2.1 (10 * i + j)).length < 640) : zMet l yX3_put cX3_put 5 none { frames := 3, cells := (F - aLam σ), slots := (2 * (F - aLam σ)), locals := 65 } D K (cIL n) (cSh K n (cpo n σ.2.2)) (zA ad ca) S [.ref (zA ad ca (0, 0)), .int (nI i), .int (nI j), .int (cPack mm)] (cP K n ad none (aPush σ (10 * i + j) mm)) := by
  refine zEnter (own := RX3) (lv0 := [some (.ref (zA ad ca (0, 0))), some (.int (nI i)), some (.int (nI j)), some (.int (cPack mm)), none]) (by decide) rfl (by simp [Value.category]) (Nat.le_of_ble_eq_true rfl) rfl ?_
  intro p e s m below meth c A C _ hnm
  have hn := hB.2.2.1
  have hr := cRow_of hi hj hij
  refine Zr_aload_n C dX3_put_0 rfl ?_
  refine Zr_iload_n C dX3_put_1 rfl ?_
  refine Zr_iload_n C dX3_put_2 rfl ?_
  refine Zr_callV C cw_X3_58 (k_X3_rowBetween_t hB hR hi hj hij) cm0 rfl rfl rfl (Nat.le_of_ble_eq_true rfl) (Nat.le_of_ble_eq_true rfl) rfl (Nat.le_of_ble_eq_true rfl) dX3_put_3 ⟨Nat.zero_le _, Nat.zero_le _⟩ ?_
  refine Zr_astore C dX3_put_6 (by decide) ?_
  refine Zr_aload C dX3_put_8 rfl ?_
  refine Zr_ifnull C dX3_put_10 ?_
  refine Zr_aload C dX3_put_13 rfl ?_
  refine Zr_iload_n C dX3_put_15 rfl ?_
  refine Zr_callVCv C cw_X3_74 (k_app hn hR hi hj hij hw hF hlen) (cm6 hr) rfl rfl rfl (Nat.le_of_ble_eq_true rfl) (Nat.le_of_ble_eq_true rfl) rfl (Nat.le_of_ble_eq_true rfl) dX3_put_16 ⟨by show 0 + (F - aLam σ) ≤ F - aLam σ; omega, by show 0 + 2 * (F - aLam σ) ≤ 2 * (F - aLam σ); omega⟩ (fun ca S hR => ?_)
  exact Zr_vret C dX3_put_19 (by show 0 + (F - aLam σ) ≤ F - aLam σ; omega) (by show 0 + 2 * (F - aLam σ) ≤ 2 * (F - aLam σ); omega) ⟨rfl, rfl, ⟨_, rfl⟩, hR⟩
theorem aLam_all_s {σ : aS} {p k : Nat} {f : Nat → Bool} {m : aM} (hp : p < 10) (hk : k < 10) : aLam (aAll σ p f k m) ≤ aLam (aAll σ p f (k + 1) m) := by
  cases hf : f k with
  | false => rw [aAll_no hf]; exact Nat.le_refl _
  | true => rw [aAll_yes hk hf]; exact aLam_push_le (by omega)
theorem aLam_all {σ : aS} {p k n : Nat} {f : Nat → Bool} {m : aM} (hp : p < 10) (hn : n ≤ 10) (hk : k ≤ n) : aLam (aAll σ p f k m) ≤ aLam (aAll σ p f n m) := by
  induction n with
  | zero => have : k = 0 := by omega
            subst this; exact Nat.le_refl _
  | succ n ih =>
    by_cases h : k = n + 1
    · subst h; exact Nat.le_refl _
    · exact Nat.le_trans (ih (by omega) (by omega)) (aLam_all_s hp (by omega))
theorem aLam_all0 {σ : aS} {p n : Nat} {f : Nat → Bool} {m : aM} (hp : p < 10) (hn : n ≤ 10) : aLam σ ≤ aLam (aAll σ p f n m) := by
  have := aLam_all (σ := σ) (f := f) (m := m) (k := 0) hp hn (Nat.zero_le _)
  rwa [aAll_0] at this
set_option maxHeartbeats 1000000 in
set_option maxRecDepth 100000 in
theorem k_X3_putToEach {l : Launch} {D : va_G} {K : zKs} {n : Nat} {ad : zAd} {ca : Nat → Nat} {S : zSt} {σ : aS} (hB : aB n σ) (hR : cRel n σ S) {i x : Nat} {f : Nat → Bool} {mm : aM} {F : Nat} (hi : i < n) (hx : x < 1024) (hfi : f i = false) (hf : ∀ q, q < n → q ≠ i → x.testBit q = f q) (hw : aWM n mm) (hF : aLam (aAll σ i f n mm) ≤ F) (hlen : ∀ r, r < 100 → (σ.2.1 r).length < 640) : zMet l yX3_putToEach cX3_putToEach 6 none { frames := 3, cells := (F - aLam σ), slots := (2 * (F - aLam σ)), locals := 65 } D K (cIL n) (cSh K n (cpo n σ.2.2)) (zA ad ca) S [.ref (zA ad ca (0, 0)), .int (nI i), .int (nI x), .int (cPack mm)] (cP K n ad none (aAll σ i f n mm)) := by
  refine zEnter (own := RX3) (lv0 := [some (.ref (zA ad ca (0, 0))), some (.int (nI i)), some (.int (nI x)), some (.int (cPack mm)), none, none]) (by decide) rfl (by simp [Value.category]) (Nat.le_of_ble_eq_true rfl) rfl ?_
  intro p e s m below meth c A C _ hnm
  have hn := hB.2.2.1
  have hi10 : i < 10 := by omega
  have key : ∀ (d k : Nat) (cb : Nat → Nat) (S : zSt), k + d = n → cRel n (aAll σ i f k mm) S → Z p l e ({ frames := 3, cells := (F - aLam σ), slots := (2 * (F - aLam σ)), locals := 65 } : Room) s m ([.ref (zA ad ca (0, 0)), .int (nI i), .int (nI x), .int (cPack mm)] : List Value).toArray below meth c D A 6 (MQ below (zQ (cP K n ad none (aAll σ i f n mm)) (cIL n) D A) ([.ref (zA ad ca (0, 0)), .int (nI i), .int (nI x), .int (cPack mm)] : List Value).toArray s (F - aLam σ) (2 * (F - aLam σ)) A) (cIL n) (aLam (aAll σ i f k mm) - aLam σ) (2 * (aLam (aAll σ i f k mm) - aLam σ)) (cSh K n (cpo n (aAll σ i f k mm).2.2)) (zA ad cb) S (3) ([some (.ref (zA ad ca (0, 0))), some (.int (nI i)), some (.int (nI x)), some (.int (cPack mm)), some (.int (nI k)), none]) ([]) := by
    intro d
    induction d with
    | zero =>
      intro k cb S hk hR
      have hk : k = n := by omega
      subst hk
      refine Zr_iload C dX3_putToEach_3 rfl ?_
      refine Zr_aload_n C dX3_putToEach_5 rfl ?_
      refine Zr_getE C gf_X3_18 cm0 rfl rfl rfl hR.1.1 dX3_putToEach_6 ?_
      refine Zr_icmp_ge C 47 dX3_putToEach_9 (by decide) (fun h9 => ?_) (fun h9 => absurd (by rw [show (aAll σ i f k mm).1 0 0 0 = nI k from hB.1]; exact nI_le (Nat.le_refl _) (by omega)) h9)
      exact Zr_vret C dX3_putToEach_47 (by show aLam (aAll σ i f k mm) - aLam σ ≤ F - aLam σ; omega) (by show 2 * (aLam (aAll σ i f k mm) - aLam σ) ≤ 2 * (F - aLam σ); omega) ⟨rfl, rfl, ⟨_, rfl⟩, hR⟩
    | succ d ih =>
      intro k cb S hk hR
      have hkl : k < n := by omega
      have hBk : aB n (aAll σ i f k mm) := hB
      have m1 : aLam (aAll σ i f k mm) ≤ aLam (aAll σ i f (k + 1) mm) := aLam_all_s hi10 (by omega)
      have m0 : aLam σ ≤ aLam (aAll σ i f k mm) := aLam_all0 hi10 (by omega)
      have m2 : aLam (aAll σ i f (k + 1) mm) ≤ aLam (aAll σ i f n mm) := aLam_all hi10 hn (by omega)
      by_cases hki : k = i
      · subst hki
        have e1 : aAll σ k f (k + 1) mm = aAll σ k f k mm := aAll_no hfi
        refine Zr_iload C dX3_putToEach_3 rfl ?_
        refine Zr_aload_n C dX3_putToEach_5 rfl ?_
        refine Zr_getE C gf_X3_18 cm0 rfl rfl rfl hR.1.1 dX3_putToEach_6 ?_
        refine Zr_icmp_ge C 47 dX3_putToEach_9 (by decide) (fun h9 => absurd h9 (by rw [show (aAll σ k f k mm).1 0 0 0 = nI n from hB.1]; exact nI_ge hkl (by omega))) (fun h9 => ?_)
        refine Zr_aload_n C dX3_putToEach_12 rfl ?_
        refine Zr_iload_n C dX3_putToEach_13 rfl ?_
        refine Zr_iload C dX3_putToEach_14 rfl ?_
        refine Zr_callV C cw_X3_58 (k_X3_rowBetween_d hBk hR hi) cm0 rfl rfl rfl (Nat.le_of_ble_eq_true rfl) (Nat.le_of_ble_eq_true rfl) rfl (Nat.le_of_ble_eq_true rfl) dX3_putToEach_16 ⟨by show aLam (aAll σ k f k mm) - aLam σ ≤ F - aLam σ; omega, by show 2 * (aLam (aAll σ k f k mm) - aLam σ) ≤ 2 * (F - aLam σ); omega⟩ ?_
        refine Zr_astoreN C dX3_putToEach_19 (by decide) ?_
        refine Zr_aloadN C dX3_putToEach_21 rfl ?_
        refine Zr_ifnullN C 41 dX3_putToEach_23 (by decide) ?_
        refine Zr_iincE C (1) (nI (k + 1)) dX3_putToEach_41 (by decide) rfl rfl (nI_1 _) ?_
        refine Zr_goto C 3 dX3_putToEach_44 (by decide) ?_
        exact Zr_forget 5 (e1 ▸ ih (k + 1) cb S (by omega) (by rw [e1]; exact hR))
      · have hr := cRow_of hi hkl (fun h => hki h.symm)
        have hb := hf k hkl hki
        by_cases hbk : x.testBit k = true
        · have e1 : aAll σ i f (k + 1) mm = aPush (aAll σ i f k mm) (10 * i + k) mm := aAll_yes (by omega) (by rw [← hb]; exact hbk)
          have hFk : aLam (aPush (aAll σ i f k mm) (10 * i + k) mm) ≤ aLam (aAll σ i f (k + 1) mm) := by rw [e1]; exact Nat.le_refl _
          refine Zr_iload C dX3_putToEach_3 rfl ?_
          refine Zr_aload_n C dX3_putToEach_5 rfl ?_
          refine Zr_getE C gf_X3_18 cm0 rfl rfl rfl hR.1.1 dX3_putToEach_6 ?_
          refine Zr_icmp_ge C 47 dX3_putToEach_9 (by decide) (fun h9 => absurd h9 (by rw [show (aAll σ i f k mm).1 0 0 0 = nI n from hB.1]; exact nI_ge hkl (by omega))) (fun h9 => ?_)
          refine Zr_aload_n C dX3_putToEach_12 rfl ?_
          refine Zr_iload_n C dX3_putToEach_13 rfl ?_
          refine Zr_iload C dX3_putToEach_14 rfl ?_
          refine Zr_callV C cw_X3_58 (k_X3_rowBetween_t hBk hR hi hkl (fun h => hki h.symm)) cm0 rfl rfl rfl (Nat.le_of_ble_eq_true rfl) (Nat.le_of_ble_eq_true rfl) rfl (Nat.le_of_ble_eq_true rfl) dX3_putToEach_16 ⟨by show aLam (aAll σ i f k mm) - aLam σ ≤ F - aLam σ; omega, by show 2 * (aLam (aAll σ i f k mm) - aLam σ) ≤ 2 * (F - aLam σ); omega⟩ ?_
          refine Zr_astore C dX3_putToEach_19 (by decide) ?_
          refine Zr_aload C dX3_putToEach_21 rfl ?_
          refine Zr_ifnull C dX3_putToEach_23 ?_
          refine Zr_iload_n C dX3_putToEach_26 rfl ?_
          refine Zr_iload C dX3_putToEach_27 rfl ?_
          refine Zr_callS C cw_X3_110 (k_X3_holds hx (by omega)) rfl (Nat.le_of_ble_eq_true rfl) (Nat.le_of_ble_eq_true rfl) rfl (Nat.le_of_ble_eq_true rfl) dX3_putToEach_29 ⟨by show aLam (aAll σ i f k mm) - aLam σ ≤ F - aLam σ; omega, by show 2 * (aLam (aAll σ i f k mm) - aLam σ) ≤ 2 * (F - aLam σ); omega⟩ ?_
          refine Zr_topi (y := 1) (if_pos hbk) ?_
          refine Zr_if_eq C 41 dX3_putToEach_32 (by decide) (fun h32 => absurd h32 (by decide)) (fun h32 => ?_)
          refine Zr_aload C dX3_putToEach_35 rfl ?_
          refine Zr_iload_n C dX3_putToEach_37 rfl ?_
          refine Zr_callVCv C cw_X3_74 (k_app hn hR hi hkl (fun h => hki h.symm) hw hFk (by rw [aAll_at (by omega)]; exact hlen _ (by omega))) (cm6 hr) rfl rfl rfl (Nat.le_of_ble_eq_true rfl) (Nat.le_of_ble_eq_true rfl) rfl (Nat.le_of_ble_eq_true rfl) dX3_putToEach_38 ⟨by show aLam (aAll σ i f k mm) - aLam σ + (aLam (aAll σ i f (k + 1) mm) - aLam (aAll σ i f k mm)) ≤ F - aLam σ; omega, by show 2 * (aLam (aAll σ i f k mm) - aLam σ) + 2 * (aLam (aAll σ i f (k + 1) mm) - aLam (aAll σ i f k mm)) ≤ 2 * (F - aLam σ); omega⟩ (fun ca S hR => ?_)
          refine Zr_iincE C (1) (nI (k + 1)) dX3_putToEach_41 (by decide) rfl rfl (nI_1 _) ?_
          refine Zr_goto C 3 dX3_putToEach_44 (by decide) ?_
          exact Zr_forget 5 (Zr_cs (cells' := aLam (aPush (aAll σ i f k mm) (10 * i + k) mm) - aLam σ) (slots' := 2 * (aLam (aPush (aAll σ i f k mm) (10 * i + k) mm) - aLam σ)) (by rw [← e1]; omega) (by rw [← e1]; omega) (by have := ih (k + 1) ca S (by omega) (by rw [e1]; exact hR); rw [e1] at this; exact this))
        · have e1 : aAll σ i f (k + 1) mm = aAll σ i f k mm := aAll_no (by rw [← hb]; exact (Bool.not_eq_true _).mp hbk)
          refine Zr_iload C dX3_putToEach_3 rfl ?_
          refine Zr_aload_n C dX3_putToEach_5 rfl ?_
          refine Zr_getE C gf_X3_18 cm0 rfl rfl rfl hR.1.1 dX3_putToEach_6 ?_
          refine Zr_icmp_ge C 47 dX3_putToEach_9 (by decide) (fun h9 => absurd h9 (by rw [show (aAll σ i f k mm).1 0 0 0 = nI n from hB.1]; exact nI_ge hkl (by omega))) (fun h9 => ?_)
          refine Zr_aload_n C dX3_putToEach_12 rfl ?_
          refine Zr_iload_n C dX3_putToEach_13 rfl ?_
          refine Zr_iload C dX3_putToEach_14 rfl ?_
          refine Zr_callV C cw_X3_58 (k_X3_rowBetween_t hBk hR hi hkl (fun h => hki h.symm)) cm0 rfl rfl rfl (Nat.le_of_ble_eq_true rfl) (Nat.le_of_ble_eq_true rfl) rfl (Nat.le_of_ble_eq_true rfl) dX3_putToEach_16 ⟨by show aLam (aAll σ i f k mm) - aLam σ ≤ F - aLam σ; omega, by show 2 * (aLam (aAll σ i f k mm) - aLam σ) ≤ 2 * (F - aLam σ); omega⟩ ?_
          refine Zr_astore C dX3_putToEach_19 (by decide) ?_
          refine Zr_aload C dX3_putToEach_21 rfl ?_
          refine Zr_ifnull C dX3_putToEach_23 ?_
          refine Zr_iload_n C dX3_putToEach_26 rfl ?_
          refine Zr_iload C dX3_putToEach_27 rfl ?_
          refine Zr_callS C cw_X3_110 (k_X3_holds hx (by omega)) rfl (Nat.le_of_ble_eq_true rfl) (Nat.le_of_ble_eq_true rfl) rfl (Nat.le_of_ble_eq_true rfl) dX3_putToEach_29 ⟨by show aLam (aAll σ i f k mm) - aLam σ ≤ F - aLam σ; omega, by show 2 * (aLam (aAll σ i f k mm) - aLam σ) ≤ 2 * (F - aLam σ); omega⟩ ?_
          refine Zr_topi (y := 0) (if_neg hbk) ?_
          refine Zr_if_eq C 41 dX3_putToEach_32 (by decide) (fun h32 => ?_) (fun h32 => absurd rfl h32)
          refine Zr_iincE C (1) (nI (k + 1)) dX3_putToEach_41 (by decide) rfl rfl (nI_1 _) ?_
          refine Zr_goto C 3 dX3_putToEach_44 (by decide) ?_
          exact Zr_forget 5 (e1 ▸ ih (k + 1) cb S (by omega) (by rw [e1]; exact hR))
  refine Zr_iconst C (0) dX3_putToEach_0 rfl ?_
  refine Zr_istore C dX3_putToEach_1 (by decide) ?_
  exact Zr_cs (cells' := aLam (aAll σ i f 0 mm) - aLam σ) (slots' := 2 * (aLam (aAll σ i f 0 mm) - aLam σ)) (by rw [aAll_0]; omega) (by rw [aAll_0]; omega) (by have := key n 0 ca S (by omega) (by rw [aAll_0]; exact hR); rw [aAll_0] at this ⊢; exact this)
