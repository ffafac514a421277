/-! ===== the reference's constructor ===== -/
def mds (L : List Nat) : List (Option zI) := (List.range 27).map (fun k => if k < 8 ∨ (19 ≤ k ∧ k < 22) then none else if k ∈ L then some (21, k) else some (99, 0))
def mIL (L : List Nat) : List zI := (20, 0) :: L.map (fun k => (21, k))
theorem rSh1 (K : zKs) (k : Nat) : ∃ (cA : ClassId) (N : Nat), rSh K (1, k) = .inr (cA, N, none) := by
  simp only [rSh]
  split <;> first | exact ⟨_, _, rfl⟩ | (rename_i h; cases h)
def kM (K : zKs) (L : List Nat) (sh : zSh) (ad : zAd) (S : zSt) (sh' : zSh) (ad' : zAd) (S' : zSt) : Prop := sh' (20, 0) = .inl (4, mds L) ∧ (∀ k ∈ L, sh' (21, k) = rSh K (1, k) ∧ S' 21 k = (fun _ => 0)) ∧ S' 20 0 = (fun _ => 0) ∧ zKp (fun i => i.1 = 20 ∨ i.1 = 21) (fun i => i.1 = 21) sh ad S sh' ad' S'
theorem mIL_nodup {L : List Nat} (h : L.Nodup) : (mIL L).Nodup := List.nodup_cons.mpr ⟨by simp, nd_pair 21 h⟩
theorem mds_mem {L : List Nat} {j : zI} (h : some j ∈ mds L) : (j.1 = 21 ∧ j.2 ∈ L) ∨ j = (99, 0) := by
  simp only [mds, List.mem_map] at h
  obtain ⟨k, -, hk⟩ := h
  split at hk
  · cases hk
  · split at hk
    · cases hk
      exact Or.inl ⟨rfl, by assumption⟩
    · cases hk
      exact Or.inr rfl
theorem kM.no {K : zKs} {L : List Nat} {sh sh' : zSh} {ad ad' : zAd} {S S' : zSt} {k : Nat} (h : kM K L sh ad S sh' ad' S') (hk : k ∉ L) : ∀ i ∈ mIL L, zNo (fun j => j = (21, k)) (sh' i) := by
  intro i hi
  rcases List.mem_cons.mp hi with rfl | hi
  · rw [h.1]
    intro j hj hjk
    subst hjk
    rcases mds_mem hj with ⟨-, h2⟩ | h2
    · exact hk h2
    · cases h2
  · obtain ⟨x, hx, rfl⟩ := List.mem_map.mp hi
    rw [(h.2.1 x hx).1]
    obtain ⟨cA, N, e⟩ := rSh1 K x
    rw [e]
    trivial
/-- one array more -/
theorem kM.step {K : zKs} {L : List Nat} {sh sh1 sh2 : zSh} {ad ad1 ad2 : zAd} {S S1 S2 : zSt} {k : Nat} (h : kM K L sh ad S sh1 ad1 S1) (hN : zNew (21, k) (rSh K (1, k)) sh1 ad1 S1 sh2 ad2 S2) (hk : k ∉ L) (hm : (mds L).set k (some (21, k)) = mds (k :: L)) : kM K (k :: L) sh ad S (fun i => if i = (20, 0) then .inl (4, (mds L).set k (some (21, k))) else sh2 i) ad2 S2 := by
  have g0 := hN.2.2 (20, 0) (by simp)
  refine ⟨by simp [hm], fun x hx => ?_, g0.2.2.trans h.2.2.1, fun i hi => ?_, fun i hi => ?_⟩
  · dsimp only
    rw [if_neg (by simp)]
    rcases List.mem_cons.mp hx with rfl | hx
    · exact ⟨hN.1, hN.2.1⟩
    · have hne : (21, x) ≠ (21, k) := fun h => hk (by cases h; exact hx)
      have g := hN.2.2 (21, x) hne
      exact ⟨g.1.trans (h.2.1 x hx).1, g.2.2.trans (h.2.1 x hx).2⟩
  · have n0 : i ≠ (20, 0) := fun h => hi (Or.inl (by rw [h]))
    have n1 : i ≠ (21, k) := fun h => hi (Or.inr (by rw [h]))
    have g := hN.2.2 i n1
    exact ⟨by dsimp only; rw [if_neg n0]; exact g.1.trans (h.2.2.2.1 i hi).1, g.2.2.trans (h.2.2.2.1 i hi).2⟩
  · have n1 : i ≠ (21, k) := fun h => hi (by rw [h])
    exact (hN.2.2 i n1).2.1.trans (h.2.2.2.2 i hi)
section ZM
variable {p : Program} {l : Launch} {e : Env} {R : Room} {s : State} {m : MethodId} {args : Array Value} {below : List Frame} {meth : Method} {c : Code} {Q : State → Prop} {cells slots : Nat}
variable {cc : ByteArray} {nL : Nat} {ret : Option FieldType} {D : va_G} {K : zKs} {A : Nat → Prop} {sh sh1 : zSh} {ad ad1 : zAd} {S S1 : zSt} {pc : Nat} {lv : List (Option Value)} {st : List Value}
theorem mStepI (C : zX p s m args meth c RX4 cc nL ret D K A) {L : List Nat} {k N idx q0 : Nat} {n : Int32} (hnm : meth.name = "<init>") (hM : kM K L sh ad S sh1 ad1 S1) (hq : ad1 (20, 0) = q0) (g : zPutR RX4 idx 4 k true) (hk : k ∉ L) (hL : L.Nodup) (hm : (mds L).set k (some (21, k)) = mds (k :: L)) (hk27 : k < 27) (hr : rSh K (1, k) = .inr (K.1, N, none)) (hn0 : ¬ n < 0) (hN : n.toNatClampNeg = N) (hbytes : N * 4 ≤ 536870912) (hcl : cells + 1 ≤ R.cells) (hsl : slots + N ≤ R.slots) (hd1 : decode cc pc = .ok (.newarray .int, 2)) (hd2 : decode cc (pc + 2) = .ok (.putfield idx, 3)) (kk : ∀ (sh2 : zSh) (ad2 : zAd) (S2 : zSt), kM K (k :: L) sh ad S sh2 ad2 S2 → ad2 (20, 0) = q0 → Z p l e R s m args below meth c D A nL Q (mIL (k :: L)) (cells + 1) (slots + N) sh2 ad2 S2 (pc + 5) lv st) : Z p l e R s m args below meth c D A nL Q (mIL L) cells slots sh1 ad1 S1 pc lv (.int n :: .ref q0 :: st) := by
  refine Zr_newI C (21, k) (mIL (k :: L)) (fun h => by rcases List.mem_cons.mp h with h | h <;> simp_all) (hM.no hk) (mIL_nodup (List.nodup_cons.mpr ⟨hk, hL⟩)) (fun i hi => by simp only [mIL, List.map_cons, List.mem_cons] at hi ⊢; rcases hi with h | h | h <;> simp [h]) hn0 hN hbytes hcl hsl hd1 (fun sh2 ad2 S2 h2 => ?_)
  have g0 := h2.2.2 (20, 0) (by simp)
  refine Zr_putR C (21, k) g (fun _ => hnm) (by simp [mIL]) (hq.symm.trans g0.2.1.symm) rfl (by simp) (g0.1.trans hM.1) (by simp [mds]; omega) hd2 ?_
  rw [← hr] at h2
  exact kk _ ad2 S2 (hM.step h2 hk hm) (g0.2.1.trans hq)
theorem mStepZ (C : zX p s m args meth c RX4 cc nL ret D K A) {L : List Nat} {k N idx q0 : Nat} {n : Int32} (hnm : meth.name = "<init>") (hM : kM K L sh ad S sh1 ad1 S1) (hq : ad1 (20, 0) = q0) (g : zPutR RX4 idx 4 k true) (hk : k ∉ L) (hL : L.Nodup) (hm : (mds L).set k (some (21, k)) = mds (k :: L)) (hk27 : k < 27) (hr : rSh K (1, k) = .inr (K.2.1, N, none)) (hn0 : ¬ n < 0) (hN : n.toNatClampNeg = N) (hbytes : N * 1 ≤ 536870912) (hcl : cells + 1 ≤ R.cells) (hsl : slots + N ≤ R.slots) (hd1 : decode cc pc = .ok (.newarray .boolean, 2)) (hd2 : decode cc (pc + 2) = .ok (.putfield idx, 3)) (kk : ∀ (sh2 : zSh) (ad2 : zAd) (S2 : zSt), kM K (k :: L) sh ad S sh2 ad2 S2 → ad2 (20, 0) = q0 → Z p l e R s m args below meth c D A nL Q (mIL (k :: L)) (cells + 1) (slots + N) sh2 ad2 S2 (pc + 5) lv st) : Z p l e R s m args below meth c D A nL Q (mIL L) cells slots sh1 ad1 S1 pc lv (.int n :: .ref q0 :: st) := by
  refine Zr_newZ C (21, k) (mIL (k :: L)) (fun h => by rcases List.mem_cons.mp h with h | h <;> simp_all) (hM.no hk) (mIL_nodup (List.nodup_cons.mpr ⟨hk, hL⟩)) (fun i hi => by simp only [mIL, List.map_cons, List.mem_cons] at hi ⊢; rcases hi with h | h | h <;> simp [h]) hn0 hN hbytes hcl hsl hd1 (fun sh2 ad2 S2 h2 => ?_)
  have g0 := h2.2.2 (20, 0) (by simp)
  refine Zr_putR C (21, k) g (fun _ => hnm) (by simp [mIL]) (hq.symm.trans g0.2.1.symm) rfl (by simp) (g0.1.trans hM.1) (by simp [mds]; omega) hd2 ?_
  rw [← hr] at h2
  exact kk _ ad2 S2 (hM.step h2 hk hm) (g0.2.1.trans hq)
end ZM
def mF : List Nat := [26, 25, 24, 23, 22, 18, 17, 16, 15, 14, 13, 12, 11, 10, 9, 8]
def mr0 (k : Nat) : Nat → Int32 := if k = 9 then (fun j => if j < 10 then -1 else 0) else if k = 13 then (fun j => if j = 0 then 1 else 0) else fun _ => 0
def kR4 (K : zKs) (n : Nat) (sh : zSh) (ad : zAd) (S : zSt) : Option Value → zSh → zAd → zSt → Prop := fun v sh' ad' S' => v = none ∧ sh' (20, 0) = .inl (4, mds mF) ∧ (∀ k ∈ mF, sh' (21, k) = rSh K (1, k) ∧ S' 21 k = mr0 k) ∧ S' 20 0 = (fun k => if k = 0 then nI n else 0) ∧ zKp (fun i => i.1 = 20 ∨ i.1 = 21) (fun i => i.1 = 21) sh ad S sh' ad' S'
theorem mI1 : ∀ i, i < 10 → nI i = nI i := fun _ _ => rfl
set_option maxHeartbeats 2000000 in
set_option maxRecDepth 20000 in
theorem k_X4_init {l : Launch} {D : va_G} {K : zKs} {n : Nat} {x : Int32} {sh : zSh} {ad : zAd} {S : zSt} (hx : (if (if (10 : Int32) < x then 10 else x) < 2 then 2 else (if (10 : Int32) < x then 10 else x)) = nI n) (hs : sh (20, 0) = .inl (4, nds4)) (hS : S 20 0 = fun _ => 0) : zMetG l yX4_init cX4_init 3 none { frames := 1, cells := 16, slots := 192490, locals := 20 } D K [(20, 0)] sh ad S [.ref (ad (20, 0)), .int x] (mIL mF) (kR4 K n sh ad S) := by
  refine zEnterG (own := RX4) (lv0 := [some (.ref (ad (20, 0))), some (.int x), none]) (by decide) rfl (by simp [Value.category]) (Nat.le_of_ble_eq_true rfl) rfl ?_
  intro p e s m below meth c A C _ hnm
  have fin : ∀ (cells slots : Nat) (sh1 : zSh) (ad1 : zAd) (S1 : zSt), cells ≤ 16 → slots ≤ 192490 → kM K mF sh ad S sh1 ad1 S1 → ad1 (20, 0) = ad (20, 0) → Z p l e { frames := 1, cells := 16, slots := 192490, locals := 20 } s m ([.ref (ad (20, 0)), .int x] : List Value).toArray below meth c D A 3 (MQ below (zQ (kR4 K n sh ad S) (mIL mF) D A) ([.ref (ad (20, 0)), .int x] : List Value).toArray s 16 192490 A) (mIL mF) cells slots sh1 ad1 S1 132 [some (.ref (ad (20, 0))), some (.int x), none] [] := by
    intro cells slots sh1 ad1 S1 hc1 hs1 hM hq
    have m0 : (20, 0) ∈ mIL mF := by decide
    have m9 : (21, 9) ∈ mIL mF := by decide
    have m13 : (21, 13) ∈ mIL mF := by decide
    have hsh : sh1 (20, 0) = .inl (4, mds mF) := hM.1
    have f0 : (mds mF)[0]? = some none := by decide
    have f9 : (mds mF)[9]? = some (some (21, 9)) := by decide
    have f13 : (mds mF)[13]? = some (some (21, 13)) := by decide
    have k9 : 9 ∈ mF := by decide
    have k13 : 13 ∈ mF := by decide
    have put : Z p l e { frames := 1, cells := 16, slots := 192490, locals := 20 } s m ([.ref (ad (20, 0)), .int x] : List Value).toArray below meth c D A 3 (MQ below (zQ (kR4 K n sh ad S) (mIL mF) D A) ([.ref (ad (20, 0)), .int x] : List Value).toArray s 16 192490 A) (mIL mF) cells slots sh1 ad1 S1 154 [some (.ref (ad (20, 0))), some (.int x), none] [.int (nI n), .ref (ad (20, 0))] := by
      refine Zr_putI C pi_X4_60 hnm m0 hq.symm hsh f0 (znI _) dX4_init_154 ?_
      refine Zr_iconst C (0) dX4_init_157 rfl ?_
      refine Zr_istore_n C dX4_init_158 (by decide) ?_
      have loop : ∀ (d i : Nat) (S2 : zSt), i + d = 10 → (S2 20 0 = (fun k => if k = 0 then nI n else 0) ∧ S2 21 9 = (fun j => if j < i then -1 else 0) ∧ ∀ j : zI, j ≠ (20, 0) → j ≠ (21, 9) → S2 j.1 j.2 = S1 j.1 j.2) → Z p l e { frames := 1, cells := 16, slots := 192490, locals := 20 } s m ([.ref (ad (20, 0)), .int x] : List Value).toArray below meth c D A 3 (MQ below (zQ (kR4 K n sh ad S) (mIL mF) D A) ([.ref (ad (20, 0)), .int x] : List Value).toArray s 16 192490 A) (mIL mF) cells slots sh1 ad1 S2 159 [some (.ref (ad (20, 0))), some (.int x), some (.int (nI i))] [] := by
        intro d
        induction d with
        | zero =>
          intro i S2 hi hR
          have hi10 : i = 10 := by omega
          subst hi10
          refine Zr_iload_n C dX4_init_159 rfl ?_
          refine Zr_bipush C (nI 10) dX4_init_160 rfl ?_
          refine Zr_icmp_ge C 178 dX4_init_162 (by decide) (fun h => ?_) (fun h => absurd (nI_le (Nat.le_refl 10) (by decide)) h)
          refine Zr_aload_n C dX4_init_178 rfl ?_
          refine Zr_getR C gf_X4_26 m0 hq.symm hsh f13 (by decide) dX4_init_179 ?_
          refine Zr_iconst C (nI 0) dX4_init_182 rfl ?_
          refine Zr_iconst C (1) dX4_init_183 rfl ?_
          refine Zr_zastN C (n := 10) (Rel := fun S3 => S3 = z3 S2 21 13 0 1) m13 rfl (hM.2.1 13 k13).1 (by decide) (by decide) (Or.inr rfl) rfl dX4_init_184 (fun S3 h3 => ?_)
          subst h3
          refine Zr_vret C dX4_init_185 hc1 hs1 ⟨rfl, hsh, fun k hk => ⟨(hM.2.1 k hk).1, ?_⟩, ?_, fun i hi => ⟨(hM.2.2.2.1 i hi).1, ?_⟩, hM.2.2.2.2⟩
          · by_cases h13 : k = 13
            · subst h13
              rw [z3_row, hR.2.2 (21, 13) (by simp) (by simp), (hM.2.1 13 k13).2]
              funext j
              simp [mr0]
            · have e : (z3 S2 21 13 0 1) 21 k = S2 21 k := by
                funext j
                simp [z3, h13]
              rw [e]
              by_cases h9 : k = 9
              · subst h9
                rw [hR.2.1]
                rfl
              · rw [hR.2.2 (21, k) (by simp) (by simp [h9]), (hM.2.1 k hk).2]
                simp [mr0, h9, h13]
          · have e : (z3 S2 21 13 0 1) 20 0 = S2 20 0 := by
              funext j
              simp [z3]
            rw [e]
            exact hR.1
          · have n1 : ¬ (i.1 = 21 ∧ i.2 = 13) := fun h => hi (Or.inr h.1)
            have e : (z3 S2 21 13 0 1) i.1 i.2 = S2 i.1 i.2 := by
              funext j
              simp only [z3]
              rw [if_neg (fun h => n1 ⟨h.1, h.2.1⟩)]
            rw [e, hR.2.2 i (fun h => hi (Or.inl (by rw [h]))) (fun h => hi (Or.inr (by rw [h])))]
            exact (hM.2.2.2.1 i hi).2
        | succ d ih =>
          intro i S2 hi hR
          refine Zr_iload_n C dX4_init_159 rfl ?_
          refine Zr_bipush C (nI 10) dX4_init_160 rfl ?_
          refine Zr_icmp_ge C 178 dX4_init_162 (by decide) (fun h => absurd h (nI_ge (by omega) (by decide))) (fun h => ?_)
          refine Zr_aload_n C dX4_init_165 rfl ?_
          refine Zr_getR C gf_X4_13 m0 hq.symm hsh f9 (by decide) dX4_init_166 ?_
          refine Zr_iload_n C dX4_init_169 rfl ?_
          refine Zr_iconst C (-1) dX4_init_170 rfl ?_
          refine Zr_iastN C (n := 10) (Rel := fun S3 => S3 = z3 S2 21 9 i (-1)) m9 rfl (hM.2.1 9 k9).1 (by omega) (by decide) rfl dX4_init_171 (fun S3 h3 => ?_)
          subst h3
          refine Zr_iincE C (1) (nI (i + 1)) dX4_init_172 (by decide) rfl rfl (nI_1 _) ?_
          refine Zr_goto C 159 dX4_init_175 (by decide) ?_
          refine ih (i + 1) _ (by omega) ⟨?_, ?_, fun j h1 h2 => ?_⟩
          · have e : (z3 S2 21 9 i (-1)) 20 0 = S2 20 0 := by
              funext j
              simp [z3]
            rw [e]
            exact hR.1
          · rw [z3_row, hR.2.1]
            funext j
            by_cases h1 : j = i
            · subst h1; simp
            · by_cases h2 : j < i
              · rw [if_neg h1]; dsimp only; rw [if_pos h2, if_pos (by omega)]
              · rw [if_neg h1]; dsimp only; rw [if_neg h2, if_neg (by omega)]
          · rw [← hR.2.2 j h1 h2]
            funext y
            simp only [z3]
            rw [if_neg]
            rintro ⟨h3, h4, -⟩
            exact h2 (Prod.ext h3 h4)
      refine loop 10 0 _ rfl ⟨?_, ?_, fun j h1 h2 => ?_⟩
      · rw [z3_row, hM.2.2.1]
      · have e : (z3 S1 20 0 0 (nI n)) 21 9 = S1 21 9 := by
          funext j
          simp [z3]
        rw [e, (hM.2.1 9 k9).2]
        funext j
        simp
      · funext y
        simp only [z3]
        rw [if_neg]
        rintro ⟨h3, h4, -⟩
        exact h1 (Prod.ext h3 h4)
    refine Zr_aload_n C dX4_init_132 rfl ?_
    refine Zr_iload_n C dX4_init_133 rfl ?_
    refine Zr_iconst C (2) dX4_init_134 rfl ?_
    refine Zr_icmp_ge C 142 dX4_init_135 (by decide) (fun h => ?_) (fun h => ?_)
    · refine Zr_iload_n C dX4_init_142 rfl ?_
      refine Zr_bipush C (10) dX4_init_143 rfl ?_
      have h2 : ¬ x < 2 := Int32.not_lt.mpr h
      refine Zr_icmp_le C 153 dX4_init_145 (by decide) (fun h3 => ?_) (fun h3 => ?_)
      · refine Zr_iload_n C dX4_init_153 rfl ?_
        have h4 : ¬ (10 : Int32) < x := Int32.not_lt.mpr h3
        rw [if_neg h4, if_neg h2] at hx
        refine Zr_topi hx ?_
        exact put
      · have h4 : (10 : Int32) < x := Int32.not_le.mp h3
        rw [if_pos h4, if_neg (by decide)] at hx
        refine Zr_bipush C (10) dX4_init_148 rfl ?_
        refine Zr_goto C 154 dX4_init_150 (by decide) ?_
        refine Zr_topi hx ?_
        exact put
    · have h2 : x < 2 := Int32.not_le.mp h
      have h4 : ¬ (10 : Int32) < x := fun h4 => absurd (Int32.lt_trans h4 h2) (by decide)
      rw [if_neg h4, if_pos h2] at hx
      refine Zr_iconst C (2) dX4_init_138 rfl ?_
      refine Zr_goto C 154 dX4_init_139 (by decide) ?_
      refine Zr_topi hx ?_
      exact put
  refine Zr_aload_n C dX4_init_0 rfl ?_
  refine Zr_obj C ob_X4 ob_i ob_c (Nat.le_refl 1) (Nat.le_of_ble_eq_true rfl) dX4_init_1 ?_
  have hM0 : kM K [] sh ad S sh ad S := ⟨hs.trans rfl, fun k hk => absurd hk List.not_mem_nil, hS, fun i _ => ⟨rfl, rfl⟩, fun i _ => rfl⟩
  have hq0 : ad (20, 0) = ad (20, 0) := rfl
  refine Zr_aload_n C dX4_init_4 rfl ?_
  refine Zr_bipush C (10) dX4_init_5 rfl ?_
  refine mStepZ C (L := []) (k := 8) (N := 10) hnm hM0 hq0 pr_X4_9 (by decide) (by decide) (by decide) (by decide) rfl (by decide) (by decide) (by decide) (Nat.le_of_ble_eq_true rfl) (Nat.le_of_ble_eq_true rfl) dX4_init_7 dX4_init_9 (fun sh1 ad1 S1 hM1 hq1 => ?_)
  refine Zr_aload_n C dX4_init_12 rfl ?_
  refine Zr_bipush C (10) dX4_init_13 rfl ?_
  refine mStepI C (L := [8]) (k := 9) (N := 10) hnm hM1 hq1 pr_X4_13 (by decide) (by decide) (by decide) (by decide) rfl (by decide) (by decide) (by decide) (Nat.le_of_ble_eq_true rfl) (Nat.le_of_ble_eq_true rfl) dX4_init_15 dX4_init_17 (fun sh2 ad2 S2 hM2 hq2 => ?_)
  refine Zr_aload_n C dX4_init_20 rfl ?_
  refine Zr_bipush C (10) dX4_init_21 rfl ?_
  refine mStepI C (L := [9, 8]) (k := 10) (N := 10) hnm hM2 hq2 pr_X4_17 (by decide) (by decide) (by decide) (by decide) rfl (by decide) (by decide) (by decide) (Nat.le_of_ble_eq_true rfl) (Nat.le_of_ble_eq_true rfl) dX4_init_23 dX4_init_25 (fun sh3 ad3 S3 hM3 hq3 => ?_)
  refine Zr_aload_n C dX4_init_28 rfl ?_
  refine Zr_bipush C (10) dX4_init_29 rfl ?_
  refine mStepI C (L := [10, 9, 8]) (k := 11) (N := 10) hnm hM3 hq3 pr_X4_20 (by decide) (by decide) (by decide) (by decide) rfl (by decide) (by decide) (by decide) (Nat.le_of_ble_eq_true rfl) (Nat.le_of_ble_eq_true rfl) dX4_init_31 dX4_init_33 (fun sh4 ad4 S4 hM4 hq4 => ?_)
  refine Zr_aload_n C dX4_init_36 rfl ?_
  refine Zr_bipush C (10) dX4_init_37 rfl ?_
  refine mStepZ C (L := [11, 10, 9, 8]) (k := 12) (N := 10) hnm hM4 hq4 pr_X4_23 (by decide) (by decide) (by decide) (by decide) rfl (by decide) (by decide) (by decide) (Nat.le_of_ble_eq_true rfl) (Nat.le_of_ble_eq_true rfl) dX4_init_39 dX4_init_41 (fun sh5 ad5 S5 hM5 hq5 => ?_)
  refine Zr_aload_n C dX4_init_44 rfl ?_
  refine Zr_bipush C (10) dX4_init_45 rfl ?_
  refine mStepZ C (L := [12, 11, 10, 9, 8]) (k := 13) (N := 10) hnm hM5 hq5 pr_X4_26 (by decide) (by decide) (by decide) (by decide) rfl (by decide) (by decide) (by decide) (Nat.le_of_ble_eq_true rfl) (Nat.le_of_ble_eq_true rfl) dX4_init_47 dX4_init_49 (fun sh6 ad6 S6 hM6 hq6 => ?_)
  refine Zr_aload_n C dX4_init_52 rfl ?_
  refine Zr_bipush C (10) dX4_init_53 rfl ?_
  refine mStepI C (L := [13, 12, 11, 10, 9, 8]) (k := 14) (N := 10) hnm hM6 hq6 pr_X4_29 (by decide) (by decide) (by decide) (by decide) rfl (by decide) (by decide) (by decide) (Nat.le_of_ble_eq_true rfl) (Nat.le_of_ble_eq_true rfl) dX4_init_55 dX4_init_57 (fun sh7 ad7 S7 hM7 hq7 => ?_)
  refine Zr_aload_n C dX4_init_60 rfl ?_
  refine Zr_bipush C (10) dX4_init_61 rfl ?_
  refine mStepI C (L := [14, 13, 12, 11, 10, 9, 8]) (k := 15) (N := 10) hnm hM7 hq7 pr_X4_32 (by decide) (by decide) (by decide) (by decide) rfl (by decide) (by decide) (by decide) (Nat.le_of_ble_eq_true rfl) (Nat.le_of_ble_eq_true rfl) dX4_init_63 dX4_init_65 (fun sh8 ad8 S8 hM8 hq8 => ?_)
  refine Zr_aload_n C dX4_init_68 rfl ?_
  refine Zr_bipush C (100) dX4_init_69 rfl ?_
  refine mStepZ C (L := [15, 14, 13, 12, 11, 10, 9, 8]) (k := 16) (N := 100) hnm hM8 hq8 pr_X4_35 (by decide) (by decide) (by decide) (by decide) rfl (by decide) (by decide) (by decide) (Nat.le_of_ble_eq_true rfl) (Nat.le_of_ble_eq_true rfl) dX4_init_71 dX4_init_73 (fun sh9 ad9 S9 hM9 hq9 => ?_)
  refine Zr_aload_n C dX4_init_76 rfl ?_
  refine Zr_bipush C (100) dX4_init_77 rfl ?_
  refine mStepZ C (L := [16, 15, 14, 13, 12, 11, 10, 9, 8]) (k := 17) (N := 100) hnm hM9 hq9 pr_X4_38 (by decide) (by decide) (by decide) (by decide) rfl (by decide) (by decide) (by decide) (Nat.le_of_ble_eq_true rfl) (Nat.le_of_ble_eq_true rfl) dX4_init_79 dX4_init_81 (fun sh10 ad10 S10 hM10 hq10 => ?_)
  refine Zr_aload_n C dX4_init_84 rfl ?_
  refine Zr_bipush C (100) dX4_init_85 rfl ?_
  refine mStepI C (L := [17, 16, 15, 14, 13, 12, 11, 10, 9, 8]) (k := 18) (N := 100) hnm hM10 hq10 pr_X4_41 (by decide) (by decide) (by decide) (by decide) rfl (by decide) (by decide) (by decide) (Nat.le_of_ble_eq_true rfl) (Nat.le_of_ble_eq_true rfl) dX4_init_87 dX4_init_89 (fun sh11 ad11 S11 hM11 hq11 => ?_)
  refine Zr_aload_n C dX4_init_92 rfl ?_
  refine Zr_bipush C (100) dX4_init_93 rfl ?_
  refine mStepI C (L := [18, 17, 16, 15, 14, 13, 12, 11, 10, 9, 8]) (k := 22) (N := 100) hnm hM11 hq11 pr_X4_44 (by decide) (by decide) (by decide) (by decide) rfl (by decide) (by decide) (by decide) (Nat.le_of_ble_eq_true rfl) (Nat.le_of_ble_eq_true rfl) dX4_init_95 dX4_init_97 (fun sh12 ad12 S12 hM12 hq12 => ?_)
  refine Zr_aload_n C dX4_init_100 rfl ?_
  refine Zr_ldc C ct_X4_47 dX4_init_101 ?_
  refine mStepI C (L := [22, 18, 17, 16, 15, 14, 13, 12, 11, 10, 9, 8]) (k := 23) (N := 64000) hnm hM12 hq12 pr_X4_48 (by decide) (by decide) (by decide) (by decide) rfl (by decide) (by decide) (by decide) (Nat.le_of_ble_eq_true rfl) (Nat.le_of_ble_eq_true rfl) dX4_init_103 dX4_init_105 (fun sh13 ad13 S13 hM13 hq13 => ?_)
  refine Zr_aload_n C dX4_init_108 rfl ?_
  refine Zr_ldc C ct_X4_47 dX4_init_109 ?_
  refine mStepI C (L := [23, 22, 18, 17, 16, 15, 14, 13, 12, 11, 10, 9, 8]) (k := 24) (N := 64000) hnm hM13 hq13 pr_X4_51 (by decide) (by decide) (by decide) (by decide) rfl (by decide) (by decide) (by decide) (Nat.le_of_ble_eq_true rfl) (Nat.le_of_ble_eq_true rfl) dX4_init_111 dX4_init_113 (fun sh14 ad14 S14 hM14 hq14 => ?_)
  refine Zr_aload_n C dX4_init_116 rfl ?_
  refine Zr_ldc C ct_X4_47 dX4_init_117 ?_
  refine mStepI C (L := [24, 23, 22, 18, 17, 16, 15, 14, 13, 12, 11, 10, 9, 8]) (k := 25) (N := 64000) hnm hM14 hq14 pr_X4_54 (by decide) (by decide) (by decide) (by decide) rfl (by decide) (by decide) (by decide) (Nat.le_of_ble_eq_true rfl) (Nat.le_of_ble_eq_true rfl) dX4_init_119 dX4_init_121 (fun sh15 ad15 S15 hM15 hq15 => ?_)
  refine Zr_aload_n C dX4_init_124 rfl ?_
  refine Zr_bipush C (10) dX4_init_125 rfl ?_
  refine mStepZ C (L := [25, 24, 23, 22, 18, 17, 16, 15, 14, 13, 12, 11, 10, 9, 8]) (k := 26) (N := 10) hnm hM15 hq15 pr_X4_57 (by decide) (by decide) (by decide) (by decide) rfl (by decide) (by decide) (by decide) (Nat.le_of_ble_eq_true rfl) (Nat.le_of_ble_eq_true rfl) dX4_init_127 dX4_init_129 (fun sh16 ad16 S16 hM16 hq16 => ?_)
  exact fin _ _ sh16 ad16 S16 (Nat.le_of_ble_eq_true rfl) (Nat.le_of_ble_eq_true rfl) hM16 hq16
