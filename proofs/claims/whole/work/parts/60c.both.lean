/-! ===== BOTH WORLDS SIDE BY SIDE: the class under its names, the reference's names 20 higher ===== -/
def xU (i : zI) : zI := (20 + i.1, i.2)
def xD (i : zI) : zI := (i.1 - 20, i.2)
def xR (K : zKs) (i : zI) : (Nat × List (Option zI)) ⊕ (ClassId × Nat × Option (Nat → Option zI)) := match rSh K i with
  | .inl y => .inl (y.1, y.2.map (Option.map xU))
  | .inr y => .inr y
def xSh (K : zKs) (n : Nat) (cap : Nat → Nat) : zSh := fun i => if i.1 < 20 then cSh K n cap i else xR K (xD i)
def xA (a b : zAd) : zAd := fun i => if i.1 < 20 then a i else b (xD i)
def xS (S T : zSt) : zSt := fun a b => if a < 20 then S a b else T (a - 20) b
def xIL (n : Nat) : List zI := cIL n ++ rIL.map xU
theorem c_small {n : Nat} {i : zI} (h : i ∈ cIL n) : i.1 < 8 := by
  rcases cIL_mem.mp h with rfl | rfl | rfl | rfl | ⟨h, -⟩ | ⟨h, -⟩ | ⟨h, -⟩ | ⟨h, -⟩ <;> first | decide | omega
theorem xU_inj {i j : zI} (h : xU i = xU j) : i = j := by
  obtain ⟨a, b⟩ := i
  obtain ⟨c, d⟩ := j
  simp only [xU, Prod.mk.injEq] at h
  exact Prod.ext (by dsimp only; omega) h.2
theorem xDU (i : zI) : xD (xU i) = i := by
  obtain ⟨a, b⟩ := i
  simp [xU, xD]
theorem xIL_mem {n : Nat} {i : zI} (h : i ∈ xIL n) : (i.1 < 20 ∧ i ∈ cIL n) ∨ (20 ≤ i.1 ∧ xD i ∈ rIL ∧ xU (xD i) = i) := by
  rcases List.mem_append.mp h with h | h
  · exact Or.inl ⟨Nat.lt_trans (c_small h) (by decide), h⟩
  · obtain ⟨j, hj, rfl⟩ := List.mem_map.mp h
    exact Or.inr ⟨by simp [xU], by rw [xDU]; exact hj, by rw [xDU]⟩
theorem xIL_nodup (n : Nat) : (xIL n).Nodup := by
  refine List.nodup_append.mpr ⟨cIL_nodup n, nodup_map (fun a b h => xU_inj h) (by decide), fun x hx y hy hxy => ?_⟩
  subst hxy
  obtain ⟨j, hj, rfl⟩ := List.mem_map.mp hy
  have := c_small hx
  simp [xU] at this
  omega
theorem xP_c {K : zKs} {n : Nat} {cap : Nat → Nat} {a b : zAd} {S T : zSt} {i : zI} (h : i ∈ cIL n) : zpic (xSh K n cap) (xA a b) (xS S T) i = zpic (cSh K n cap) a S i := by
  obtain ⟨x, y⟩ := i
  have h8 : x < 8 := c_small h
  rcases (show x = 0 ∨ x = 1 ∨ x = 2 ∨ x = 3 ∨ x = 4 ∨ x = 5 ∨ x = 6 ∨ x = 7 by omega) with rfl | rfl | rfl | rfl | rfl | rfl | rfl | rfl <;> simp [zpic, xSh, cSh, zfl, xA, xS]
  funext k
  split <;> simp [xA]
theorem xA_c {n : Nat} {a b : zAd} {i : zI} (h : i ∈ cIL n) : xA a b i = a i := if_pos (Nat.lt_trans (c_small h) (by decide))
theorem xA_r {a b : zAd} (i : zI) : xA a b (xU i) = b i := by
  have h : ¬ (xU i).1 < 20 := by simp [xU]
  simp only [xA, if_neg h, xDU]
theorem xP_r {K : zKs} {n : Nat} {cap : Nat → Nat} {a b : zAd} {S T : zSt} {i : zI} (h : i ∈ rIL) : zpic (xSh K n cap) (xA a b) (xS S T) (xU i) = zpic (rSh K) b T i := by
  have hsh : xSh K n cap (xU i) = xR K i := by
    have h : ¬ (xU i).1 < 20 := by simp [xU]
    simp only [xSh, if_neg h, xDU]
  have hS : xS S T (xU i).1 (xU i).2 = T i.1 i.2 := by
    have h : ¬ (xU i).1 < 20 := by simp [xU]
    simp only [xS, if_neg h]
    simp [xU]
  obtain ⟨x, y⟩ := i
  have h2 : (x = 0 ∧ y = 0) ∨ x = 1 := by
    simp only [rIL, List.mem_cons, Prod.mk.injEq, List.not_mem_nil, or_false] at h
    omega
  rcases h2 with ⟨rfl, rfl⟩ | rfl
  · simp only [zpic, hsh, hS, xR, rSh]
    simp [zfl, xA, xU, xD]
  · obtain ⟨cA, N, e⟩ := rSh1 K y
    have e2 : xR K (1, y) = .inr (cA, N, none) := by simp only [xR, e]
    rw [zpic_arr (hsh.trans e2), zpic_arr e, hS]
section ZXX
variable {p : Program} {l : Launch} {e : Env} {R : Room} {s : State} {m : MethodId} {args : Array Value} {below : List Frame} {meth : Method} {c : Code} {Q : State → Prop} {cells slots : Nat}
variable {cc : ByteArray} {nL : Nat} {ret : Option FieldType} {D : va_G} {K : zKs} {A : Nat → Prop} {pc : Nat} {lv : List (Option Value)} {st : List Value}
/-- a call of the class -/
theorem Zx_c (C : zX p s m args meth c RL cc nL ret D K A) {y : MethodName} {b : ByteArray} {nLc na idx n : Nat} {retc : Option FieldType} {rm : Room} {st0 : List Value} {post : Option Value → zSh → zAd → zSt → Prop} {σ σ' : aS} {ad ar : zAd} {ca : Nat → Nat} {S T : zSt} {V : Int32} (As : List Value) (cw : zCV RL idx RX3 y b nLc retc na) (hM : zMet l y b nLc retc rm D K (cIL n) (cSh K n (cpo n σ.2.2)) (zA ad ca) S (.ref (zA ad ca (0, 0)) :: As) post) (hp : ∀ v sh' ad' S', post v sh' ad' S' → cP K n ad (some (.int V)) σ' v sh' ad' S') (hst : st0 = As.reverse ++ .ref (zA ad ca (0, 0)) :: st) (hfr : rm.frames + 1 ≤ R.frames) (hlo : 8 + (nLc + 11) + rm.locals ≤ R.locals) (hn : As.length = na) (hcat : (st.map fun v => v.category).sum ≤ 8) (hd : decode cc pc = .ok (.invokevirtual idx, 3)) (hroom : cells + rm.cells ≤ R.cells ∧ slots + rm.slots ≤ R.slots) (kk : ∀ (ca' : Nat → Nat) (S' : zSt), cRel n σ' S' → Z p l e R s m args below meth c D A nL Q (xIL n) (cells + rm.cells) (slots + rm.slots) (xSh K n (cpo n σ'.2.2)) (xA (zA ad ca') ar) (xS S' T) (pc + 3) lv (.int V :: st)) : Z p l e R s m args below meth c D A nL Q (xIL n) cells slots (xSh K n (cpo n σ.2.2)) (xA (zA ad ca) ar) (xS S T) pc lv st0 := by
  refine Zr_invVF C (T := TX3) (N := 11) id As cw hM cm0 rfl rfl (cIL_nodup n) (fun _ _ _ _ h => h) (fun j hj => ⟨List.mem_append_left _ hj, (xA_c hj).symm, (xP_c hj).symm⟩) hst hfr hlo hn hcat hd hroom (fun v sh' ad' S' h => ?_)
  obtain ⟨rfl, rfl, ⟨ca', rfl⟩, hR⟩ := hp v sh' ad' S' h
  refine ⟨xIL n, _, _, _, fun i => decide (i.1 < 20), id, xIL_nodup n, fun i hi hc => ?_, fun i _ j _ _ _ h => h, fun i hi hc => ?_, kk ca' S' hR⟩
  · have hc := of_decide_eq_true hc
    rcases xIL_mem hi with ⟨-, h⟩ | ⟨h, -⟩
    · exact ⟨h, xA_c h, xP_c h⟩
    · omega
  · have hc := of_decide_eq_false hc
    rcases xIL_mem hi with ⟨h, -⟩ | ⟨h1, h2, h3⟩
    · exact absurd h hc
    · refine ⟨hi, fun j hj hji => ?_, ?_, ?_⟩
      · have := c_small hj
        rw [show j = i from hji] at this
        omega
      · rw [← h3, xA_r, xA_r]
      · rw [← h3, xP_r h2, xP_r h2]
/-- a call of the reference -/
theorem Zx_r (C : zX p s m args meth c RL cc nL ret D K A) {y : MethodName} {b : ByteArray} {nLc na idx n : Nat} {retc : Option FieldType} {rm : Room} {st0 : List Value} {post : Option Value → zSh → zAd → zSt → Prop} {σ' : aS} {cap : Nat → Nat} {ac ar : zAd} {S T : zSt} {V : Int32} (As : List Value) (cw : zCV RL idx RX4 y b nLc retc na) (hM : zMet l y b nLc retc rm D K rIL (rSh K) ar T (.ref (ar (0, 0)) :: As) post) (hp : ∀ v sh' ad' S', post v sh' ad' S' → zR (some (.int V)) (rSh K) ar (rRel σ') v sh' ad' S') (hst : st0 = As.reverse ++ .ref (ar (0, 0)) :: st) (hfr : rm.frames + 1 ≤ R.frames) (hlo : 8 + (nLc + 11) + rm.locals ≤ R.locals) (hn : As.length = na) (hcat : (st.map fun v => v.category).sum ≤ 8) (hd : decode cc pc = .ok (.invokevirtual idx, 3)) (hroom : cells + rm.cells ≤ R.cells ∧ slots + rm.slots ≤ R.slots) (kk : ∀ (T' : zSt), rRel σ' T' → Z p l e R s m args below meth c D A nL Q (xIL n) (cells + rm.cells) (slots + rm.slots) (xSh K n cap) (xA ac ar) (xS S T') (pc + 3) lv (.int V :: st)) : Z p l e R s m args below meth c D A nL Q (xIL n) cells slots (xSh K n cap) (xA ac ar) (xS S T) pc lv st0 := by
  refine Zr_invVF C (T := TX4) (N := 27) xU As cw hM qm0 rfl rfl (by decide) (fun _ _ _ _ h => xU_inj h) (fun j hj => ⟨List.mem_append_right _ (List.mem_map.mpr ⟨j, hj, rfl⟩), (xA_r j).symm, (xP_r hj).symm⟩) hst hfr hlo hn hcat hd hroom (fun v sh' ad' S' h => ?_)
  obtain ⟨rfl, rfl, rfl, hR⟩ := hp v sh' ad' S' h
  refine ⟨xIL n, _, _, _, fun i => decide (20 ≤ i.1), xD, xIL_nodup n, fun i hi hc => ?_, fun i hi j hj h1 h2 h => ?_, fun i hi hc => ?_, kk S' hR⟩
  · have hc := of_decide_eq_true hc
    rcases xIL_mem hi with ⟨h, -⟩ | ⟨h1, h2, h3⟩
    · omega
    · refine ⟨h2, ?_, ?_⟩
      · rw [← h3, xA_r, xDU]
      · rw [← h3, xP_r h2, xDU]
  · have h1 := of_decide_eq_true h1
    have h2 := of_decide_eq_true h2
    obtain ⟨a, b⟩ := i
    obtain ⟨c, d⟩ := j
    simp only [xD, Prod.mk.injEq] at h
    dsimp only at h1 h2
    exact Prod.ext (by dsimp only; omega) h.2
  · have hc := of_decide_eq_false hc
    rcases xIL_mem hi with ⟨h, hcm⟩ | ⟨h, -⟩
    · refine ⟨hi, fun j hj hji => ?_, ?_, ?_⟩
      · rw [← hji] at h
        simp [xU] at h
        omega
      · exact (xA_c hcm).trans (xA_c hcm).symm
      · rw [xP_c hcm, xP_c hcm]
    · exact absurd h hc
end ZXX
