/-! ===== FRAME: a world whose cells have names (zI), its numbers (zSt), its shape (zSh), its addresses (zAd) ===== -/
abbrev zI : Type := Nat × Nat
abbrev zAd : Type := zI → Nat
abbrev zSt : Type := Nat → Nat → Nat → Int32
abbrev zSh : Type := zI → (Nat × List (Option zI)) ⊕ (ClassId × Nat × Option (Nat → Option zI))
def z3 (S : zSt) (a b k : Nat) (v : Int32) : zSt := fun a' b' k' => if a' = a ∧ b' = b ∧ k' = k then v else S a' b' k'
def zfl (ad : zAd) (g : Nat → Int32) : Nat → List (Option zI) → List Value
  | _, [] => []
  | k, none :: ds => Value.int (g k) :: zfl ad g (k + 1) ds
  | k, some j :: ds => (if j.1 = 99 then Value.null else Value.ref (ad j)) :: zfl ad g (k + 1) ds
def zpic (sh : zSh) (ad : zAd) (S : zSt) (i : zI) : va_E := match sh i with
  | .inl x => .inr (x.1, zfl ad (S i.1 i.2) 0 x.2)
  | .inr (cA, n, none) => .inl (cA, n, .inl (S i.1 i.2))
  | .inr (cA, n, some f) => .inl (cA, n, .inr (.inr (.inr (.inr (fun k => (f k).map ad)))))
def zws (IL : List zI) (sh : zSh) (ad : zAd) (S : zSt) : va_W := IL.map (fun i => (ad i, zpic sh ad S i))
theorem zfl_get {ad : zAd} {g : Nat → Int32} : ∀ {ds : List (Option zI)} {j k : Nat}, ds[k]? = some none → (zfl ad g j ds)[k]? = some (.int (g (j + k)))
  | [], j, k, h => by simp at h
  | none :: ds, j, 0, _ => by simp [zfl]
  | some i :: ds, j, 0, h => by simp at h
  | none :: ds, j, k + 1, h => by
    have h2 : ds[k]? = some none := by simpa using h
    have := zfl_get (ad := ad) (g := g) (j := j + 1) h2
    simp only [zfl, List.getElem?_cons_succ, this]
    congr 3; omega
  | some i :: ds, j, k + 1, h => by
    have h2 : ds[k]? = some none := by simpa using h
    have := zfl_get (ad := ad) (g := g) (j := j + 1) h2
    simp only [zfl, List.getElem?_cons_succ, this]
    congr 3; omega
theorem zfl_getR {ad : zAd} {g : Nat → Int32} {i : zI} (h99 : i.1 ≠ 99) : ∀ {ds : List (Option zI)} {j k : Nat}, ds[k]? = some (some i) → (zfl ad g j ds)[k]? = some (.ref (ad i))
  | [], j, k, h => by simp at h
  | none :: ds, j, 0, h => by simp at h
  | some i' :: ds, j, 0, h => by simp at h; subst h; simp [zfl, h99]
  | none :: ds, j, k + 1, h => by
    have h2 : ds[k]? = some (some i) := by simpa using h
    simpa [zfl] using zfl_getR (ad := ad) (g := g) h99 (j := j + 1) h2
  | some i' :: ds, j, k + 1, h => by
    have h2 : ds[k]? = some (some i) := by simpa using h
    simpa [zfl] using zfl_getR (ad := ad) (g := g) h99 (j := j + 1) h2
theorem zfl_cong {ad : zAd} {g g' : Nat → Int32} : ∀ {ds : List (Option zI)} {j : Nat}, (∀ k, j ≤ k → g k = g' k) → zfl ad g j ds = zfl ad g' j ds
  | [], j, _ => rfl
  | none :: ds, j, h => by
    simp only [zfl]
    rw [h j (Nat.le_refl _), zfl_cong (ds := ds) (fun k hk => h k (by omega))]
  | some i :: ds, j, h => by
    simp only [zfl]
    rw [zfl_cong (ds := ds) (fun k hk => h k (by omega))]
theorem zfl_set {ad : zAd} {g : Nat → Int32} {v : Int32} : ∀ {ds : List (Option zI)} {j k : Nat}, ds[k]? = some none → (zfl ad g j ds).set k (.int v) = zfl ad (fun x => if x = j + k then v else g x) j ds
  | [], j, k, h => by simp at h
  | none :: ds, j, 0, _ => by
    simp only [zfl, List.set_cons_zero, Nat.add_zero, if_true]
    rw [zfl_cong (ds := ds)]
    intro k hk
    rw [if_neg (by omega)]
  | some i :: ds, j, 0, h => by simp at h
  | none :: ds, j, k + 1, h => by
    have h2 : ds[k]? = some none := by simpa using h
    simp only [zfl, List.set_cons_succ]
    rw [zfl_set (j := j + 1) h2, if_neg (by omega)]
    congr 2
    funext x
    rw [show j + 1 + k = j + (k + 1) by omega]
  | some i :: ds, j, k + 1, h => by
    have h2 : ds[k]? = some none := by simpa using h
    simp only [zfl, List.set_cons_succ]
    rw [zfl_set (j := j + 1) h2]
    congr 2
    funext x
    rw [show j + 1 + k = j + (k + 1) by omega]
theorem zfl_len {ad : zAd} {g : Nat → Int32} : ∀ {ds : List (Option zI)} {j : Nat}, (zfl ad g j ds).length = ds.length
  | [], j => rfl
  | none :: ds, j => by simp [zfl, zfl_len (ds := ds)]
  | some i :: ds, j => by simp [zfl, zfl_len (ds := ds)]
theorem zpic_obj {sh : zSh} {ad : zAd} {S : zSt} {i : zI} {ci : Nat} {ds : List (Option zI)} (h : sh i = .inl (ci, ds)) : zpic sh ad S i = .inr (ci, zfl ad (S i.1 i.2) 0 ds) := by
  simp only [zpic, h]
theorem zpic_arr {sh : zSh} {ad : zAd} {S : zSt} {i : zI} {cA : ClassId} {n : Nat} (h : sh i = .inr (cA, n, none)) : zpic sh ad S i = .inl (cA, n, .inl (S i.1 i.2)) := by
  simp only [zpic, h]
theorem zpic_ref {sh : zSh} {ad : zAd} {S : zSt} {i : zI} {cA : ClassId} {n : Nat} {f : Nat → Option zI} (h : sh i = .inr (cA, n, some f)) : zpic sh ad S i = .inl (cA, n, .inr (.inr (.inr (.inr (fun k => (f k).map ad))))) := by
  simp only [zpic, h]
theorem zpic_ne {sh : zSh} {ad : zAd} {S : zSt} {i : zI} {k : Nat} {v : Int32} {j : zI} (h : j ≠ i) : zpic sh ad (z3 S i.1 i.2 k v) j = zpic sh ad S j := by
  have hg : (z3 S i.1 i.2 k v) j.1 j.2 = S j.1 j.2 := by
    funext x
    simp only [z3]
    rw [if_neg]
    rintro ⟨h1, h2, -⟩
    exact h (Prod.ext h1 h2)
  simp only [zpic, hg]
theorem z3_row (S : zSt) (a b k : Nat) (v : Int32) : (z3 S a b k v) a b = fun x => if x = k then v else S a b x := by
  funext x
  simp [z3]
theorem zws_at {IL : List zI} {sh : zSh} {ad : zAd} {S : zSt} {i : zI} (h : i ∈ IL) : ∃ k : Nat, IL[k]? = some i ∧ (zws IL sh ad S)[k]? = some (ad i, zpic sh ad S i) := by
  obtain ⟨k, hk⟩ := List.getElem?_of_mem h
  exact ⟨k, hk, by simp [zws, hk]⟩
theorem zws_set {A : Nat → Prop} {IL : List zI} {sh sh' : zSh} {ad : zAd} {S S' : zSt} {i : zI} {k : Nat} {e : va_E} (hD : va_D A (zws IL sh ad S)) (hk : IL[k]? = some i) (he : zpic sh' ad S' i = e) (ho : ∀ j, j ≠ i → zpic sh' ad S' j = zpic sh ad S j) : (zws IL sh ad S).set k (ad i, e) = zws IL sh' ad S' := by
  have hk' : (zws IL sh ad S)[k]? = some (ad i, zpic sh ad S i) := by simp [zws, hk]
  have hl := (List.getElem?_eq_some_iff.mp hk').1
  apply List.ext_getElem?
  intro x
  by_cases hx : x = k
  · subst hx
    rw [List.getElem?_set_self hl]
    simp [zws, hk, he]
  · rw [List.getElem?_set_ne (Ne.symm hx)]
    simp only [zws, List.getElem?_map]
    cases hj : IL[x]? with
    | none => rfl
    | some j =>
      simp only [Option.map_some]
      have hne : j ≠ i := by
        intro h
        subst h
        exact hx (hD.1 x k (ad j, zpic sh ad S j) (ad j, zpic sh ad S j) (by simp [zws, hj]) hk' rfl)
      rw [ho j hne]
/-! the locals: a place holds a value of one word, or nothing is known of it -/
def zlv (lv : List (Option Value)) : List (Nat × Value) := (List.range lv.length).filterMap (fun i => (lv.getD i none).map (fun v => (i, v)))
theorem zlv_mem {lv : List (Option Value)} {q : Nat × Value} : q ∈ zlv lv ↔ lv[q.1]? = some (some q.2) := by
  obtain ⟨i, v⟩ := q
  simp only [zlv, List.mem_filterMap, List.mem_range, Option.map_eq_some_iff, Prod.mk.injEq]
  constructor
  · rintro ⟨j, hj, w, hw, rfl, rfl⟩
    rw [List.getD_eq_getElem?_getD] at hw
    rw [List.getElem?_eq_getElem hj] at hw ⊢
    simpa using hw
  · intro h
    have hl := (List.getElem?_eq_some_iff.mp h).1
    exact ⟨i, hl, v, by rw [List.getD_eq_getElem?_getD, h]; rfl, rfl, rfl⟩
def zl (ls : Array Slot) (nL : Nat) (lv : List (Option Value)) : Prop := lv_has ls nL (zlv lv) ∧ ∀ q ∈ zlv lv, q.2.category = 1
theorem zl_at {ls : Array Slot} {nL : Nat} {lv : List (Option Value)} (h : zl ls nL lv) {i : Nat} {v : Value} (hv : lv[i]? = some (some v)) : ls[i]? = some (.val v) := h.1.2.2 (i, v) (zlv_mem.mpr hv)
theorem zl_sub {ls : Array Slot} {nL : Nat} {lv lv' : List (Option Value)} (h : zl ls nL lv) (hs : ∀ (i : Nat) (v : Value), lv'[i]? = some (some v) → lv[i]? = some (some v)) : zl ls nL lv' :=
  ⟨⟨h.1.1, h.1.2.1, fun q hq => h.1.2.2 q (zlv_mem.mpr (hs q.1 q.2 (zlv_mem.mp hq)))⟩, fun q hq => h.2 q (zlv_mem.mpr (hs q.1 q.2 (zlv_mem.mp hq)))⟩
theorem zl_set {ls ls' : Array Slot} {nL : Nat} {lv : List (Option Value)} {i : Nat} {v : Value} (h : zl ls nL lv) (hc : v.category = 1) (h' : lv_has ls' nL ((i, v) :: (zlv lv).filter (fun q => !(q.1 == i) && !(q.1 + 1 == i && q.2.category == 2)))) : zl ls' nL (lv.set i (some v)) := by
  have key : ∀ q ∈ zlv (lv.set i (some v)), q = (i, v) ∨ (q.1 ≠ i ∧ q ∈ zlv lv) := by
    intro q hq
    have h1 := zlv_mem.mp hq
    by_cases hi : q.1 = i
    · rw [hi] at h1
      have hl := (List.getElem?_eq_some_iff.mp h1).1
      rw [List.length_set] at hl
      rw [List.getElem?_set_self hl] at h1
      left
      have : q.2 = v := by simpa using h1.symm
      exact Prod.ext hi this
    · rw [List.getElem?_set_ne (Ne.symm hi)] at h1
      exact Or.inr ⟨hi, zlv_mem.mpr h1⟩
  refine ⟨⟨h'.1, h'.2.1, fun q hq => ?_⟩, fun q hq => ?_⟩
  · rcases key q hq with rfl | ⟨h1, h2⟩
    · exact h'.2.2 _ List.mem_cons_self
    · refine h'.2.2 q (List.mem_cons_of_mem _ (List.mem_filter.mpr ⟨h2, ?_⟩))
      simp [h1, h.2 q h2]
  · rcases key q hq with rfl | ⟨-, h2⟩
    · exact hc
    · exact h.2 q h2
