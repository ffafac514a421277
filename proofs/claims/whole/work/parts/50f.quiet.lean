theorem cIL_mem {n : Nat} {i : zI} : i ∈ cIL n ↔ i = (0, 0) ∨ i = (1, 0) ∨ i = (2, 0) ∨ i = (3, 0) ∨ (i.1 = 4 ∧ i.2 < n) ∨ (i.1 = 5 ∧ i.2 < n) ∨ (i.1 = 6 ∧ cRow n i.2) ∨ (i.1 = 7 ∧ cRow n i.2) := by
  obtain ⟨a, b⟩ := i
  simp only [cIL, List.mem_cons, List.mem_append, List.mem_map, List.mem_range, cRs_mem, Prod.mk.injEq, List.not_mem_nil, or_false]
  constructor
  · rintro ((((((h | h | h | h) | ⟨x, hx, rfl, rfl⟩) | ⟨x, hx, rfl, rfl⟩) | ⟨x, hx, rfl, rfl⟩) | ⟨x, hx, rfl, rfl⟩))
    · exact Or.inl h
    · exact Or.inr (Or.inl h)
    · exact Or.inr (Or.inr (Or.inl h))
    · exact Or.inr (Or.inr (Or.inr (Or.inl h)))
    · exact Or.inr (Or.inr (Or.inr (Or.inr (Or.inl ⟨rfl, hx⟩))))
    · exact Or.inr (Or.inr (Or.inr (Or.inr (Or.inr (Or.inl ⟨rfl, hx⟩)))))
    · exact Or.inr (Or.inr (Or.inr (Or.inr (Or.inr (Or.inr (Or.inl ⟨rfl, hx⟩))))))
    · exact Or.inr (Or.inr (Or.inr (Or.inr (Or.inr (Or.inr (Or.inr ⟨rfl, hx⟩))))))
  · rintro (h | h | h | h | ⟨rfl, hx⟩ | ⟨rfl, hx⟩ | ⟨rfl, hx⟩ | ⟨rfl, hx⟩)
    · exact Or.inl (Or.inl (Or.inl (Or.inl (Or.inl h))))
    · exact Or.inl (Or.inl (Or.inl (Or.inl (Or.inr (Or.inl h)))))
    · exact Or.inl (Or.inl (Or.inl (Or.inl (Or.inr (Or.inr (Or.inl h))))))
    · exact Or.inl (Or.inl (Or.inl (Or.inl (Or.inr (Or.inr (Or.inr h))))))
    · exact Or.inl (Or.inl (Or.inl (Or.inr ⟨b, hx, rfl, rfl⟩)))
    · exact Or.inl (Or.inl (Or.inr ⟨b, hx, rfl, rfl⟩))
    · exact Or.inl (Or.inr ⟨b, hx, rfl, rfl⟩)
    · exact Or.inr ⟨b, hx, rfl, rfl⟩
def kR3 (K : zKs) (n : Nat) (sh : zSh) (ad : zAd) (S : zSt) : Option Value → zSh → zAd → zSt → Prop := fun v sh' ad' S' => v = none ∧ (∀ i ∈ cIL n, sh' i = cSh K n (fun _ => 4) i) ∧ S' 0 0 = (fun k => if k = 0 then nI n else 0) ∧ S' 3 0 = (fun _ => 0) ∧ (∀ q, q < n → S' 4 q = kw0 ∧ S' 5 q = (fun _ => 0)) ∧ (∀ r, cRow n r → S' 6 r = (fun _ => 0) ∧ S' 7 r = (fun _ => 0)) ∧ zKp (fun i => i.1 ≤ 7) (fun i => i.1 ≤ 7 ∧ i ≠ (0, 0)) sh ad S sh' ad' S'
abbrev fds (a b c : zI) : List (Option zI) := [none, some a, some b, some c, none, none, none, none, none, none, none]
set_option maxHeartbeats 2000000 in
theorem k_X3_init {l : Launch} {D : va_G} {K : zKs} {n : Nat} {x : Int32} {sh : zSh} {ad : zAd} {S : zSt} (hn2 : 2 ≤ n) (hn : n ≤ 10) (hx : (if (if (10 : Int32) < x then 10 else x) < 2 then 2 else (if (10 : Int32) < x then 10 else x)) = nI n) (hs : sh (0, 0) = .inl (3, nds3)) (hS : S 0 0 = fun _ => 0) : zMetG l yX3_init cX3_init 3 none { frames := 3, cells := 300, slots := 1200, locals := 80 } D K [(0, 0)] sh ad S [.ref (ad (0, 0)), .int x] (cIL n) (kR3 K n sh ad S) := by
  refine zEnterG (own := RX3) (lv0 := [some (.ref (ad (0, 0))), some (.int x), none]) (by decide) rfl (by simp [Value.category]) (Nat.le_of_ble_eq_true rfl) rfl ?_
  intro p e s m below meth c A C _ hnm
  have hnn : n * n ≤ 100 := Nat.mul_le_mul hn hn
  refine Zr_aload_n C dX3_init_0 rfl ?_
  refine Zr_obj C ob_X3 ob_i ob_c (by decide) (by decide) dX3_init_1 ?_
  refine Zr_iload_n C dX3_init_4 rfl ?_
  refine Zr_bipush C (10) dX3_init_5 rfl ?_
  refine Zr_mmin C mw1 mw2 mw7 mw3 (by decide) (by decide) (by decide) (by decide) dX3_init_7 ?_
  refine Zr_istore_n C dX3_init_10 (by decide) ?_
  refine Zr_aload_n C dX3_init_11 rfl ?_
  refine Zr_iload_n C dX3_init_12 rfl ?_
  refine Zr_iconst C (2) dX3_init_13 rfl ?_
  refine Zr_mmax C mw4 mw5 mw7 mw6 (by decide) (Nat.le_of_ble_eq_true rfl) (by decide) (by decide) dX3_init_14 ?_
  refine Zr_topi hx ?_
  refine Zr_putI C pi_X3_18 hnm (by simp) rfl hs rfl (znI _) dX3_init_17 ?_
  refine Zr_aload_n C dX3_init_20 rfl ?_
  refine Zr_aload_n C dX3_init_21 rfl ?_
  refine Zr_getE C gf_X3_18 (v := nI n) (by simp) rfl hs rfl (by simp [z3]) dX3_init_22 ?_
  refine Zr_invSG C (st := [.ref (ad (0, 0))]) [.int (nI n)] cw_X3_22 (k_X3_newWorkers hn) List.nodup_nil (fun i hi => by cases hi) rfl (Nat.le_of_ble_eq_true rfl) (Nat.le_of_ble_eq_true rfl) rfl (Nat.le_of_ble_eq_true rfl) dX3_init_25 ⟨by show 0 + (1 + 2 * n) ≤ 300; omega, by show 0 + (n + 21 * n) ≤ 1200; omega⟩ ((0, 0) :: wIL n) (fun v sh1 ad1 S1 hp => ?_)
  obtain ⟨rfl, q1, qW, qk⟩ := hp
  have hnin0 : (0, 0) ∉ wIL n := fun h => by rcases wIL_mem.mp h with h | ⟨h, -⟩ | ⟨h, -⟩ <;> simp at h
  have a00 : ad1 (0, 0) = ad (0, 0) := qk.2 (0, 0) (by simp)
  have s00 : sh1 (0, 0) = .inl (3, nds3) := (qk.1 (0, 0) (by simp)).1.trans hs
  have S00 : S1 0 0 = fun k => if k = 0 then nI n else 0 := by
    rw [(qk.1 (0, 0) (by simp)).2, z3_row, hS]
  refine ⟨⟨List.nodup_cons.mpr ⟨hnin0, wIL_nodup n⟩, fun i hi => ?_⟩, ?_⟩
  · rcases List.mem_cons.mp hi with rfl | h
    · refine Or.inr ⟨by simp, by simp, hnin0, a00, qk.pic (by simp) ?_⟩
      rw [hs]
      simp [zNo]
    · exact Or.inl h
  refine Zr_putR C (1, 0) pr_X3_26 (fun _ => hnm) (by simp) a00.symm rfl (by simp) s00 (Nat.le_of_ble_eq_true rfl) dX3_init_28 ?_
  refine Zr_aload_n C dX3_init_31 rfl ?_
  refine Zr_aload_n C dX3_init_32 rfl ?_
  refine Zr_getE C gf_X3_18 (v := nI n) (ds := fds (1, 0) (99, 0) (99, 0)) (by simp) a00.symm (by simp) rfl (by rw [S00]; simp) dX3_init_33 ?_
  have hsW : ∀ i ∈ wIL n, (if i = (0, 0) then (.inl (3, fds (1, 0) (99, 0) (99, 0)) : (Nat × List (Option zI)) ⊕ (ClassId × Nat × Option (Nat → Option zI))) else sh1 i) = sh1 i := fun i hi => if_neg (fun (h : i = (0, 0)) => hnin0 (h ▸ hi))
  have noW : ∀ i ∈ wIL n, zNo (fun i => i.1 = 2 ∨ i.1 = 6 ∨ i.1 = 7) (sh1 i) ∧ zNo (fun i => i = (3, 0)) (sh1 i) := by
    intro i hi
    obtain ⟨a, b⟩ := i
    rcases wIL_mem.mp hi with h | ⟨h, hb⟩ | ⟨h, hb⟩
    · rw [h, q1]
      refine ⟨fun x j hx hj => ?_, fun x j hx hj => ?_⟩
      · cases hx; simp at hj
      · cases hx; simp at hj
    · dsimp only at h hb
      subst h
      rw [(qW b hb).1]
      exact ⟨by simp [zNo], by simp [zNo]⟩
    · dsimp only at h hb
      subst h
      rw [(qW b hb).2.1]
      exact ⟨trivial, trivial⟩
  refine Zr_invSG C (st := [.ref (ad (0, 0))]) [.int (nI n)] cw_X3_30 (k_X3_newRows hn2 hn) List.nodup_nil (fun i hi => by cases hi) rfl (Nat.le_of_ble_eq_true rfl) (Nat.le_of_ble_eq_true rfl) rfl (Nat.le_of_ble_eq_true rfl) dX3_init_36 ⟨by show 0 + (1 + 2 * n) + (1 + 2 * (n * n)) ≤ 300; omega, by show 0 + (n + 21 * n) + (n * n + 8 * (n * n)) ≤ 1200; omega⟩ (((0, 0) :: wIL n) ++ oIL n (n * n)) (fun v sh3 ad3 S3 hp => ?_)
  obtain ⟨rfl, o1, oW, ok⟩ := hp
  have apart : ∀ i ∈ (0, 0) :: wIL n, ¬ (i.1 = 2 ∨ i.1 = 6 ∨ i.1 = 7) := by
    intro i hi h
    rcases List.mem_cons.mp hi with rfl | hi
    · simp at h
    · rcases wIL_mem.mp hi with rfl | ⟨h1, -⟩ | ⟨h1, -⟩
      · simp at h
      · rw [h1] at h; simp at h
      · rw [h1] at h; simp at h
  have inO : ∀ i ∈ oIL n (n * n), i.1 = 2 ∨ i.1 = 6 ∨ i.1 = 7 := by
    intro i hi
    rcases oIL_mem.mp hi with rfl | ⟨h1, -⟩ | ⟨h1, -⟩
    · exact Or.inl rfl
    · exact Or.inr (Or.inl h1)
    · exact Or.inr (Or.inr h1)
  have hnd : (((0, 0) :: wIL n) ++ oIL n (n * n)).Nodup := by
    refine List.nodup_append.mpr ⟨List.nodup_cons.mpr ⟨hnin0, wIL_nodup n⟩, oIL_nodup _ _, fun x hx y hy hxy => ?_⟩
    subst hxy
    exact apart x hx (inO x hy)
  refine ⟨⟨hnd, fun i hi => ?_⟩, ?_⟩
  · rcases List.mem_append.mp hi with h | h
    · have hn1 := apart i h
      refine Or.inr ⟨h, by simp, fun h2 => hn1 (inO i h2), ok.2 i hn1, ok.pic hn1 ?_⟩
      rcases List.mem_cons.mp h with rfl | h
      · simp [zNo]
      · have := (noW i h).1
        rw [if_neg (fun (h2 : i = (0, 0)) => hnin0 (h2 ▸ h))]
        exact this
    · exact Or.inl h
  have b00 : ad3 (0, 0) = ad (0, 0) := (ok.2 (0, 0) (by simp)).trans a00
  have t00 : sh3 (0, 0) = .inl (3, fds (1, 0) (99, 0) (99, 0)) := (ok.1 (0, 0) (by simp)).1.trans (by simp)
  have T00 : S3 0 0 = fun k => if k = 0 then nI n else 0 := (ok.1 (0, 0) (by simp)).2.trans S00
  refine Zr_putR C (2, 0) pr_X3_34 (fun _ => hnm) (by simp) b00.symm rfl (by simp) t00 (Nat.le_of_ble_eq_true rfl) dX3_init_39 ?_
  refine Zr_aload_n C dX3_init_42 rfl ?_
  have h3n : (3, 0) ∉ ((0, 0) :: wIL n) ++ oIL n (n * n) := by
    intro h
    rcases List.mem_append.mp h with h | h
    · rcases List.mem_cons.mp h with h | h
      · cases h
      · rcases wIL_mem.mp h with h | ⟨h, -⟩ | ⟨h, -⟩ <;> simp at h
    · have := inO _ h
      simp at this
  have shW : ∀ i ∈ wIL n, sh3 i = sh1 i := fun i hi => (ok.1 i (apart i (List.mem_cons_of_mem _ hi))).1.trans (hsW i hi)
  have no3 : ∀ i ∈ ((0, 0) :: wIL n) ++ oIL n (n * n), zNo (fun j => j = (3, 0)) (if i = (0, 0) then (.inl (3, (fds (1, 0) (99, 0) (99, 0)).set 2 (some (2, 0))) : (Nat × List (Option zI)) ⊕ (ClassId × Nat × Option (Nat → Option zI))) else sh3 i) := by
    intro i hi
    rcases List.mem_append.mp hi with h | h
    · rcases List.mem_cons.mp h with rfl | h
      · simp [zNo]
      · rw [if_neg (fun (h2 : i = (0, 0)) => hnin0 (h2 ▸ h)), shW i h]
        exact (noW i h).2
    · rw [if_neg (fun (h2 : i = (0, 0)) => by have := inO i h; rw [h2] at this; simp at this)]
      obtain ⟨a, b⟩ := i
      rcases oIL_mem.mp h with h1 | ⟨h1, hb⟩ | ⟨h1, hb⟩
      · rw [h1, o1]
        intro x j hx hj
        dsimp only at hx
        split at hx
        · cases hx
        · cases hx; simp at hj
      · dsimp only at h1 hb
        subst h1
        rw [(oW b hb.1 hb.2).1]
        simp [zNo]
      · dsimp only at h1 hb
        subst h1
        rw [(oW b hb.1 hb.2).2.1]
        trivial
  refine Zr_new C nw_X3_38 (3, 0) ((3, 0) :: (((0, 0) :: wIL n) ++ oIL n (n * n))) (by simp) h3n no3 (List.nodup_cons.mpr ⟨h3n, hnd⟩) (fun i hi => List.mem_cons.mp hi) (by show 0 + (1 + 2 * n) + (1 + 2 * (n * n)) + 1 ≤ 300; omega) (by show 0 + (n + 21 * n) + (n * n + 8 * (n * n)) + 4 ≤ 1200; omega) dX3_init_43 (fun sh5 ad5 S5 h5 => ?_)
  refine Zr_dup C dX3_init_46 rfl ?_
  refine Zr_invI C (st := [.ref (ad5 (3, 0)), .ref (ad (0, 0))]) [] ci_X3_40 (k_X1_init h5.1 h5.2.1) (by simp) (fun i hi => by rw [List.mem_singleton.mp hi]; exact List.mem_cons_self) rfl (Nat.le_of_ble_eq_true rfl) (Nat.le_of_ble_eq_true rfl) rfl (Nat.le_of_ble_eq_true rfl) dX3_init_47 ⟨by show 0 + (1 + 2 * n) + (1 + 2 * (n * n)) + 1 + 0 ≤ 300; omega, by show 0 + (n + 21 * n) + (n * n + 8 * (n * n)) + 4 + 0 ≤ 1200; omega⟩ (cIL n) (fun v sh6 ad6 S6 hp => ?_)
  obtain ⟨rfl, rfl, rfl, p1, p2⟩ := hp
  have inC : ∀ i ∈ cIL n, i = (3, 0) ∨ i ∈ ((0, 0) :: wIL n) ++ oIL n (n * n) := by
    intro i hi
    rcases cIL_mem.mp hi with h | h | h | h | h | h | h | h
    · right; rw [h]; simp
    · right; rw [h]; exact List.mem_append_left _ (List.mem_cons_of_mem _ (wIL_mem.mpr (Or.inl rfl)))
    · right; rw [h]; exact List.mem_append_right _ (oIL_mem.mpr (Or.inl rfl))
    · exact Or.inl h
    · right; exact List.mem_append_left _ (List.mem_cons_of_mem _ (wIL_mem.mpr (Or.inr (Or.inl h))))
    · right; exact List.mem_append_left _ (List.mem_cons_of_mem _ (wIL_mem.mpr (Or.inr (Or.inr h))))
    · right; exact List.mem_append_right _ (oIL_mem.mpr (Or.inr (Or.inl h)))
    · right; exact List.mem_append_right _ (oIL_mem.mpr (Or.inr (Or.inr h)))
  refine ⟨⟨cIL_nodup n, fun i hi => ?_⟩, ?_⟩
  · rcases inC i hi with h | h
    · left; simp [h]
    · have hne : i ≠ (3, 0) := fun h2 => h3n (h2 ▸ h)
      exact Or.inr ⟨List.mem_cons_of_mem _ h, by simp [hne], by simp [hne], rfl, by simp only [zpic, p2 i hne]⟩
  have g00 := h5.2.2 (0, 0) (by simp)
  refine Zr_putR C (3, 0) pr_X3_41 (fun _ => hnm) cm0 (g00.2.1.trans b00).symm rfl (by simp) (ds := fds (1, 0) (2, 0) (99, 0)) (g00.1.trans (by simp)) (Nat.le_of_ble_eq_true rfl) dX3_init_50 ?_
  have back : ∀ i, i ≠ (3, 0) → i ≠ (0, 0) → sh6 i = sh3 i ∧ ad6 i = ad3 i ∧ S6 i.1 i.2 = S3 i.1 i.2 := fun i hi h0 => by
    have g := h5.2.2 i hi
    exact ⟨by rw [g.1]; dsimp only; rw [if_neg h0], g.2.1, (p2 i hi).trans g.2.2⟩
  have bW : ∀ i ∈ wIL n, sh6 i = sh1 i ∧ S6 i.1 i.2 = S1 i.1 i.2 := fun i hi => by
    have n0 : i ≠ (0, 0) := fun h => hnin0 (h ▸ hi)
    have n3 : i ≠ (3, 0) := fun h => h3n (h ▸ List.mem_append_left _ (List.mem_cons_of_mem _ hi))
    exact ⟨(back i n3 n0).1.trans (shW i hi), (back i n3 n0).2.2.trans (ok.1 i (apart i (List.mem_cons_of_mem _ hi))).2⟩
  refine Zr_vret C dX3_init_53 (by show 0 + (1 + 2 * n) + (1 + 2 * (n * n)) + 1 + 0 ≤ 300; omega) (by show 0 + (n + 21 * n) + (n * n + 8 * (n * n)) + 4 + 0 ≤ 1200; omega) ⟨rfl, fun i hi => ?_, ?_, p1, fun q hq => ?_, fun r hr => ?_, fun i hi => ?_, fun i hi => ?_⟩
  · obtain ⟨a, b⟩ := i
    rcases cIL_mem.mp hi with h | h | h | h | ⟨h, hb⟩ | ⟨h, hb⟩ | ⟨h, hb⟩ | ⟨h, hb⟩
    · rw [h]; simp [cSh]
    · rw [h]
      exact (bW (1, 0) (wIL_mem.mpr (Or.inl rfl))).1.trans q1
    · rw [h]
      exact (back (2, 0) (by simp) (by simp)).1.trans o1
    · rw [h]
      exact h5.1
    · dsimp only at h hb
      subst h
      exact (bW (4, b) (wIL_mem.mpr (Or.inr (Or.inl ⟨rfl, hb⟩)))).1.trans (qW b hb).1
    · dsimp only at h hb
      subst h
      exact (bW (5, b) (wIL_mem.mpr (Or.inr (Or.inr ⟨rfl, hb⟩)))).1.trans (qW b hb).2.1
    · dsimp only at h hb
      subst h
      exact (back (6, b) (by simp) (by simp)).1.trans (oW b hb.1 hb.2).1
    · dsimp only at h hb
      subst h
      exact (back (7, b) (by simp) (by simp)).1.trans (oW b hb.1 hb.2).2.1
  · exact (p2 (0, 0) (by simp)).trans (g00.2.2.trans T00)
  · exact ⟨(bW (4, q) (wIL_mem.mpr (Or.inr (Or.inl ⟨rfl, hq⟩)))).2.trans (qW q hq).2.2.1, (bW (5, q) (wIL_mem.mpr (Or.inr (Or.inr ⟨rfl, hq⟩)))).2.trans (qW q hq).2.2.2⟩
  · exact ⟨(back (6, r) (by simp) (by simp)).2.2.trans (oW r hr.1 hr.2).2.2.1, (back (7, r) (by simp) (by simp)).2.2.trans (oW r hr.1 hr.2).2.2.2⟩
  · have n3 : i ≠ (3, 0) := fun h => hi (by rw [h]; decide)
    have n0 : i ≠ (0, 0) := fun h => hi (by rw [h]; decide)
    have a1 : ¬ (i.1 = 2 ∨ i.1 = 6 ∨ i.1 = 7) := fun h => hi (by dsimp only; omega)
    have a2 : ¬ (i.1 = 1 ∨ i.1 = 4 ∨ i.1 = 5) := fun h => hi (by dsimp only; omega)
    refine ⟨by dsimp only; rw [if_neg n0, (back i n3 n0).1, (ok.1 i a1).1]; dsimp only; rw [if_neg n0]; exact (qk.1 i a2).1, ?_⟩
    rw [(back i n3 n0).2.2, (ok.1 i a1).2, (qk.1 i a2).2]
    funext x
    simp only [z3]
    rw [if_neg]
    rintro ⟨h1, h2, -⟩
    exact n0 (Prod.ext h1 h2)
  · by_cases h0 : i = (0, 0)
    · subst h0
      exact g00.2.1.trans b00
    · have h7 : ¬ i.1 ≤ 7 := fun h => hi ⟨h, h0⟩
      have n3 : i ≠ (3, 0) := fun h => h7 (by rw [h]; decide)
      rw [(back i n3 h0).2.1, ok.2 i (by dsimp only; omega), qk.2 i (by dsimp only; omega)]
