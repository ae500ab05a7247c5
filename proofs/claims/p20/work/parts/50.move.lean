/-! what a minute does to a rider of the first row: the trolleys move -/
def MV (C C' : zM) (i : Nat) : Prop :=
  C' 16 i 4 = C 16 i 4 ∧ ((C' 16 i 0 = C 16 i 0 ∧ C' 16 i 5 = C 16 i 5) ∨ (C 16 i 0 = 1 ∧ C' 16 i 0 = 2 ∧ C' 16 i 5 = C 12 0 5) ∨ (C 16 i 0 = 1 ∧ C' 16 i 0 = 0 ∧ C' 16 i 5 = C 16 i 5))
theorem MV.same {C C' : zM} {i : Nat} (h : ∀ k, C' 16 i k = C 16 i k) : MV C C' i := ⟨h 4, Or.inl ⟨h 0, h 5⟩⟩
theorem MV.trans {C C1 C2 : zM} {i : Nat} (h : MV C C1 i) (g : MV C1 C2 i) (h5 : C1 12 0 5 = C 12 0 5) : MV C C2 i := by
  obtain ⟨h4, h⟩ := h
  obtain ⟨g4, g⟩ := g
  refine ⟨g4.trans h4, ?_⟩
  rcases h with ⟨a1, a2⟩ | ⟨a1, a2, a3⟩ | ⟨a1, a2, a3⟩
  · rcases g with ⟨b1, b2⟩ | ⟨b1, b2, b3⟩ | ⟨b1, b2, b3⟩
    · exact Or.inl ⟨b1.trans a1, b2.trans a2⟩
    · exact Or.inr (Or.inl ⟨a1.symm.trans b1, b2, b3.trans h5⟩)
    · exact Or.inr (Or.inr ⟨a1.symm.trans b1, b2, b3.trans a2⟩)
  · rcases g with ⟨b1, b2⟩ | ⟨b1, b2, b3⟩ | ⟨b1, b2, b3⟩
    · exact Or.inr (Or.inl ⟨a1, b1.trans a2, b2.trans a3⟩)
    · omega
    · omega
  · rcases g with ⟨b1, b2⟩ | ⟨b1, b2, b3⟩ | ⟨b1, b2, b3⟩
    · exact Or.inr (Or.inr ⟨a1, b1.trans a2, b2.trans a3⟩)
    · omega
    · omega
theorem reachC_MV {C X : zM} {r pl : Int} (h : C 16 (12 * 0 + r.toNat) 0 = 1) (hX : ∀ k, k ≠ 3 → X 16 (12 * 0 + r.toNat) k = C 16 (12 * 0 + r.toNat) k) (h12 : X 12 = C 12) : MV C (reachC X 0 r pl) (12 * 0 + r.toNat) := by
  unfold reachC
  split
  · obtain ⟨a0, a1, a2, a3, a4, a5⟩ := arriveC_at X (12 * 0 + r.toNat) pl (X 12 0 5)
    exact ⟨a4.trans (hX 4 (by decide)), Or.inr (Or.inl ⟨h, a0, by rw [a5, h12]⟩)⟩
  · split
    · obtain ⟨a0, a1, a2, a3, a4, a5⟩ := waitC_at X (12 * 0 + r.toNat) pl
      unfold MV
      rw [zup_fr (show 16 ≠ 12 by decide), zup_fr (show 16 ≠ 15 by decide)]
      exact ⟨a4.trans (hX 4 (by decide)), Or.inr (Or.inr ⟨h, a0, a5.trans (hX 5 (by decide))⟩)⟩
    · exact ⟨hX 4 (by decide), Or.inl ⟨hX 0 (by decide), hX 5 (by decide)⟩⟩
theorem moveS_MV {C : zM} {ln i j : Nat} (h1 : C 18 i j ≠ -1 → C 16 (12 * 0 + (C 18 i j).toNat) 0 = 1) (z : Nat) : MV C (moveS 0 ln i j C) (12 * 0 + z) := by
  by_cases hz : C 18 i j ≠ -1 ∧ z = (C 18 i j).toNat
  · obtain ⟨hn, rfl⟩ := hz
    have h := h1 hn
    unfold moveS
    rw [if_neg hn]
    split
    · refine reachC_MV h (fun k hk => ?_) (by rw [pullC_fr (by decide), zup_fr (by decide), zup_fr (by decide)])
      rw [pullC_fr (by decide)]
      simp [zup, hk]
    · exact ⟨by simp [zup], Or.inl ⟨by simp [zup], by simp [zup]⟩⟩
  · exact MV.same (fun k => moveS_16o (fun q e => hz ⟨q, by omega⟩) k)
theorem roll_key {C M : zM} {t u l : Nat} {W : List Nat} {SL : Nat → List (Int × Int)} (hG : RG C M t u W SL) (hR : ∀ l : Nat, (l : Int) < M 0 0 5 → repC C t l (SL l) ∧ repM M u l (SL l)) (hS : RS C M) (hl : (l : Int) < M 0 0 5) (h10 : M 0 0 10 ≤ 12) (h01 : M 0 0 1 ≤ 8) (h50 : ∀ l : Nat, 0 ≤ M 5 0 l) (h13 : ∀ l' : Nat, (l' : Int) < M 0 0 5 → M 13 u l' ≤ 3) (j : Nat) (hj : j ≤ (SL l).length) : ∃ W' SL' P Rt, RI (moveN C t l (12 * t + l) j) (rollI M u (l : Int) j) t u l j (SL l).length W' SL' P Rt := by
  obtain ⟨⟨c1, c2⟩, ⟨m1, m2⟩⟩ := hR l hl
  have hn3 := h13 l hl
  induction j with
  | zero =>
    refine ⟨W, SL, [], SL l, ⟨by simp, by omega, by simp, by simp, by simp [rollI]⟩, hG, by simp [rollI, m1], rfl, c1, fun k a hk => by simp at hk, fun k a hk => ?_, fun k a hk => ?_, fun l' hl' e => ?_⟩
    · exact m2 k a hk
    · have := c2 k a hk
      rw [Nat.zero_add]
      exact this
    · have h9 := hR l' hl'
      have := h13 l' hl'
      have := h9.2.1
      exact ⟨h9.1, h9.2, by omega⟩
  | succ j ih =>
    obtain ⟨W', SL', P, Rt, h⟩ := ih (by omega)
    cases Rt with
    | nil => have := h.1.1; simp at this; omega
    | cons a R2 =>
      have e0 : (rollI M u (l : Int) j).1 0 = M 0 := rollI_fr (by decide)
      have e5 : (rollI M u (l : Int) j).1 5 = M 5 := rollI_fr (by decide)
      obtain ⟨⟨W2, B, h2⟩, -⟩ := roll_step h (hS.eq (fun f hf => moveN_fr (by omega)) (fun f hf => rollI_fr (by omega))) (by rw [e0]; exact hl) (by rw [e0]; exact h10) (by rw [e0]; exact h01) (by rw [e5]; exact h50 l)
      exact ⟨W2, _, _, R2, h2⟩
theorem moveN_MV {C M : zM} {l : Nat} (hT : RT C M 0 0) (hS : RS C M) (hl : (l : Int) < M 0 0 5) (h10 : M 0 0 10 ≤ 12) (h01 : M 0 0 1 ≤ 8) (h50 : ∀ l : Nat, 0 ≤ M 5 0 l) (h13 : ∀ l' : Nat, (l' : Int) < M 0 0 5 → M 13 0 l' ≤ 3) (n : Nat) (hn : (n : Int) ≤ C 17 (12 * 0 + l) 1) (z : Nat) : MV C (moveN C 0 l (12 * 0 + l) n) (12 * 0 + z) := by
  obtain ⟨W, SL, hG, hR⟩ := hT
  have c1 := (hR l hl).1.1
  induction n with
  | zero => exact MV.same (fun k => rfl)
  | succ n ih =>
    obtain ⟨W', SL', P, Rt, h⟩ := roll_key hG hR hS hl h10 h01 h50 h13 n (by omega)
    have hlen := h.1.1
    cases Rt with
    | nil => simp at hlen; omega
    | cons a R2 =>
      have e0 : (rollI M 0 (l : Int) n).1 0 = M 0 := rollI_fr (by decide)
      have h18 : moveN C 0 l (12 * 0 + l) n 18 (12 * 0 + l) n = a.1 := (h.2.2.2.2.2.2.2.1 0 a rfl).1
      refine (ih (by omega)).trans (moveS_MV (fun q => ?_) z) moveN_min
      rw [h18] at q ⊢
      obtain ⟨k1, k2, k3, k4, k5⟩ := (h.2.1.2.2.2.2.1 l (by rw [e0]; exact hl) a (by rw [h.1.2.2.1]; simp)).2 q
      rw [(h.2.1.2.2.1 a.1.toNat (by omega)).1]
      exact k3
theorem moveC_MV {C M : zM} {l : Nat} (hT : RT C M 0 0) (hS : RS C M) (hl : (l : Int) < M 0 0 5) (h10 : M 0 0 10 ≤ 12) (h01 : M 0 0 1 ≤ 8) (h50 : ∀ l : Nat, 0 ≤ M 5 0 l) (h13 : ∀ l' : Nat, (l' : Int) < M 0 0 5 → M 13 0 l' ≤ 3) (z : Nat) : MV C (moveC C 0 l (12 * 0 + l)) (12 * 0 + z) := by
  have h9 : 0 ≤ C 17 (12 * 0 + l) 1 := by
    obtain ⟨W, SL, hG, hR⟩ := hT
    rw [(hR l hl).1.1]
    exact Int.natCast_nonneg _
  have := moveN_MV hT hS hl h10 h01 h50 h13 (C 17 (12 * 0 + l) 1).toNat (by omega) z
  unfold MV at this ⊢
  unfold moveC
  rw [dropC_fr (f := 16) (by decide)]
  exact this
theorem movesN_MV {C M : zM} (hT : RT C M 0 0) (hS : RS C M) (h10 : M 0 0 10 ≤ 12) (h01 : M 0 0 1 ≤ 8) (h50 : ∀ l : Nat, 0 ≤ M 5 0 l) (h13 : ∀ l' : Nat, (l' : Int) < M 0 0 5 → M 13 0 l' ≤ 3) (n : Nat) (hn : (n : Int) ≤ M 0 0 5) (z : Nat) : MV C (movesN C 0 n) (12 * 0 + z) := by
  induction n with
  | zero => exact MV.same (fun k => rfl)
  | succ n ih =>
    obtain ⟨i1, -, i3, -⟩ := roll_all hT hS h10 h01 h50 h13 n (by omega)
    have e0 : rollsM M 0 n 0 = M 0 := rollsM_fr (by decide)
    have e5 : rollsM M 0 n 5 = M 5 := rollsM_fr (by decide)
    exact (ih (by omega)).trans (moveC_MV (l := n) i1 (hS.eq (fun f hf => movesN_fr (by omega)) (fun f hf => rollsM_fr (by omega))) (by rw [e0]; omega) (by rw [e0]; exact h10) (by rw [e0]; exact h01) (by rw [e5]; exact h50) (by rw [e0]; exact i3) z) movesN_min
theorem movesN_17 (C : zM) (n : Nat) {i k : Nat} (hk : k = 4 ∨ k = 5) : movesN C 0 n 17 i k = C 17 i k := by
  induction n with
  | zero => rfl
  | succ n ih =>
    show moveC (movesN C 0 n) 0 n (12 * 0 + n) 17 i k = _
    rw [← ih]
    unfold moveC
    have h17 : moveN (movesN C 0 n) 0 n (12 * 0 + n) (movesN C 0 n 17 (12 * 0 + n) 1).toNat 17 = movesN C 0 n 17 := moveN_fr (by decide)
    generalize moveN (movesN C 0 n) 0 n (12 * 0 + n) (movesN C 0 n 17 (12 * 0 + n) 1).toNat = X at h17 ⊢
    have d := dropC_17 X (12 * 0 + n)
    rw [← h17]
    by_cases e : i = 12 * 0 + n
    · rw [e]
      rcases hk with rfl | rfl
      · exact d.2.2.1
      · exact d.2.2.2.1
    · exact d.2.2.2.2 i k e
