theorem dropC_17 (C : zM) (i : Nat) : dropC C i 17 i 0 + dropC C i 17 i 1 = C 17 i 0 + C 17 i 1 ∧ dropC C i 17 i 1 = ((dropL C i (C 17 i 1).toNat).length : Int) ∧ dropC C i 17 i 4 = C 17 i 4 ∧ dropC C i 17 i 5 = C 17 i 5 ∧ ∀ i' k, i' ≠ i → dropC C i 17 i' k = C 17 i' k := by
  have h1 := (dropN_is C i (C 17 i 1).toNat).1
  have h2 : (dropN C i (C 17 i 1).toNat).1 17 = C 17 := dropN_fr (by decide)
  unfold dropC
  refine ⟨by simp [zup]; omega, by simp [zup]; omega, by simp [zup, h2], by simp [zup, h2], fun i' k e => by simp [zup, h2, e]⟩
theorem dropC_18 (C : zM) (i : Nat) : dropC C i 18 = (dropN C i (C 17 i 1).toNat).1 18 ∧ dropC C i 19 = (dropN C i (C 17 i 1).toNat).1 19 := by
  unfold dropC
  exact ⟨by rw [zup_fr (by decide), zup_fr (by decide)], by rw [zup_fr (by decide), zup_fr (by decide)]⟩
set_option maxHeartbeats 1000000 in
/-- a line's trolleys move in both -/
theorem roll_line {C M : zM} {t u l : Nat} (hT : RT C M t u) (hS : RS C M) (hl : (l : Int) < M 0 0 5) (h10 : M 0 0 10 ≤ 12) (h01 : M 0 0 1 ≤ 8) (h50 : ∀ l : Nat, 0 ≤ M 5 0 l) (h13 : ∀ l' : Nat, (l' : Int) < M 0 0 5 → M 13 u l' ≤ 3) :
    RT (moveC C t l (12 * t + l)) (rollM M u (l : Int)) t u ∧ rollOK M u (l : Int) ∧ ∀ l' : Nat, (l' : Int) < M 0 0 5 → rollM M u (l : Int) 13 u l' ≤ 3 := by
  obtain ⟨W, SL, hG, hR⟩ := hT
  obtain ⟨⟨c1, c2⟩, ⟨m1, m2⟩⟩ := hR l hl
  have hn3 := h13 l hl
  have key : ∀ j, j ≤ (SL l).length → ∃ W' SL' P Rt, RI (moveN C t l (12 * t + l) j) (rollI M u (l : Int) j) t u l j (SL l).length W' SL' P Rt := by
    intro j
    induction j with
    | zero =>
      intro _
      refine ⟨W, SL, [], SL l, ⟨by simp, by omega, by simp, by simp, by simp [rollI]⟩, hG, by simp [rollI, m1], rfl, c1, fun k a hk => by simp at hk, fun k a hk => ?_, fun k a hk => ?_, fun l' hl' e => ?_⟩
      · exact m2 k a hk
      · have := c2 k a hk
        rw [Nat.zero_add]
        exact this
      · have h9 := hR l' hl'
        have := h13 l' hl'
        have := h9.2.1
        exact ⟨h9.1, h9.2, by omega⟩
    | succ j ih =>
      intro hj
      obtain ⟨W', SL', P, Rt, h⟩ := ih (by omega)
      cases Rt with
      | nil => have := h.1.1; simp at this; omega
      | cons a R2 =>
        have e0 : (rollI M u (l : Int) j).1 0 = M 0 := rollI_fr (by decide)
        have e5 : (rollI M u (l : Int) j).1 5 = M 5 := rollI_fr (by decide)
        obtain ⟨⟨W2, B, h2⟩, -⟩ := roll_step h (hS.eq (fun f hf => moveN_fr (by omega)) (fun f hf => rollI_fr (by omega))) (by rw [e0]; exact hl) (by rw [e0]; exact h10) (by rw [e0]; exact h01) (by rw [e5]; exact h50 l)
        exact ⟨W2, _, _, R2, h2⟩
  have hOK : rollOK M u (l : Int) := by
    intro j hj z1 z2
    simp only [Int.toNat_natCast] at hj z1 z2 ⊢
    obtain ⟨W', SL', P, Rt, h⟩ := key j (by omega)
    cases Rt with
    | nil => have := h.1.1; simp at this; omega
    | cons a R2 =>
      have e0 : (rollI M u (l : Int) j).1 0 = M 0 := rollI_fr (by decide)
      have e5 : (rollI M u (l : Int) j).1 5 = M 5 := rollI_fr (by decide)
      exact (roll_step h (hS.eq (fun f hf => moveN_fr (by omega)) (fun f hf => rollI_fr (by omega))) (by rw [e0]; exact hl) (by rw [e0]; exact h10) (by rw [e0]; exact h01) (by rw [e5]; exact h50 l)).2 z1 z2
  have eC : moveC C t l (12 * t + l) = dropC (moveN C t l (12 * t + l) (SL l).length) (12 * t + l) := by
    unfold moveC
    rw [c1, Int.toNat_natCast]
  have eM : rollM M u (l : Int) = (rollI M u (l : Int) (SL l).length).1 := by
    unfold rollM
    rw [Int.toNat_natCast, m1, Int.toNat_natCast]
  obtain ⟨W', SL', P, Rt, ⟨g1, g2, g3, g4, g5⟩, g6, g7, g8, g9, g10, g11, g12, g13⟩ := key (SL l).length (Nat.le_refl _)
  have hRt : Rt = [] := List.length_eq_zero_iff.mp (by omega)
  subst hRt
  rw [List.append_nil] at g3
  simp at g7
  have d17 := dropC_17 (moveN C t l (12 * t + l) (SL l).length) (12 * t + l)
  have d18 := dropC_18 (moveN C t l (12 * t + l) (SL l).length) (12 * t + l)
  have dN := dropN_is (moveN C t l (12 * t + l) (SL l).length) (12 * t + l) (SL l).length
  rw [g9, Int.toNat_natCast, g8] at d17
  rw [g9, Int.toNat_natCast] at d18
  rw [g8] at dN
  have e0 : (rollI M u (l : Int) (SL l).length).1 0 = M 0 := rollI_fr (by decide)
  rw [eC, eM]
  refine ⟨⟨W', SL', ⟨?_, fun l' hl' => ?_, fun r hr => ?_, ?_, ?_⟩, fun l' hl' => ?_⟩, hOK, fun l' hl' => ?_⟩
  · rw [dropC_fr (by decide)]; exact g6.1
  · have h9 := g6.2.1 l' hl'
    unfold RC at h9 ⊢
    by_cases e : l' = l
    · subst e
      rw [d17.1, d17.2.2.1, d17.2.2.2.1]
      rw [g9] at h9
      exact h9
    · rw [d17.2.2.2.2 _ _ (by omega), d17.2.2.2.2 _ _ (by omega), d17.2.2.2.2 _ _ (by omega), d17.2.2.2.2 _ _ (by omega)]
      exact h9
  · exact (g6.2.2.1 r hr).eq (fun k => by rw [dropC_fr (f := 16) (by decide)]) rfl rfl rfl rfl rfl rfl rfl
  · exact g6.2.2.2.1.eq (by rw [dropC_fr (by decide)]) (dropC_fr (by decide)) rfl (fun z _ => Iff.rfl) (fun z _ => rfl) rfl rfl
  · have h9 := g6.2.2.2.2
    unfold RL9 at h9 ⊢
    rw [dropC_fr (f := 16) (by decide)]
    exact h9
  · by_cases e : l' = l
    · subst e
      rw [g3]
      refine ⟨⟨d17.2.1, fun k a hk => ?_⟩, ⟨g7, g10⟩⟩
      rw [d18.1, d18.2]
      exact dN.2.1 k a hk
    · obtain ⟨⟨q1, q2⟩, q3, q4⟩ := g13 l' hl' e
      refine ⟨⟨by rw [d17.2.2.2.2 _ _ (by omega)]; exact q1, fun k a hk => ?_⟩, q3⟩
      have := dN.2.2.2 (12 * t + l') k (by omega)
      rw [d18.1, d18.2, this.1, this.2]
      exact q2 k a hk
  · by_cases e : l' = l
    · subst e
      rw [g7]
      omega
    · obtain ⟨q1, q3, q4⟩ := g13 l' (by rw [e0]; exact hl') e
      rw [q3.1]
      omega
/-- all lines -/
theorem roll_all {C M : zM} {t u : Nat} (hT : RT C M t u) (hS : RS C M) (h10 : M 0 0 10 ≤ 12) (h01 : M 0 0 1 ≤ 8) (h50 : ∀ l : Nat, 0 ≤ M 5 0 l) (h13 : ∀ l' : Nat, (l' : Int) < M 0 0 5 → M 13 u l' ≤ 3) (n : Nat) (hn : (n : Int) ≤ M 0 0 5) :
    RT (movesN C t n) (rollsM M u n) t u ∧ (∀ l, l < n → rollOK (rollsM M u l) u l) ∧ ∀ l' : Nat, (l' : Int) < M 0 0 5 → rollsM M u n 13 u l' ≤ 3 := by
  induction n with
  | zero => exact ⟨hT, fun l hl => absurd hl (Nat.not_lt_zero l), h13⟩
  | succ n ih =>
    obtain ⟨i1, i2, i3⟩ := ih (by omega)
    have e0 : rollsM M u n 0 = M 0 := rollsM_fr (by decide)
    have e5 : rollsM M u n 5 = M 5 := rollsM_fr (by decide)
    obtain ⟨k1, k2, k3⟩ := roll_line (l := n) i1 (hS.eq (fun f hf => movesN_fr (by omega)) (fun f hf => rollsM_fr (by omega))) (by rw [e0]; omega) (by rw [e0]; exact h10) (by rw [e0]; exact h01) (by rw [e5]; exact h50) (by rw [e0]; exact i3)
    rw [e0] at k3
    refine ⟨k1, fun l hl => ?_, k3⟩
    by_cases e : l = n
    · subst e; exact k2
    · exact i2 l (by omega)
