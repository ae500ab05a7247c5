/-- places of riders and lines that are not there yet stay -/
def FZ (C C' M M' : zM) (t u : Nat) (rc lc : Int) : Prop := (∀ z : Nat, rc ≤ z → (∀ k, C' 16 (12 * t + z) k = C 16 (12 * t + z) k) ∧ M' 23 u z = M 23 u z) ∧ (∀ l : Nat, lc ≤ l → (∀ k, C' 17 (12 * t + l) k = C 17 (12 * t + l) k) ∧ M' 13 u l = M 13 u l ∧ M' 16 u l = M 16 u l ∧ M' 17 u l = M 17 u l)
theorem FZ.refl (C M : zM) (t u : Nat) (rc lc : Int) : FZ C C M M t u rc lc := ⟨fun z _ => ⟨fun k => rfl, rfl⟩, fun l _ => ⟨fun k => rfl, rfl, rfl, rfl⟩⟩
theorem FZ.trans {C C' C2 M M' M2 : zM} {t u : Nat} {rc lc : Int} (h : FZ C C' M M' t u rc lc) (g : FZ C' C2 M' M2 t u rc lc) : FZ C C2 M M2 t u rc lc :=
  ⟨fun z hz => ⟨fun k => ((g.1 z hz).1 k).trans ((h.1 z hz).1 k), (g.1 z hz).2.trans (h.1 z hz).2⟩, fun l hl => ⟨fun k => ((g.2 l hl).1 k).trans ((h.2 l hl).1 k), (g.2 l hl).2.1.trans (h.2 l hl).2.1, (g.2 l hl).2.2.1.trans (h.2 l hl).2.2.1, (g.2 l hl).2.2.2.trans (h.2 l hl).2.2.2⟩⟩
theorem reachC_16o {C : zM} {t : Nat} {r pl : Int} {i : Nat} (h : i ≠ 12 * t + r.toNat) (k : Nat) : reachC C t r pl 16 i k = C 16 i k := by
  unfold reachC
  split
  · exact arriveC_off h
  · split
    · rw [zup_fr (by decide), zup_fr (by decide)]; exact waitC_off h
    · rfl
theorem moveS_16o {C : zM} {t ln i j : Nat} {z : Nat} (h1 : C 18 i j ≠ -1 → z ≠ 12 * t + (C 18 i j).toNat) (k : Nat) : moveS t ln i j C 16 z k = C 16 z k := by
  unfold moveS
  split
  · rw [zup_fr (by decide)]
  · rename_i h9
    have h := h1 h9
    split
    · rw [reachC_16o h, pullC_fr (by decide)]
      simp [zup, h]
    · simp [zup, h]
theorem rollI_13o {M : zM} {u l n l' : Nat} (h : l' ≠ l) : (rollI M u (l : Int) n).1 13 u l' = M 13 u l' := by
  induction n with
  | zero => rfl
  | succ n ih =>
    rw [rollI, rollS]
    simp only [Int.toNat_natCast]
    split
    · split
      · simp [zup, h]; exact ih
      · simp only []; rw [zup_fr (by decide), zup_fr (by decide), zup_fr (by decide), zup_fr (by decide), comeM_fr (by decide), zup_fr (by decide)]; exact ih
    · simp only []; rw [zup_fr (by decide), zup_fr (by decide), zup_fr (by decide)]; exact ih
theorem dropC_17 (C : zM) (i : Nat) : dropC C i 17 i 0 + dropC C i 17 i 1 = C 17 i 0 + C 17 i 1 ∧ dropC C i 17 i 1 = ((dropL C i (C 17 i 1).toNat).length : Int) ∧ dropC C i 17 i 4 = C 17 i 4 ∧ dropC C i 17 i 5 = C 17 i 5 ∧ ∀ i' k, i' ≠ i → dropC C i 17 i' k = C 17 i' k := by
  have h1 := (dropN_is C i (C 17 i 1).toNat).1
  have h2 : (dropN C i (C 17 i 1).toNat).1 17 = C 17 := dropN_fr (by decide)
  unfold dropC
  refine ⟨by simp [zup]; omega, by simp [zup]; omega, by simp [zup, h2], by simp [zup, h2], fun i' k e => by simp [zup, h2, e]⟩
theorem dropC_18 (C : zM) (i : Nat) : dropC C i 18 = (dropN C i (C 17 i 1).toNat).1 18 ∧ dropC C i 19 = (dropN C i (C 17 i 1).toNat).1 19 := by
  unfold dropC
  exact ⟨by rw [zup_fr (by decide), zup_fr (by decide)], by rw [zup_fr (by decide), zup_fr (by decide)]⟩
set_option maxHeartbeats 1000000 in
/-- a line's trolleys move in both -/
theorem roll_line {C M : zM} {t u l : Nat} (hT : RT C M t u) (hS : RS C M) (hl : (l : Int) < M 0 0 5) (h10 : M 0 0 10 ≤ 12) (h01 : M 0 0 1 ≤ 8) (h50 : ∀ l : Nat, 0 ≤ M 5 0 l) (h13 : ∀ l' : Nat, (l' : Int) < M 0 0 5 → M 13 u l' ≤ 3) :
    RT (moveC C t l (12 * t + l)) (rollM M u (l : Int)) t u ∧ rollOK M u (l : Int) ∧ (∀ l' : Nat, (l' : Int) < M 0 0 5 → rollM M u (l : Int) 13 u l' ≤ 3) ∧ FZ C (moveC C t l (12 * t + l)) M (rollM M u (l : Int)) t u (M 0 0 10) (M 0 0 5) := by
  obtain ⟨W, SL, hG, hR⟩ := hT
  obtain ⟨⟨c1, c2⟩, ⟨m1, m2⟩⟩ := hR l hl
  have hn3 := h13 l hl
  have key : ∀ j, j ≤ (SL l).length → (∃ W' SL' P Rt, RI (moveN C t l (12 * t + l) j) (rollI M u (l : Int) j) t u l j (SL l).length W' SL' P Rt) ∧ ∀ z : Nat, M 0 0 10 ≤ z → ∀ k, moveN C t l (12 * t + l) j 16 (12 * t + z) k = C 16 (12 * t + z) k := by
    intro j
    induction j with
    | zero =>
      intro _
      refine ⟨?_, fun z _ k => rfl⟩
      refine ⟨W, SL, [], SL l, ⟨by simp, by omega, by simp, by simp, by simp [rollI]⟩, hG, by simp [rollI, m1], rfl, c1, fun k a hk => by simp at hk, fun k a hk => ?_, fun k a hk => ?_, fun l' hl' e => ?_⟩
      · exact m2 k a hk
      · have := c2 k a hk
        rw [Nat.zero_add]
        exact this
      · have h9 := hR l' hl'
        have := h13 l' hl'
        have := h9.2.1
        exact ⟨h9.1, h9.2, by omega⟩
    | succ j ih =>
      intro hj
      obtain ⟨⟨W', SL', P, Rt, h⟩, hz⟩ := ih (by omega)
      cases Rt with
      | nil => have := h.1.1; simp at this; omega
      | cons a R2 =>
        have e0 : (rollI M u (l : Int) j).1 0 = M 0 := rollI_fr (by decide)
        have e5 : (rollI M u (l : Int) j).1 5 = M 5 := rollI_fr (by decide)
        obtain ⟨⟨W2, B, h2⟩, -⟩ := roll_step h (hS.eq (fun f hf => moveN_fr (by omega)) (fun f hf => rollI_fr (by omega))) (by rw [e0]; exact hl) (by rw [e0]; exact h10) (by rw [e0]; exact h01) (by rw [e5]; exact h50 l)
        refine ⟨⟨W2, _, _, R2, h2⟩, fun z hz9 k => ?_⟩
        have h18 : moveN C t l (12 * t + l) j 18 (12 * t + l) j = a.1 := (h.2.2.2.2.2.2.2.1 0 a rfl).1
        have e : moveN C t l (12 * t + l) (j + 1) = moveS t l (12 * t + l) j (moveN C t l (12 * t + l) j) := rfl
        rw [e, ← hz z hz9 k]
        refine moveS_16o (fun e1 => ?_) k
        rw [h18] at e1 ⊢
        have hz0 := (h.2.1.2.2.2.2.1 l (by rw [e0]; exact hl) a (by rw [h.1.2.2.1]; simp)).2 e1
        rw [e0] at hz0
        omega
  have hOK : rollOK M u (l : Int) := by
    intro j hj z1 z2
    simp only [Int.toNat_natCast] at hj z1 z2 ⊢
    obtain ⟨⟨W', SL', P, Rt, h⟩, -⟩ := key j (by omega)
    cases Rt with
    | nil => have := h.1.1; simp at this; omega
    | cons a R2 =>
      have e0 : (rollI M u (l : Int) j).1 0 = M 0 := rollI_fr (by decide)
      have e5 : (rollI M u (l : Int) j).1 5 = M 5 := rollI_fr (by decide)
      exact (roll_step h (hS.eq (fun f hf => moveN_fr (by omega)) (fun f hf => rollI_fr (by omega))) (by rw [e0]; exact hl) (by rw [e0]; exact h10) (by rw [e0]; exact h01) (by rw [e5]; exact h50 l)).2 z1 z2
  have eC : moveC C t l (12 * t + l) = dropC (moveN C t l (12 * t + l) (SL l).length) (12 * t + l) := by
    unfold moveC
    rw [c1, Int.toNat_natCast]
  have eM : rollM M u (l : Int) = (rollI M u (l : Int) (SL l).length).1 := by
    unfold rollM
    rw [Int.toNat_natCast, m1, Int.toNat_natCast]
  obtain ⟨⟨W', SL', P, Rt, ⟨g1, g2, g3, g4, g5⟩, g6, g7, g8, g9, g10, g11, g12, g13⟩, hfz⟩ := key (SL l).length (Nat.le_refl _)
  have hRt : Rt = [] := List.length_eq_zero_iff.mp (by omega)
  subst hRt
  rw [List.append_nil] at g3
  simp at g7
  have d17 := dropC_17 (moveN C t l (12 * t + l) (SL l).length) (12 * t + l)
  have d18 := dropC_18 (moveN C t l (12 * t + l) (SL l).length) (12 * t + l)
  have dN := dropN_is (moveN C t l (12 * t + l) (SL l).length) (12 * t + l) (SL l).length
  rw [g9, Int.toNat_natCast, g8] at d17
  rw [g9, Int.toNat_natCast] at d18
  rw [g8] at dN
  have e0 : (rollI M u (l : Int) (SL l).length).1 0 = M 0 := rollI_fr (by decide)
  rw [eC, eM]
  refine ⟨⟨W', SL', ⟨?_, fun l' hl' => ?_, fun r hr => ?_, ?_, ?_⟩, fun l' hl' => ?_⟩, hOK, fun l' hl' => ?_, fun z hz => ⟨fun k => ?_, ?_⟩, fun l' hl' => ⟨fun k => ?_, ?_, ?_, ?_⟩⟩
  · rw [dropC_fr (by decide)]; exact g6.1
  · have h9 := g6.2.1 l' hl'
    unfold RC at h9 ⊢
    by_cases e : l' = l
    · subst e
      rw [d17.1, d17.2.2.1, d17.2.2.2.1]
      rw [g9] at h9
      exact h9
    · rw [d17.2.2.2.2 _ _ (by omega), d17.2.2.2.2 _ _ (by omega), d17.2.2.2.2 _ _ (by omega), d17.2.2.2.2 _ _ (by omega)]
      exact h9
  · exact (g6.2.2.1 r hr).eq (fun k => by rw [dropC_fr (f := 16) (by decide)]) rfl rfl rfl rfl rfl rfl rfl
  · exact g6.2.2.2.1.eq (by rw [dropC_fr (by decide)]) (dropC_fr (by decide)) rfl (fun z _ => Iff.rfl) (fun z _ => rfl) rfl rfl
  · have h9 := g6.2.2.2.2
    unfold RL9 at h9 ⊢
    rw [dropC_fr (f := 16) (by decide)]
    exact h9
  · by_cases e : l' = l
    · subst e
      rw [g3]
      refine ⟨⟨d17.2.1, fun k a hk => ?_⟩, ⟨g7, g10⟩⟩
      rw [d18.1, d18.2]
      exact dN.2.1 k a hk
    · obtain ⟨⟨q1, q2⟩, q3, q4⟩ := g13 l' hl' e
      refine ⟨⟨by rw [d17.2.2.2.2 _ _ (by omega)]; exact q1, fun k a hk => ?_⟩, q3⟩
      have := dN.2.2.2 (12 * t + l') k (by omega)
      rw [d18.1, d18.2, this.1, this.2]
      exact q2 k a hk
  · by_cases e : l' = l
    · subst e
      rw [g7]
      omega
    · obtain ⟨q1, q3, q4⟩ := g13 l' (by rw [e0]; exact hl') e
      rw [q3.1]
      omega
  · rw [dropC_fr (by decide)]; exact hfz z hz k
  · rw [rollI_fr (by decide)]
  · rw [d17.2.2.2.2 _ _ (by omega), moveN_fr (by decide)]
  · exact rollI_13o (by omega)
  · rw [rollI_fr (by decide)]
  · rw [rollI_fr (by decide)]
/-- all lines -/
theorem roll_all {C M : zM} {t u : Nat} (hT : RT C M t u) (hS : RS C M) (h10 : M 0 0 10 ≤ 12) (h01 : M 0 0 1 ≤ 8) (h50 : ∀ l : Nat, 0 ≤ M 5 0 l) (h13 : ∀ l' : Nat, (l' : Int) < M 0 0 5 → M 13 u l' ≤ 3) (n : Nat) (hn : (n : Int) ≤ M 0 0 5) :
    RT (movesN C t n) (rollsM M u n) t u ∧ (∀ l, l < n → rollOK (rollsM M u l) u l) ∧ (∀ l' : Nat, (l' : Int) < M 0 0 5 → rollsM M u n 13 u l' ≤ 3) ∧ FZ C (movesN C t n) M (rollsM M u n) t u (M 0 0 10) (M 0 0 5) := by
  induction n with
  | zero => exact ⟨hT, fun l hl => absurd hl (Nat.not_lt_zero l), h13, FZ.refl _ _ _ _ _ _⟩
  | succ n ih =>
    obtain ⟨i1, i2, i3, i4⟩ := ih (by omega)
    have e0 : rollsM M u n 0 = M 0 := rollsM_fr (by decide)
    have e5 : rollsM M u n 5 = M 5 := rollsM_fr (by decide)
    obtain ⟨k1, k2, k3, k4⟩ := roll_line (l := n) i1 (hS.eq (fun f hf => movesN_fr (by omega)) (fun f hf => rollsM_fr (by omega))) (by rw [e0]; omega) (by rw [e0]; exact h10) (by rw [e0]; exact h01) (by rw [e5]; exact h50) (by rw [e0]; exact i3)
    rw [e0] at k3 k4
    refine ⟨k1, fun l hl => ?_, k3, i4.trans k4⟩
    by_cases e : l = n
    · subst e; exact k2
    · exact i2 l (by omega)
