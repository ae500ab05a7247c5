set_option maxHeartbeats 1000000 in
/-- rider r gets on line l in both -/
theorem seat_both {C M C' M' : zM} {t u l r n : Nat} {W1 W2 : List Nat} {SL : Nat → List (Int × Int)} {x s : Int} (hG : RG C M t u (W1 ++ r :: W2) SL) (hR : ∀ l : Nat, (l : Int) < M 0 0 5 → repC C t l (SL l) ∧ repM M u l (SL l)) (hl : (l : Int) < M 0 0 5) (h13 : ∀ l' : Nat, (l' : Int) < M 0 0 5 → M 13 u l' ≤ 3) (hn : n = (SL l).length) (hn2 : n ≤ 2) (hx : 1 ≤ x)
    (c125 : C' 12 t 5 = C 12 t 5) (c124 : C' 12 t 4 = ((W1 ++ W2).length : Int)) (c15 : ∀ k y : Nat, (W1 ++ W2)[k]? = some y → C' 15 t k = (y : Int)) (c16o : ∀ z k, z ≠ r → C' 16 (12 * t + z) k = C 16 (12 * t + z) k)
    (c16 : C' 16 (12 * t + r) 0 = 1 ∧ C' 16 (12 * t + r) 1 = -1 ∧ C' 16 (12 * t + r) 2 = (l : Int) ∧ C' 16 (12 * t + r) 3 = x ∧ C' 16 (12 * t + r) 4 = C 16 (12 * t + r) 4 + 1 ∧ C' 16 (12 * t + r) 5 = C 16 (12 * t + r) 5)
    (c17 : C' 17 (12 * t + l) 0 = C 17 (12 * t + l) 0 - 1 ∧ C' 17 (12 * t + l) 1 = C 17 (12 * t + l) 1 + 1 ∧ C' 17 (12 * t + l) 4 = C 17 (12 * t + l) 4 + 1 ∧ C' 17 (12 * t + l) 5 = C 17 (12 * t + l) 5 + s) (c17o : ∀ i k, i ≠ 12 * t + l → C' 17 i k = C 17 i k)
    (c18o : ∀ i k, ¬ (i = 12 * t + l ∧ k = n) → C' 18 i k = C 18 i k ∧ C' 19 i k = C 19 i k) (c18 : C' 18 (12 * t + l) n = (r : Int) ∧ C' 19 (12 * t + l) n = x)
    (m0 : M' 0 = M 0) (m10 : M' 10 = M 10) (m11 : M' 11 = M 11) (m12 : M' 12 = M 12) (m22 : M' 22 = M 22) (m24 : M' 24 = M 24) (m13 : M' 13 u l = M 13 u l + 1) (m13o : ∀ l', l' ≠ l → M' 13 u l' = M 13 u l') (m14o : ∀ k, k ≠ 3 * l + n → M' 14 u k = M 14 u k ∧ M' 15 u k = M 15 u k) (m14 : M' 14 u (3 * l + n) = (r : Int) ∧ M' 15 u (3 * l + n) = x)
    (m16 : M' 16 u l = M 16 u l + 1 ∧ M' 17 u l = M 17 u l + s) (m16o : ∀ l', l' ≠ l → M' 16 u l' = M 16 u l' ∧ M' 17 u l' = M 17 u l') (m20 : M' 20 u r = 1 ∧ M' 21 u r = (l : Int) ∧ M' 23 u r = M 23 u r + 1) (m20o : ∀ z, z ≠ r → M' 20 u z = M 20 u z ∧ M' 21 u z = M 21 u z ∧ M' 23 u z = M 23 u z) (hQ : QM M' u (W1 ++ W2)) :
    RT C' M' t u ∧ (∀ l' : Nat, (l' : Int) < M 0 0 5 → M' 13 u l' ≤ 3) ∧ FZ C C' M M' t u (M 0 0 10) (M 0 0 5) := by
  have hrW : (r : Int) < M 0 0 10 ∧ M 20 u r = 0 := (hG.2.2.2.1.2.2.2.1 r).mp (by simp)
  obtain ⟨q1, q2, q3, q4, q5⟩ := hG
  refine ⟨⟨W1 ++ W2, setL SL l (SL l ++ [((r : Int), x)]), ⟨?_, fun l' hl' => ?_, fun z hz => ?_, ?_, ?_⟩, fun l' hl' => ?_⟩, fun l' hl' => ?_, fun z hz => ⟨fun k => c16o z k (by omega), (m20o z (by omega)).2.2⟩, fun l' hl' => ⟨fun k => c17o _ k (by omega), m13o l' (by omega), m16o l' (by omega)⟩⟩
  · rw [c125, m11]; exact q1
  · rw [m0] at hl'
    have h9 := q2 l' hl'
    unfold RC at h9 ⊢
    by_cases e : l' = l
    · subst e
      rw [c17.1, c17.2.1, c17.2.2.1, c17.2.2.2, m12, m16.1, m16.2]
      omega
    · rw [c17o _ _ (by omega), c17o _ _ (by omega), c17o _ _ (by omega), c17o _ _ (by omega), m12, (m16o l' e).1, (m16o l' e).2]
      exact h9
  · rw [m0] at hz
    by_cases e : z = r
    · subst e
      have h9 := q3 z hz
      unfold RR at h9 ⊢
      rw [c16.1, c16.2.1, c16.2.2.1, c16.2.2.2.1, c16.2.2.2.2.1, c16.2.2.2.2.2, m20.1, m20.2.1, m20.2.2, m24]
      exact ⟨rfl, by omega, h9.2.2.1, fun z => absurd z (by decide), fun _ => ⟨rfl, rfl⟩, fun z => absurd z (by decide), fun z => absurd z (by decide)⟩
    · exact (q3 z hz).eq (fun k => c16o z k e) (m20o z e).1 (m20o z e).2.1 (by rw [m22]) (m20o z e).2.2 (by rw [m24]) (by rw [m0]) (by rw [m10])
  · exact q4.without c124 c15 (by rw [m0]) (fun z e => (m20o z e).1) (by rw [m20.1]; decide) hQ
  · exact q5.board hl hrW.1 (by rw [hrW.2]; decide) hx (by rw [m0]) (by rw [m0]) (fun z e => (m20o z e).1) (fun z e => (m20o z e).2.1) (fun z e => c16o z 3 e) m20.1 m20.2.1 c16.2.2.2.1
  · rw [m0] at hl'
    obtain ⟨⟨a1, a2⟩, a3, a4⟩ := hR l' hl'
    by_cases e : l' = l
    · subst e
      rw [setL_at]
      refine ⟨⟨by rw [c17.2.1, a1, List.length_append]; simp, fun k a hk => ?_⟩, ⟨by rw [m13, a3, List.length_append]; simp, fun k a hk => ?_⟩⟩
      · rw [List.getElem?_append] at hk
        split at hk
        · rename_i hlt
          have := c18o (12 * t + l') k (by omega)
          rw [this.1, this.2]
          exact a2 k a hk
        · rename_i hlt
          have hk2 := (List.getElem?_eq_some_iff.mp hk).1
          simp at hk2
          have h0 : k - (SL l').length = 0 := by omega
          rw [h0] at hk
          simp at hk
          subst hk
          rw [show k = n by omega]
          exact c18
      · rw [List.getElem?_append] at hk
        split at hk
        · rename_i hlt
          have := m14o (3 * l' + k) (by omega)
          rw [this.1, this.2]
          exact a4 k a hk
        · rename_i hlt
          have hk2 := (List.getElem?_eq_some_iff.mp hk).1
          simp at hk2
          have h0 : k - (SL l').length = 0 := by omega
          rw [h0] at hk
          simp at hk
          subst hk
          rw [show k = n by omega]
          exact m14
    · rw [setL_off e]
      refine ⟨⟨by rw [c17o _ _ (by omega)]; exact a1, fun k a hk => ?_⟩, ⟨by rw [m13o l' e]; exact a3, fun k a hk => ?_⟩⟩
      · have := c18o (12 * t + l') k (by omega)
        rw [this.1, this.2]
        exact a2 k a hk
      · have hk2 := (List.getElem?_eq_some_iff.mp hk).1
        have h9 := h13 l' hl'
        have := m14o (3 * l' + k) (by omega)
        rw [this.1, this.2]
        exact a4 k a hk
  · by_cases e : l' = l
    · subst e
      have := (hR l' hl').2.1
      rw [m13]
      omega
    · rw [m13o l' e]; exact h13 l' hl'
