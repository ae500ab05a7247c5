set_option maxHeartbeats 1000000 in
/-- the copy stands as the row does -/
theorem RT.copy {C M : zM} (hT : RT C M 0 0) (hS : RS C M) (hB : SB M) (h13 : ∀ l : Nat, M 13 0 l ≤ 3) : RT (copyC C 1 0) (becomeM M 1 0) 1 1 := by
  have h6 : (C 1 0 6).toNat = (M 0 0 10).toNat := by rw [hS.1.2.2]
  have h5 : (C 1 0 5).toNat = (M 0 0 5).toNat := by rw [hS.1.2.1]
  have hb1 := hB.1.1
  have hb5 := hB.1.2.2
  obtain ⟨c1, c2, c3, c4, c5⟩ := copyC_is (C := C) (by omega) (by omega)
  obtain ⟨m1, m2, m3, m4, m5⟩ := becomeM_is M
  have m0 : becomeM M 1 0 0 = M 0 := becomeM_fr (by omega)
  have m10 : becomeM M 1 0 10 = M 10 := becomeM_fr (by omega)
  obtain ⟨W, SL, ⟨q1, q2, q3, ⟨w1, w2, w3, w4, w5⟩, ⟨l1, l2, l3⟩⟩, hR⟩ := hT
  have hW : ∀ r, r ∈ W → r < 12 := fun r hr => by have := ((w4 r).mp hr).1; omega
  have hlen : W.length ≤ 12 := by
    have h1 := nodup_len (M 0 0 10).toNat W w3 (fun x hx => by have := ((w4 x).mp hx).1; omega)
    omega
  have c17 : ∀ l : Nat, (l : Int) < M 0 0 5 → ∀ k, k = 0 ∨ k = 1 ∨ k = 4 ∨ k = 5 → copyC C 1 0 17 (12 * 1 + l) k = C 17 (12 * 0 + l) k := fun l hl k hk => copyC_17 (by decide) (by decide) (by decide) (by omega) (by omega) hk
  refine ⟨W, SL, ⟨?_, fun l hl => ?_, fun r hr => ?_, ⟨?_, fun k r hk => ?_, w3, fun r => ?_, fun p hp => ?_⟩, ⟨fun l hl a ha => ?_, ?_, fun r hr hr1 => ?_⟩⟩, fun l hl => ?_⟩
  · rw [c1, m1]; exact q1
  · rw [m0] at hl
    have h9 := q2 l hl
    obtain ⟨a1, a2, a3, a4, -⟩ := m2 l (by omega)
    unfold RC at h9 ⊢
    rw [c17 l hl 0 (by omega), c17 l hl 1 (by omega), c17 l hl 4 (by omega), c17 l hl 5 (by omega), a1, a3, a4]
    exact h9
  · rw [m0] at hr
    have h9 := q3 r hr
    obtain ⟨-, -, -, -, a1, a2, a3, a4, a5⟩ := m2 r (by omega)
    unfold RR at h9 ⊢
    rw [c4 r 0 (by omega) (by omega), c4 r 1 (by omega) (by omega), c4 r 2 (by omega) (by omega), c4 r 3 (by omega) (by omega), c4 r 4 (by omega) (by omega), c4 r 5 (by omega) (by omega), a1, a2, a3, a4, a5, m0, m10]
    exact h9
  · rw [c2]; exact w1
  · have := (List.getElem?_eq_some_iff.mp hk).1
    rw [c3 k (by rw [w1]; omega)]
    exact w2 k r hk
  · rw [m0, w4 r]
    by_cases h : (r : Int) < M 0 0 10
    · rw [(m2 r (by omega)).2.2.2.2.1]
    · exact ⟨fun z => absurd z.1 h, fun z => absurd z.1 h⟩
  · have eW : Wp (becomeM M 1 0) 1 W p = Wp M 0 W p := by
      unfold Wp
      exact List.filter_congr (fun r hr => by rw [(m2 r (hW r hr)).2.2.2.2.2.1])
    rw [eW, m4 p hp]
    refine ⟨(w5 p hp).1, fun k r hk => ?_⟩
    have h9 := (List.getElem?_eq_some_iff.mp hk).1
    have h8 : (Wp M 0 W p).length ≤ 12 := Nat.le_trans (List.length_filter_le _ _) hlen
    rw [m5 _ (by omega)]
    exact (w5 p hp).2 k r hk
  · rw [m0] at hl
    obtain ⟨g1, g2⟩ := l1 l hl a ha
    refine ⟨g1, fun g3 => ?_⟩
    obtain ⟨k1, k2, k3, k4, k5⟩ := g2 g3
    have hlt : a.1.toNat < 12 := by omega
    rw [m0, (m2 _ hlt).2.2.2.2.1, (m2 _ hlt).2.2.2.2.2.1, c4 _ 3 (by omega) (by omega)]
    exact ⟨k1, k2, k3, k4, k5⟩
  · rw [m0]; exact l2
  · rw [m0] at hr
    have h8 := m2 r (by omega)
    rw [h8.2.2.2.2.1] at hr1
    rw [h8.2.2.2.2.2.1, m0]
    exact l3 r hr hr1
  · rw [m0] at hl
    obtain ⟨⟨a1, a2⟩, a3, a4⟩ := hR l hl
    have h9 := h13 l
    refine ⟨⟨by rw [c17 l hl 1 (by omega)]; exact a1, fun k a hk => ?_⟩, ⟨by rw [(m2 l (by omega)).2.1]; exact a3, fun k a hk => ?_⟩⟩
    · have h8 := (List.getElem?_eq_some_iff.mp hk).1
      have h7 := c5 l k (by omega) (by rw [a1]; omega)
      rw [h7.1, h7.2]
      exact a2 k a hk
    · have h8 := (List.getElem?_eq_some_iff.mp hk).1
      have h7 := m3 (3 * l + k) (by omega)
      rw [h7.1, h7.2]
      exact a4 k a hk
/-- the row stays when only others change -/
theorem RT.lo {C M C' M' : zM} (hT : RT C M 0 0) (hB : SB M) (hC : ∀ f i, Lo 1 f i → C' f i = C f i) (hM : ∀ f i, i ≠ 1 → M' f i = M f i) : RT C' M' 0 0 := by
  have hb1 := hB.1.1
  have hb5 := hB.1.2.2
  have e0 := hM 0 0 (by decide)
  obtain ⟨W, SL, ⟨q1, q2, q3, ⟨w1, w2, w3, w4, w5⟩, ⟨l1, l2, l3⟩⟩, hR⟩ := hT
  have z12 : C' 12 0 = C 12 0 := hC 12 0 (by unfold Lo; omega)
  have z15 : C' 15 0 = C 15 0 := hC 15 0 (by unfold Lo; omega)
  refine ⟨W, SL, ⟨?_, fun l hl => ?_, fun r hr => ?_, ⟨?_, ?_, w3, ?_, ?_⟩, ⟨fun l hl a ha => ?_, ?_, ?_⟩⟩, fun l hl => ?_⟩
  · rw [z12, hM 11 0 (by decide)]; exact q1
  · rw [e0] at hl
    have h9 := q2 l hl
    unfold RC at h9 ⊢
    rw [hC 17 (12 * 0 + l) (by unfold Lo; omega), hM 12 0 (by decide), hM 16 0 (by decide), hM 17 0 (by decide)]
    exact h9
  · rw [e0] at hr
    have h9 := q3 r hr
    unfold RR at h9 ⊢
    rw [hC 16 (12 * 0 + r) (by unfold Lo; omega), e0, hM 10 0 (by decide), hM 20 0 (by decide), hM 21 0 (by decide), hM 22 0 (by decide), hM 23 0 (by decide), hM 24 0 (by decide)]
    exact h9
  · rw [z12]; exact w1
  · rw [z15]; exact w2
  · rw [e0, hM 20 0 (by decide)]; exact w4
  · unfold Wp at w5 ⊢
    rw [hM 21 0 (by decide), hM 18 0 (by decide), hM 19 0 (by decide)]
    exact w5
  · rw [e0] at hl
    obtain ⟨g1, g2⟩ := l1 l hl a ha
    refine ⟨g1, fun g3 => ?_⟩
    obtain ⟨k1, k2, k3, k4, k5⟩ := g2 g3
    rw [e0, hM 20 0 (by decide), hM 21 0 (by decide), hC 16 (12 * 0 + a.1.toNat) (by unfold Lo; omega)]
    exact ⟨k1, k2, k3, k4, k5⟩
  · rw [e0]; exact l2
  · rw [e0, hM 20 0 (by decide), hM 21 0 (by decide)]; exact l3
  · rw [e0] at hl
    have h9 := hR l hl
    unfold repC repM at h9 ⊢
    rw [hC 17 (12 * 0 + l) (by unfold Lo; omega), hC 18 (12 * 0 + l) (by unfold Lo; omega), hC 19 (12 * 0 + l) (by unfold Lo; omega), hM 13 0 (by decide), hM 14 0 (by decide), hM 15 0 (by decide)]
    exact h9
