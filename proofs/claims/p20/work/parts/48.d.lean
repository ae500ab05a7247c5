/-! come -/
set_option maxHeartbeats 1000000 in
theorem come_RT {C Z D N0 : zM} {r q : Nat} {g : Int} (hT : RT C Z 0 0) (hZ : RZ C Z) (hr : Z 0 0 10 = (r : Int)) (hr12 : r < 12) (hq : q < 8) (hq1 : (q : Int) < Z 0 0 1)
    (hD : ∀ f, 12 ≤ f → D f = C f) (hD8 : D 8 r 1 = g) (n10 : N0 0 0 10 = (r : Int) + 1) (n5 : N0 0 0 5 = Z 0 0 5) (n1 : N0 0 0 1 = Z 0 0 1) (nf : ∀ f, 11 ≤ f → f ≠ 24 → N0 f = Z f) (n24 : ∀ z, z ≠ r → N0 24 0 z = Z 24 0 z) (n24r : N0 24 0 r = -1) (m10 : ∀ z, z ≠ r → N0 10 0 z = Z 10 0 z) (m10r : N0 10 0 r = g) :
    Z 18 0 q ≤ 11 ∧ RT (reachC D 0 (r : Int) (q : Int)) (comeM N0 0 (r : Int) (q : Int)) 0 0 ∧ RZ (reachC D 0 (r : Int) (q : Int)) (comeM N0 0 (r : Int) (q : Int)) := by
  obtain ⟨W, SL, ⟨q1, q2, q3, q4, q5⟩, hR⟩ := hT
  have hrW : r ∉ W := fun z => by have := ((q4.2.2.2.1 r).mp z).1; omega
  have hlen : W.length ≤ 11 := by
    have := nodup_len r W q4.2.2.1 (fun x hx => by have := ((q4.2.2.2.1 x).mp hx).1; omega)
    omega
  have h18 := (q4.2.2.2.2 q hq).1
  have hql : (Wp Z 0 W q).length ≤ 11 := Nat.le_trans (List.length_filter_le _ _) hlen
  obtain ⟨y4, y5, y6⟩ := hZ.2 r (by omega) hr12
  refine ⟨by omega, ?_⟩
  have e16 : D 16 = C 16 := hD 16 (by decide)
  have e12 : D 12 = C 12 := hD 12 (by decide)
  have e15 : D 15 = C 15 := hD 15 (by decide)
  have e17 : D 17 = C 17 := hD 17 (by decide)
  have e18 : D 18 = C 18 := hD 18 (by decide)
  have e19 : D 19 = C 19 := hD 19 (by decide)
  have f11 := nf 11 (by decide) (by decide)
  have f12 := nf 12 (by decide) (by decide)
  have f13 := nf 13 (by decide) (by decide)
  have f14 := nf 14 (by decide) (by decide)
  have f15 := nf 15 (by decide) (by decide)
  have f16 := nf 16 (by decide) (by decide)
  have f17 := nf 17 (by decide) (by decide)
  have f18 := nf 18 (by decide) (by decide)
  have f19 := nf 19 (by decide) (by decide)
  have f20 := nf 20 (by decide) (by decide)
  have f21 := nf 21 (by decide) (by decide)
  have f22 := nf 22 (by decide) (by decide)
  have f23 := nf 23 (by decide) (by decide)
  by_cases hg : (q : Int) = g
  · have eC : reachC D 0 (r : Int) (q : Int) = arriveC D (12 * 0 + r) q (C 12 0 5) := by
      unfold reachC
      rw [Int.toNat_natCast, if_pos (by rw [hD8]; exact hg), e12]
    have eM : comeM N0 0 (r : Int) (q : Int) = zup (zup (zup (zup N0 21 0 r q) 22 0 r 0) 20 0 r 2) 24 0 r (Z 11 0 0) := by
      unfold comeM
      rw [Int.toNat_natCast, if_pos (by rw [m10r]; exact hg), f11]
    obtain ⟨a0, a1, a2, a3, a4, a5⟩ := arriveC_at D (12 * 0 + r) (q : Int) (C 12 0 5)
    rw [eC, eM]
    have c16 : ∀ z k, z ≠ r → arriveC D (12 * 0 + r) q (C 12 0 5) 16 (12 * 0 + z) k = C 16 (12 * 0 + z) k := fun z k e => by rw [arriveC_off (by omega), e16]
    have cf : ∀ f, 12 ≤ f → f ≠ 16 → arriveC D (12 * 0 + r) q (C 12 0 5) f = C f := fun f h12 h16 => by rw [arriveC_fr h16, hD f h12]
    refine ⟨⟨W, SL, ⟨?_, fun l hl => ?_, fun z hz => ?_, ⟨?_, ?_, q4.2.2.1, fun z => ?_, fun p hp => ?_⟩, ⟨fun l hl a ha => ?_, fun l hl => ?_, fun z hz hz1 => ?_⟩⟩, fun l hl => ?_⟩, ⟨fun l hl hl2 => ?_, fun z hz hz2 => ?_⟩⟩
    · rw [cf 12 (by decide) (by decide)]; simp [zup, f11]; exact q1
    · have h9 := q2 l (by simpa [zup, n5] using hl)
      unfold RC at h9 ⊢
      rw [cf 17 (by decide) (by decide)]
      simpa [zup, f12, f16, f17] using h9
    · have hz0 : (z : Int) < (r : Int) + 1 := by simpa [zup, n10] using hz
      by_cases e : z = r
      · subst e
        unfold RR
        rw [a0, a1, a2, a3, a4, a5, e16, y4]
        simp [zup, f23, y6, m10r, hg, q1]
      · refine (q3 z (by omega)).eq (fun k => c16 z k e) ?_ ?_ ?_ ?_ ?_ ?_ ?_
        · simp [zup, e, f20]
        · simp [zup, e, f21]
        · simp [zup, e, f22]
        · simp [zup, f23]
        · simp [zup, e, n24 z e]
        · simp [zup, n1]
        · simp [zup, m10 z e]
    · rw [cf 12 (by decide) (by decide)]; exact q4.1
    · rw [cf 15 (by decide) (by decide)]; exact q4.2.1
    · have h9 := q4.2.2.2.1 z
      by_cases e : z = r
      · subst e
        refine ⟨fun y => absurd y hrW, fun y => ?_⟩
        have := y.2
        simp [zup] at this
      · rw [h9]
        simp [zup, e, f20, n10]
        intro _
        omega
    · have h9 := q4.2.2.2.2 p hp
      have eW : Wp (zup (zup (zup (zup N0 21 0 r q) 22 0 r 0) 20 0 r 2) 24 0 r (Z 11 0 0)) 0 W p = Wp Z 0 W p := Wp_eq (fun x hx => by
        have e : x ≠ r := fun e => hrW (e ▸ hx)
        simp [zup, e, f21])
      rw [eW]
      simpa [zup, f18, f19] using h9
    · have hl0 : (l : Int) < Z 0 0 5 := by simpa [zup, n5] using hl
      obtain ⟨g1, g2⟩ := q5.1 l hl0 a ha
      refine ⟨g1, fun g3 => ?_⟩
      obtain ⟨x1, x2, x3, x4, x5⟩ := g2 g3
      have e : a.1.toNat ≠ r := by omega
      refine ⟨x1, ?_, ?_, ?_, ?_⟩
      · simp [zup, n10]; omega
      · simp [zup, e, f20]; exact x3
      · simp [zup, e, f21]; exact x4
      · rw [c16 _ 3 e]; exact x5
    · exact q5.2.1 l (by simpa [zup, n5] using hl)
    · have hz0 : (z : Int) < (r : Int) + 1 := by simpa [zup, n10] using hz
      by_cases e : z = r
      · subst e; simp [zup] at hz1
      · simp [zup, e, f20] at hz1
        have h9 := q5.2.2 z (by omega) hz1
        simp [zup, e, f21, n5]
        simpa using h9
    · have h9 := hR l (by simpa [zup, n5] using hl)
      unfold repC repM at h9 ⊢
      rw [cf 17 (by decide) (by decide), cf 18 (by decide) (by decide), cf 19 (by decide) (by decide), zup_fr (show 13 ≠ 24 by decide), zup_fr (show 13 ≠ 20 by decide), zup_fr (show 13 ≠ 22 by decide), zup_fr (show 13 ≠ 21 by decide), zup_fr (show 14 ≠ 24 by decide), zup_fr (show 14 ≠ 20 by decide), zup_fr (show 14 ≠ 22 by decide), zup_fr (show 14 ≠ 21 by decide), zup_fr (show 15 ≠ 24 by decide), zup_fr (show 15 ≠ 20 by decide), zup_fr (show 15 ≠ 22 by decide), zup_fr (show 15 ≠ 21 by decide), f13, f14, f15]
      exact h9
    · have h9 := hZ.1 l (by simpa [zup, n5] using hl) hl2
      rw [cf 17 (by decide) (by decide)]
      simpa [zup, f12, f13, f16, f17] using h9
    · have hz0 : (r : Int) + 1 ≤ (z : Int) := by simpa [zup, n10] using hz
      have h9 := hZ.2 z (by omega) hz2
      rw [c16 z 4 (by omega), c16 z 5 (by omega)]
      simpa [zup, f23] using h9
  · have w4 : C 12 0 4 = (W.length : Int) := q4.1
    have eC : reachC D 0 (r : Int) (q : Int) = zup (zup (waitC D (12 * 0 + r) q) 15 0 W.length r) 12 0 4 (C 12 0 4 + 1) := by
      unfold reachC
      rw [Int.toNat_natCast, if_neg (by rw [hD8]; exact hg), e12, if_pos (by omega), w4, Int.toNat_natCast]
    have eM : comeM N0 0 (r : Int) (q : Int) = zup (zup (zup (zup (zup N0 21 0 r q) 22 0 r 0) 20 0 r 0) 19 0 (12 * q + (Z 18 0 q).toNat) r) 18 0 q (Z 18 0 q + 1) := by
      unfold comeM
      rw [Int.toNat_natCast, if_neg (by rw [m10r]; exact hg), Int.toNat_natCast, f18, show (12 * (q : Int) + Z 18 0 q).toNat = 12 * q + (Z 18 0 q).toNat by omega]
    obtain ⟨a0, a1, a2, a3, a4, a5⟩ := waitC_at D (12 * 0 + r) (q : Int)
    rw [eC, eM]
    have c16z : zup (zup (waitC D (12 * 0 + r) q) 15 0 W.length r) 12 0 4 (C 12 0 4 + 1) 16 = waitC D (12 * 0 + r) q 16 := by rw [zup_fr (by decide), zup_fr (by decide)]
    have c16 : ∀ z k, z ≠ r → zup (zup (waitC D (12 * 0 + r) q) 15 0 W.length r) 12 0 4 (C 12 0 4 + 1) 16 (12 * 0 + z) k = C 16 (12 * 0 + z) k := fun z k e => by rw [c16z, waitC_off (by omega), e16]
    have cf : ∀ f, 12 ≤ f → f ≠ 16 → f ≠ 12 → f ≠ 15 → zup (zup (waitC D (12 * 0 + r) q) 15 0 W.length r) 12 0 4 (C 12 0 4 + 1) f = C f := fun f h12 h16 h9 h15 => by rw [zup_fr h9, zup_fr h15, waitC_fr h16, hD f h12]
    have hw12 : ∀ i : Nat, waitC D i q 12 = C 12 := fun i => by rw [waitC_fr (by decide), e12]
    have hw15 : ∀ i : Nat, waitC D i q 15 = C 15 := fun i => by rw [waitC_fr (by decide), e15]
    refine ⟨⟨W ++ [r], SL, ⟨?_, fun l hl => ?_, fun z hz => ?_, ?_, ⟨fun l hl a ha => ?_, fun l hl => ?_, fun z hz hz1 => ?_⟩⟩, fun l hl => ?_⟩, ⟨fun l hl hl2 => ?_, fun z hz hz2 => ?_⟩⟩
    · simp [zup, hw12, f11]; exact q1
    · have h9 := q2 l (by simpa [zup, n5] using hl)
      unfold RC at h9 ⊢
      rw [cf 17 (by decide) (by decide) (by decide) (by decide)]
      simpa [zup, f12, f16, f17] using h9
    · have hz0 : (z : Int) < (r : Int) + 1 := by simpa [zup, n10] using hz
      by_cases e : z = r
      · subst e
        unfold RR
        rw [c16z, a0, a1, a2, a3, a4, a5, e16, y4, y5]
        simp [zup, f23, y6, n24r, n1]
        exact hq1
      · refine (q3 z (by omega)).eq (fun k => c16 z k e) ?_ ?_ ?_ ?_ ?_ ?_ ?_
        · simp [zup, e, f20]
        · simp [zup, e, f21]
        · simp [zup, e, f22]
        · simp [zup, f23]
        · simp [zup, n24 z e]
        · simp [zup, n1]
        · simp [zup, m10 z e]
    · have hN3 : RW C (zup N0 20 0 r 3) 0 0 W := by
        obtain ⟨w1, w2, w3, w5, w6⟩ := q4
        refine ⟨w1, w2, w3, fun z => ?_, fun p hp => ?_⟩
        · by_cases e : z = r
          · subst e
            refine ⟨fun y => absurd y hrW, fun y => ?_⟩
            have := y.2
            simp [zup] at this
          · rw [w5 z]
            simp [zup, e, f20, n10]
            intro _
            omega
        · have eW : Wp (zup N0 20 0 r 3) 0 W p = Wp Z 0 W p := Wp_eq (fun x hx => by rw [zup_fr (by decide), f21])
          rw [eW, zup_fr (show 18 ≠ 20 by decide), zup_fr (show 19 ≠ 20 by decide), f18, f19]
          exact w6 p hp
      refine hN3.come (q := q) (by simp [zup, n10]; omega) hrW hq ?_ (fun k e => ?_) ?_ ?_ (fun z e => ?_) ?_ (fun z e => ?_) ?_ (fun z _ e => ?_) ?_ (fun k e => ?_) ?_ hlen
      · simp [zup, w4]
      · simp [zup, e, hw15]
      · simp [zup]
      · simp [zup]
      · simp [zup, e]
      · simp [zup]
      · simp [zup, e]
      · simp [zup]
      · simp [zup, e]
      · simp [zup, f18]
      · rw [zup_fr (show 18 ≠ 20 by decide), f18] at e
        simp [zup, e]
      · rw [zup_fr (show 18 ≠ 20 by decide), f18]
        simp [zup]
    · have hl0 : (l : Int) < Z 0 0 5 := by simpa [zup, n5] using hl
      obtain ⟨g1, g2⟩ := q5.1 l hl0 a ha
      refine ⟨g1, fun g3 => ?_⟩
      obtain ⟨x1, x2, x3, x4, x5⟩ := g2 g3
      have e : a.1.toNat ≠ r := by omega
      refine ⟨x1, ?_, ?_, ?_, ?_⟩
      · simp [zup, n10]; omega
      · simp [zup, e, f20]; exact x3
      · simp [zup, e, f21]; exact x4
      · rw [c16 _ 3 e]; exact x5
    · exact q5.2.1 l (by simpa [zup, n5] using hl)
    · have hz0 : (z : Int) < (r : Int) + 1 := by simpa [zup, n10] using hz
      by_cases e : z = r
      · subst e; simp [zup] at hz1
      · simp [zup, e, f20] at hz1
        have h9 := q5.2.2 z (by omega) hz1
        simp [zup, e, f21, n5]
        simpa using h9
    · have h9 := hR l (by simpa [zup, n5] using hl)
      unfold repC repM at h9 ⊢
      rw [cf 17 (by decide) (by decide) (by decide) (by decide), cf 18 (by decide) (by decide) (by decide) (by decide), cf 19 (by decide) (by decide) (by decide) (by decide), zup_fr (show 13 ≠ 18 by decide), zup_fr (show 13 ≠ 19 by decide), zup_fr (show 13 ≠ 20 by decide), zup_fr (show 13 ≠ 22 by decide), zup_fr (show 13 ≠ 21 by decide), zup_fr (show 14 ≠ 18 by decide), zup_fr (show 14 ≠ 19 by decide), zup_fr (show 14 ≠ 20 by decide), zup_fr (show 14 ≠ 22 by decide), zup_fr (show 14 ≠ 21 by decide), zup_fr (show 15 ≠ 18 by decide), zup_fr (show 15 ≠ 19 by decide), zup_fr (show 15 ≠ 20 by decide), zup_fr (show 15 ≠ 22 by decide), zup_fr (show 15 ≠ 21 by decide), f13, f14, f15]
      exact h9
    · have h9 := hZ.1 l (by simpa [zup, n5] using hl) hl2
      rw [cf 17 (by decide) (by decide) (by decide) (by decide)]
      simpa [zup, f12, f13, f16, f17] using h9
    · have hz0 : (r : Int) + 1 ≤ (z : Int) := by simpa [zup, n10] using hz
      have h9 := hZ.2 z (by omega) hz2
      rw [c16 z 4 (by omega), c16 z 5 (by omega)]
      simpa [zup, f23] using h9
