/-! an arrival in both memories -/
theorem arriveC_off {M : zM} {i i' : Nat} {pf mi : Int} {k : Nat} (h : i' ≠ i) : arriveC M i pf mi 16 i' k = M 16 i' k := by simp [arriveC, zup, h]
theorem arriveC_at (M : zM) (i : Nat) (pf mi : Int) : arriveC M i pf mi 16 i 0 = 2 ∧ arriveC M i pf mi 16 i 1 = pf ∧ arriveC M i pf mi 16 i 2 = -1 ∧ arriveC M i pf mi 16 i 3 = 0 ∧ arriveC M i pf mi 16 i 4 = M 16 i 4 ∧ arriveC M i pf mi 16 i 5 = mi := by simp [arriveC, zup]
theorem waitC_off {M : zM} {i i' : Nat} {pf : Int} {k : Nat} (h : i' ≠ i) : waitC M i pf 16 i' k = M 16 i' k := by simp [waitC, zup, h]
theorem waitC_at (M : zM) (i : Nat) (pf : Int) : waitC M i pf 16 i 0 = 0 ∧ waitC M i pf 16 i 1 = pf ∧ waitC M i pf 16 i 2 = -1 ∧ waitC M i pf 16 i 3 = 0 ∧ waitC M i pf 16 i 4 = M 16 i 4 ∧ waitC M i pf 16 i 5 = M 16 i 5 := by simp [waitC, zup]
theorem giveUpC_off {M : zM} {i i' : Nat} {k : Nat} (h : i' ≠ i) : giveUpC M i 16 i' k = M 16 i' k := by simp [giveUpC, zup, h]
theorem giveUpC_at (M : zM) (i : Nat) : giveUpC M i 16 i 0 = 3 ∧ giveUpC M i 16 i 1 = -1 ∧ giveUpC M i 16 i 2 = M 16 i 2 ∧ giveUpC M i 16 i 3 = 0 ∧ giveUpC M i 16 i 4 = M 16 i 4 ∧ giveUpC M i 16 i 5 = M 16 i 5 := by simp [giveUpC, zup]
theorem rideTC_off {M : zM} {i i' : Nat} {on mi : Int} {k : Nat} (h : i' ≠ i) : rideTC M i on mi 16 i' k = M 16 i' k := by simp [rideTC, zup, h]
theorem rideTC_at (M : zM) (i : Nat) (on mi : Int) : rideTC M i on mi 16 i 0 = 1 ∧ rideTC M i on mi 16 i 1 = -1 ∧ rideTC M i on mi 16 i 2 = on ∧ rideTC M i on mi 16 i 3 = mi ∧ rideTC M i on mi 16 i 4 = M 16 i 4 + 1 ∧ rideTC M i on mi 16 i 5 = M 16 i 5 := by simp [rideTC, zup]
/-- a row stays if nobody of it changes -/
theorem RW.eq {C M C' M' : zM} {t u : Nat} {W : List Nat} (h : RW C M t u W) (c4 : C' 12 t 4 = C 12 t 4) (c15 : C' 15 = C 15) (m010 : M' 0 0 10 = M 0 0 10) (m20 : ∀ r : Nat, (r : Int) < M 0 0 10 → (M' 20 u r = 0 ↔ M 20 u r = 0)) (m21 : ∀ r : Nat, r ∈ W → M' 21 u r = M 21 u r) (m18 : M' 18 = M 18) (m19 : M' 19 = M 19) : RW C' M' t u W := by
  obtain ⟨h1, h2, h3, h4, h5⟩ := h
  have hWe : ∀ p, Wp M' u W p = Wp M u W p := fun p => Wp_eq m21
  refine ⟨by rw [c4]; exact h1, by rw [c15]; exact h2, h3, fun r => ?_, fun p hp => ?_⟩
  · rw [h4 r, m010]
    exact ⟨fun q => ⟨q.1, (m20 r q.1).mpr q.2⟩, fun q => ⟨q.1, (m20 r q.1).mp q.2⟩⟩
  · rw [hWe, m18, m19]; exact h5 p hp
set_option maxHeartbeats 1000000 in
theorem RG.arrive {C M C1 : zM} {t u : Nat} {W : List Nat} {SL : Nat → List (Int × Int)} (h : RG C M t u W SL) (hC8 : ∀ r : Nat, C1 8 r 1 = M 10 0 r) (hC12 : C1 12 = C 12) (hC15 : C1 15 = C 15) (hC17 : C1 17 = C 17) {l r q : Nat} (hC16 : ∀ i k, ¬ (i = 12 * t + r ∧ k = 3) → C1 16 i k = C 16 i k) (hrc : M 0 0 10 ≤ 12) (hl : (l : Int) < M 0 0 5) {P Rt : List (Int × Int)} {x pl : Int} (hSL : SL l = P ++ ((r : Int), x) :: Rt) (hq : q < 8) (hq1 : (q : Int) < M 0 0 1) (hpl : 1 ≤ pl) :
    M 18 u q ≤ 11 ∧ ∃ W', RG (reachC C1 t (r : Int) (q : Int)) (comeM M u (r : Int) (q : Int)) t u W' (setL SL l (P ++ (-1, pl) :: Rt)) := by
  obtain ⟨-, hr, h20, h21⟩ := h.slot hl hSL (by omega)
  simp only [Int.toNat_natCast] at h20 h21
  obtain ⟨h1, h2, h3, h4, h5⟩ := h
  have hnW : r ∉ W := fun z => by have := ((h4.2.2.2.1 r).mp z).2; omega
  have hlen := h4.len hr hnW hrc
  have hql : (Wp M u W q).length ≤ 11 := Nat.le_trans (List.length_filter_le _ _) hlen
  have h18 := (h4.2.2.2.2 q hq).1
  refine ⟨by omega, ?_⟩
  have hrr := h3 r hr
  by_cases g : (q : Int) = M 10 0 r
  · have eC : reachC C1 t (r : Int) (q : Int) = arriveC C1 (12 * t + r) q (C 12 t 5) := by
      unfold reachC
      simp only [Int.toNat_natCast]
      rw [if_pos (by rw [hC8]; exact g), hC12]
    have eM : comeM M u (r : Int) (q : Int) = zup (zup (zup (zup M 21 u r q) 22 u r 0) 20 u r 2) 24 u r (M 11 u 0) := by
      unfold comeM
      simp only [Int.toNat_natCast]
      rw [if_pos g]
    obtain ⟨a0, a1, a2, a3, a4, a5⟩ := arriveC_at C1 (12 * t + r) (q : Int) (C 12 t 5)
    refine ⟨W, ?_⟩
    rw [eC, eM]
    refine ⟨?_, fun l' hl' => ?_, fun z hz => ?_, ?_, ?_⟩
    · rw [arriveC_fr (by decide), hC12]; simp [zup]; exact h1
    · have := h2 l' (by simpa [zup] using hl')
      unfold RC at this ⊢
      rw [arriveC_fr (f := 17) (by decide), hC17]
      simpa [zup] using this
    · have hz0 : (z : Int) < M 0 0 10 := by simpa [zup] using hz
      by_cases e : z = r
      · subst e
        unfold RR at hrr ⊢
        rw [a0, a1, a2, a3, a4, a5, hC16 _ _ (by omega)]
        simp [zup]
        exact ⟨hrr.2.1, h1, g⟩
      · refine (h3 z hz0).eq (fun k => ?_) ?_ ?_ ?_ ?_ ?_ ?_ ?_
        · rw [arriveC_off (by omega), hC16 _ _ (by omega)]
        all_goals simp [zup, e]
    · refine h4.eq ?_ ?_ ?_ (fun z hz => ?_) (fun z hz => ?_) ?_ ?_
      · rw [arriveC_fr (by decide), hC12]
      · rw [arriveC_fr (by decide), hC15]
      · simp [zup]
      · by_cases e : z = r
        · subst e; simp [zup, h20]
        · simp [zup, e]
      · have e : z ≠ r := fun e => hnW (e ▸ hz)
        simp [zup, e]
      · rw [zup_fr (by decide), zup_fr (by decide), zup_fr (by decide), zup_fr (by decide)]
      · rw [zup_fr (by decide), zup_fr (by decide), zup_fr (by decide), zup_fr (by decide)]
    · refine h5.turn hl hSL (y := (-1, pl)) hpl ?_ ?_ (fun z e => ?_) (fun z e => ?_) (fun z e => ?_) (Or.inl ⟨rfl, ?_⟩)
      · simp [zup]
      · simp [zup]
      · simp [zup, e]
      · simp [zup, e]
      · rw [arriveC_off (by omega), hC16 _ _ (by omega)]
      · simp [zup]
  · have h12 : C 12 t 4 = (W.length : Int) := h4.1
    have eC : reachC C1 t (r : Int) (q : Int) = zup (zup (waitC C1 (12 * t + r) q) 15 t W.length r) 12 t 4 (C 12 t 4 + 1) := by
      unfold reachC
      simp only [Int.toNat_natCast]
      rw [if_neg (by rw [hC8]; exact g), hC12, if_pos (by omega), h12, Int.toNat_natCast]
    have eM : comeM M u (r : Int) (q : Int) = zup (zup (zup (zup (zup M 21 u r q) 22 u r 0) 20 u r 0) 19 u (12 * q + (M 18 u q).toNat) r) 18 u q (M 18 u q + 1) := by
      unfold comeM
      simp only [Int.toNat_natCast]
      rw [if_neg g, show (12 * (q : Int) + M 18 u q).toNat = 12 * q + (M 18 u q).toNat by omega]
    obtain ⟨a0, a1, a2, a3, a4, a5⟩ := waitC_at C1 (12 * t + r) (q : Int)
    refine ⟨W ++ [r], ?_⟩
    rw [eC, eM]
    refine ⟨?_, fun l' hl' => ?_, fun z hz => ?_, ?_, ?_⟩
    · simp [zup, waitC_fr (f := 12), hC12]; exact h1
    · have := h2 l' (by simpa [zup] using hl')
      unfold RC at this ⊢
      rw [zup_fr (show 17 ≠ 12 by decide), zup_fr (show 17 ≠ 15 by decide), waitC_fr (f := 17) (by decide), hC17]
      simpa [zup] using this
    · have hz0 : (z : Int) < M 0 0 10 := by simpa [zup] using hz
      by_cases e : z = r
      · subst e
        unfold RR at hrr ⊢
        rw [zup_fr (show 16 ≠ 12 by decide), zup_fr (show 16 ≠ 15 by decide), a0, a1, a2, a3, a4, a5, hC16 _ _ (by omega), hC16 _ _ (by omega)]
        simp [zup]
        exact ⟨hrr.2.1, hrr.2.2.1, hq1⟩
      · refine (h3 z hz0).eq (fun k => ?_) ?_ ?_ ?_ ?_ ?_ ?_ ?_
        · rw [zup_fr (show 16 ≠ 12 by decide), zup_fr (show 16 ≠ 15 by decide), waitC_off (by omega), hC16 _ _ (by omega)]
        all_goals simp [zup, e]
    · refine h4.come hr hnW hq ?_ (fun k e => ?_) ?_ ?_ (fun z e => ?_) ?_ (fun z e => ?_) ?_ (fun z _ e => ?_) ?_ (fun k e => ?_) ?_ hlen
      · simp [zup, h12]
      · simp [zup, e, waitC_fr (f := 15), hC15]
      · simp [zup]
      · simp [zup]
      · simp [zup, e]
      · simp [zup]
      · simp [zup, e]
      · simp [zup]
      · simp [zup, e]
      · simp [zup]
      · simp [zup, e]
      · simp [zup]
    · refine h5.turn hl hSL (y := (-1, pl)) hpl ?_ ?_ (fun z e => ?_) (fun z e => ?_) (fun z e => ?_) (Or.inl ⟨rfl, ?_⟩)
      · simp [zup]
      · simp [zup]
      · simp [zup, e]
      · simp [zup, e]
      · rw [zup_fr (show 16 ≠ 12 by decide), zup_fr (show 16 ≠ 15 by decide), waitC_off (by omega), hC16 _ _ (by omega)]
      · simp [zup]
