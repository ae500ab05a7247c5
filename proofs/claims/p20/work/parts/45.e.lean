theorem ite_c {P : Prop} [Decidable P] (C : zM) : (if P then C else C) = C := by split <;> rfl
theorem zRel.Z {n : Nat} {C M : zM} (h : zRel n C M) (hn : n < 512) : RS C (zup M 0 0 0 0) ∧ RT C (zup M 0 0 0 0) 0 0 ∧ RZ C (zup M 0 0 0 0) ∧ WTM (400 * n) (20000 * n) (zup M 0 0 0 0) ∧ WTC (400 * n) (20000 * n) C := by
  obtain ⟨hw, hS, hT, hZ⟩ := h.z (v := 0) (by omega)
  exact ⟨hS, hT, hZ, (hw (by omega)).2, (hw (by omega)).1⟩
theorem RZ.o13 {C M : zM} (h : RZ C M) : ∀ l : Nat, M 0 0 5 ≤ l → l < 12 → M 13 0 l = 0 := fun l a b => (h.1 l a b).2.2.2.2.2.1
theorem zst_mean : zSt_mean zRel := fun n C M h hn => ⟨mean_eq (h.Z hn).1 (h.Z hn).2.1, (h.z (v := 0) (by omega)).next⟩
theorem low21 {C M : zM} {n : Nat} (h : zRel n C M) (hn : n < 512) : ∀ r : Nat, (r : Int) < M 0 0 10 → M 20 0 r = 0 → M 21 0 r ≤ 7 := fun r hr h0 => by
  have h01 : M 0 0 1 ≤ 8 := ((h.1 (by omega)).2.1 0 0 1).2
  obtain ⟨W, SL, hG, hR⟩ := h.2.2.1
  have := (hG.2.2.1 r hr).2.2.2.1 h0
  omega
theorem zst_digest : zSt_digest zRel := fun n C M h hn => ⟨low21 h hn, digest_eq (h.Z hn).1 (h.Z hn).2.1 (h.Z hn).2.2.1.o13 (h.Z hn).2.2.2.1, (h.z (v := 0) (by omega)).next⟩
theorem zst_platform : zSt_platform zRel := by
  intro n C M h hn a1 a2 _ _
  obtain ⟨hS, hT, hZ, hwM, hwC⟩ := h.Z hn
  obtain ⟨k1, k2, k3⟩ := kPlat_eq h.2.1.1.1 a1 a2
  have h01 : M 0 0 1 ≤ 8 := ((h.1 (by omega)).2.1 0 0 1).2
  refine ⟨by unfold platFM; rw [k1, face_0], fun hk => ?_, by rw [ite_c]; exact h.face k3⟩
  rw [k1] at hk
  refine ⟨k2 hk, ?_⟩
  have hr := hk
  unfold kPlatM at hr
  split at hr
  · rename_i q
    obtain ⟨p, rfl⟩ : ∃ p : Nat, a1 = (p : Int) := ⟨a1.toNat, by omega⟩
    unfold platFR
    rw [if_pos hk]
    exact plat_eq hS hT (by simp [zup]; omega) (by omega) a2
  · exact absurd hr (by decide)
theorem zst_line : zSt_line zRel := by
  intro n C M h hn a1 a2 _ _
  obtain ⟨hS, hT, hZ, hwM, hwC⟩ := h.Z hn
  obtain ⟨k1, k2, k3⟩ := kLine_eq h.2.1.1.2.1 a1 a2
  refine ⟨by unfold lineFM; rw [k1, face_0], fun hk => ?_, by rw [ite_c]; exact h.face k3⟩
  rw [k1] at hk
  refine ⟨k2 hk, ?_⟩
  have hr := hk
  unfold kLineM at hr
  split at hr
  · rename_i q
    obtain ⟨p, rfl⟩ : ∃ p : Nat, a1 = (p : Int) := ⟨a1.toNat, by omega⟩
    unfold lineFR
    rw [if_pos hk]
    exact line_eq hS hT (by simp [zup]; omega) a2
  · exact absurd hr (by decide)
theorem zst_rider : zSt_rider zRel := by
  intro n C M h hn a1 a2 _ _
  obtain ⟨hS, hT, hZ, hwM, hwC⟩ := h.Z hn
  obtain ⟨k1, k2, k3⟩ := kRider_eq h.2.1.1.2.2 a1 a2
  refine ⟨low21 h hn, by unfold riderFM; rw [k1, face_0], fun hk => ?_, by rw [ite_c]; exact h.face k3⟩
  rw [k1] at hk
  refine ⟨k2 hk, ?_⟩
  have hr := hk
  unfold kRiderM at hr
  split at hr
  · rename_i q
    obtain ⟨p, rfl⟩ : ∃ p : Nat, a1 = (p : Int) := ⟨a1.toNat, by omega⟩
    unfold riderFR
    rw [if_pos hk]
    exact rider_eq hS hT hZ.o13 hwM (by simp [zup]; omega) a2
  · exact absurd hr (by decide)
theorem zst_count : zSt_count zRel := by
  intro n C M h hn a1 _
  obtain ⟨hS, hT, hZ, hwM, hwC⟩ := h.Z hn
  obtain ⟨k1, k2, k3⟩ := kCount_eq a1
  refine ⟨by unfold countFM; rw [k1, face_0], fun hk => ?_, by rw [ite_c]; exact h.face k3⟩
  rw [k1] at hk
  refine ⟨k2 hk, ?_⟩
  unfold countFR
  rw [if_pos hk]
  exact count_eq hS hT a1
theorem zst_ride : zSt_ride zRel := by
  intro n C M h hn a1 a2 _ _
  obtain ⟨hS, hT, hZ, hwM, hwC⟩ := h.Z hn
  obtain ⟨k1, k2, k3⟩ := kRide_eq h.2.1.1.2.1 a1 a2
  refine ⟨by unfold rideFM; rw [k1, face_0], fun hk => ?_, by rw [ite_c]; exact h.face k3⟩
  rw [k1] at hk
  refine ⟨k2 hk, ?_⟩
  have hr := hk
  unfold kRideM at hr
  split at hr
  · rename_i q
    split at hr
    · rename_i q2
      obtain ⟨l, rfl⟩ : ∃ l : Nat, a1 = (l : Int) := ⟨a1.toNat, by omega⟩
      have e5 : zup M 0 0 0 0 0 0 5 = M 0 0 5 := by simp [zup]
      have hl : (l : Int) < zup M 0 0 0 0 0 0 5 := by rw [e5]; omega
      obtain ⟨d1, d2, d3, d4, d5⟩ := hS.2.2.2.1 l hl
      obtain ⟨r1, r2, r3⟩ := ride_eq (M := zup M 0 0 0 0) (l := (l : Int)) (w := a2) d5 (hwM.sb.2.2.1 l hl) q2.1
      have e6 : C 7 l 2 = M 6 0 l := by
        have := (hS.2.2.1 l).2.2
        rw [zup_fr (by decide)] at this
        exact this
      unfold rideFR rideR
      rw [if_pos hk, Int.toNat_natCast, e6, d1, d2]
      by_cases y : a2 ≤ M 6 0 l
      · rw [if_pos y, if_neg (show ¬ M 6 0 l < a2 by omega), ← r1]
        unfold absC
        by_cases z : a2 * dropM (zup M 0 0 0 0) l < 10 * lenM (zup M 0 0 0 0) l
        · have z2 := r3.mpr z
          rw [if_pos z, if_neg (show ¬ 0 ≤ rideM (zup M 0 0 0 0) (l : Int) a2 by omega)]
          omega
        · have z2 : ¬ rideM (zup M 0 0 0 0) l a2 < 0 := fun q => z (r3.mp q)
          rw [if_neg z, if_pos (show 0 ≤ rideM (zup M 0 0 0 0) (l : Int) a2 by omega)]
      · rw [if_neg y, if_pos (show M 6 0 l < a2 by omega)]
    · exact absurd hr (by decide)
  · exact absurd hr (by decide)
theorem zst_queue : zSt_queue zRel := by
  intro n C M h hn a1 a2 _ _
  obtain ⟨hS, hT, hZ, hwM, hwC⟩ := h.Z hn
  have h01 : M 0 0 1 ≤ 8 := ((h.1 (by omega)).2.1 0 0 1).2
  have hc : C 1 0 4 = M 0 0 1 := h.2.1.1.1
  have hk9 : wcd 3 0 0 (kQueue C a1 a2) = kQueueM M a1 a2 ∧ (kQueueM M a1 a2 = 0 → kQueue C a1 a2 = 0 ∧ (0 ≤ a1 ∧ a1 ≤ M 0 0 1 - 1) ∧ (0 ≤ a2 ∧ a2 ≤ M 18 0 a1.toNat - 1)) ∧ (0 ≤ kQueueM M a1 a2 ∧ kQueueM M a1 a2 ≤ 3) := by
    unfold kQueue kQueueM
    rw [hc]
    by_cases h1 : 0 ≤ a1 ∧ a1 ≤ M 0 0 1 - 1
    · obtain ⟨p, rfl⟩ : ∃ p : Nat, a1 = (p : Int) := ⟨a1.toNat, by omega⟩
      rw [qLen_eq h.2.2.1 (by omega), Int.toNat_natCast]
      by_cases h2 : 0 ≤ a2 ∧ a2 ≤ M 18 0 p - 1
      · rw [if_pos h1, if_pos h2, if_pos (And.intro h1 h2)]; exact ⟨rfl, fun _ => ⟨rfl, h1, h2⟩, by decide⟩
      · rw [if_pos h1, if_neg h2, if_neg (fun z => h2 z.2)]; exact ⟨rfl, fun z => absurd z (by decide), by decide⟩
    · rw [if_neg h1, if_neg (fun z => h1 z.1)]; exact ⟨rfl, fun z => absurd z (by decide), by decide⟩
  obtain ⟨k1, k2, k3⟩ := hk9
  refine ⟨by unfold queueFM; rw [k1, face_0], fun hk => ?_, by rw [ite_c]; exact h.face k3⟩
  rw [k1] at hk
  obtain ⟨j1, j2, j3⟩ := k2 hk
  refine ⟨j1, ?_⟩
  obtain ⟨p, rfl⟩ : ∃ p : Nat, a1 = (p : Int) := ⟨a1.toNat, by omega⟩
  obtain ⟨ix, rfl⟩ : ∃ ix : Nat, a2 = (ix : Int) := ⟨a2.toNat, by omega⟩
  rw [Int.toNat_natCast] at j3
  unfold queueFR
  rw [if_pos hk, qAt_eq h.2.2.1 (by omega) (by omega), show (12 * (p : Int) + (ix : Int)).toNat = 12 * p + ix by omega]
