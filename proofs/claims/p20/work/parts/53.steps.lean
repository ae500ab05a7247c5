/-! the class's memory after n calls of the law: the ghost beside it, and what holds of it alone -/
def GS (n : Nat) (C : zM) : Prop := ∃ M : zM, zRel2 n C M ∧ NI C
theorem z2_build : zSt_build zRel2 := zsteps2.2.2.2.2.1
theorem z2_span : zSt_span zRel2 := zsteps2.2.2.2.2.2.1
theorem z2_add : zSt_add zRel2 := zsteps2.2.2.2.2.2.2.1
theorem z2_wind : zSt_setWind zRel2 := zsteps2.2.2.2.2.2.2.2.1
theorem z2_come : zSt_come zRel2 := zsteps2.2.2.2.2.2.2.2.2.2.2.2.1
theorem z2_pass : zSt_pass zRel2 := zsteps2.2.2.2.2.2.2.2.2.2.2.2.2.2.2.1
theorem z2_way : zSt_way zRel2 := zsteps2.2.2.2.2.2.2.2.2.2.2.2.2.2.2.2.2.1
theorem z2_arrives : zSt_arrives zRel2 := zsteps2.2.2.2.2.2.2.2.2.2.2.2.2.2.2.2.2.2.1
theorem z2_advise : zSt_advise zRel2 := zsteps2.2.2.2.2.2.2.2.2.2.2.2.2.2.2.2.2.2.2
theorem GS.wt {n : Nat} {C : zM} (h : GS n C) (hn : n ≤ 512) : WTC (400 * n) (20000 * n) C := by
  obtain ⟨M, h, -⟩ := h
  exact (zsteps2.1 n C M h hn).1
theorem GS.skip {n : Nat} {C : zM} (h : GS n C) : GS (n + 1) C := by
  obtain ⟨M, h, i⟩ := h
  exact ⟨M, zsteps2.2.1 n C M h, i⟩
theorem GS.up {n : Nat} {C : zM} (h : GS n C) (k : Nat) : GS (n + k) C := by
  induction k with
  | zero => exact h
  | succ k ih => exact ih.skip
theorem NI.eq {C C' : zM} (h : NI C) (h5 : C' 1 0 5 = C 1 0 5) (h6 : C' 1 0 6 = C 1 0 6) (h8 : ∀ r, C' 8 r 3 = C 8 r 3) (h12 : C' 12 0 5 = C 12 0 5) (h16 : ∀ r : Nat, (r : Int) < C 1 0 6 → ∀ k, C' 16 (12 * 0 + r) k = C 16 (12 * 0 + r) k) (h17 : ∀ l : Nat, (l : Int) < C 1 0 5 → ∀ k, 4 ≤ k → C' 17 (12 * 0 + l) k = C 17 (12 * 0 + l) k) : NI C' := by
  obtain ⟨n1, n2, n3⟩ := h
  refine ⟨fun r hr => ?_, fun l hl => ?_, ?_⟩
  · rw [h6] at hr
    rw [h16 r hr 0, h16 r hr 3, h16 r hr 4, h16 r hr 5, h8, h12]
    exact n1 r hr
  · rw [h5] at hl
    rw [h17 l hl 4 (by decide), h17 l hl 5 (by decide), h12]
    exact n2 l hl
  · rw [h5, h6, zsum_congr (f := fun r => C' 16 (12 * 0 + r) 4) (g := fun r => C 16 (12 * 0 + r) 4) (fun k hk => h16 k (by omega) 4), zsum_congr (f := fun l => C' 17 (12 * 0 + l) 4) (g := fun l => C 17 (12 * 0 + l) 4) (fun k hk => h17 k (by omega) 4 (by decide))]
    exact n3
theorem gs_build {n : Nat} {C : zM} {x y q : Int} (hG : GS n C) (hn : n < 512) (hx : 0 ≤ x ∧ x ≤ 40) (hy : 0 ≤ y ∧ y ≤ 40) (hq : 0 ≤ q ∧ q ≤ 60) (hf : ∀ j : Nat, (j : Int) < C 1 0 4 → C 6 j 0 ≠ x) (hc : C 1 0 4 < 8) : kBuild C x y q = 0 ∧ GS (n + 1) (addPlatformC C x y q) := by
  have hk : kBuild C x y q = 0 := by
    unfold kBuild
    rw [if_pos hx, if_pos hy, if_pos hq, if_neg (fun z => z (zcnt_zero.mpr (fun k hk q9 => hf k (by omega) q9.1))), if_pos hc]
  obtain ⟨M, hR, hI⟩ := hG
  obtain ⟨-, -, t3⟩ := z2_build n C M hR hn x y q ⟨by omega, by omega⟩ ⟨by omega, by omega⟩ ⟨by omega, by omega⟩
  rw [if_pos hk] at t3
  refine ⟨hk, _, t3, hI.eq ?_ ?_ (fun r => ?_) ?_ (fun r _ k => ?_) (fun l _ k _ => ?_)⟩
  all_goals simp [addPlatformC, zup]
theorem gs_span {n : Nat} {C : zM} {t b mo tr : Int} (hG : GS n C) (hn : n < 512) (ht : 0 ≤ t ∧ t ≤ C 1 0 4 - 1) (hb : 0 ≤ b ∧ b ≤ C 1 0 4 - 1) (hlow : C 6 b.toNat 2 < C 6 t.toNat 2) (hm : 20 ≤ mo ∧ mo ≤ 150) (htr : 1 ≤ tr ∧ tr ≤ 3) (hc : C 1 0 5 < 12) : kSpan C t b mo tr = 0 ∧ GS (n + 1) (addTC (addLineC C t b mo) 0 (C 1 0 5) tr) := by
  have hw := hG.wt (Nat.le_of_lt hn)
  have h4 : 0 ≤ C 1 0 4 ∧ C 1 0 4 ≤ 8 := hw.1 1 0 4
  have h5 : 0 ≤ C 1 0 5 ∧ C 1 0 5 ≤ 12 := hw.1 1 0 5
  have hmin : 0 ≤ C 12 0 5 := (hw.1 12 0 5).1
  have hk : kSpan C t b mo tr = 0 := by
    unfold kSpan
    rw [if_pos ht, if_pos hb, if_pos hlow, if_pos hm, if_pos htr, if_pos hc]
  obtain ⟨M, hR, hI⟩ := hG
  obtain ⟨-, -, t3⟩ := z2_span n C M hR hn t b mo tr ⟨by omega, by omega⟩ ⟨by omega, by omega⟩ ⟨by omega, by omega⟩ ⟨by omega, by omega⟩
  rw [if_pos hk] at t3
  refine ⟨hk, _, t3, ?_⟩
  have hRZ := hR.1.2.2.2
  have hRS := hR.1.2.1
  clear t3
  obtain ⟨l0, hl0⟩ : ∃ l0 : Nat, C 1 0 5 = (l0 : Int) := ⟨(C 1 0 5).toNat, by omega⟩
  have e1 : addTC (addLineC C t b mo) 0 (C 1 0 5) tr 1 = addLine0 C t b mo 1 := by rw [addTC_fr (by decide)]; exact planAll_fr (by decide)
  have e15 : addLine0 C t b mo 1 0 5 = (l0 : Int) + 1 := by simp [addLine0, zup, hl0]
  have e16 : addLine0 C t b mo 1 0 6 = C 1 0 6 := by simp [addLine0, zup]
  have f8 : addTC (addLineC C t b mo) 0 (C 1 0 5) tr 8 = C 8 := by rw [addTC_fr (by decide)]; exact (planAll_fr (by decide)).trans (addLine0_fr (by decide))
  have f12 : addTC (addLineC C t b mo) 0 (C 1 0 5) tr 12 = C 12 := by rw [addTC_fr (by decide)]; exact (planAll_fr (by decide)).trans (addLine0_fr (by decide))
  have f16 : addTC (addLineC C t b mo) 0 (C 1 0 5) tr 16 = C 16 := by rw [addTC_fr (by decide)]; exact (planAll_fr (by decide)).trans (addLine0_fr (by decide))
  have g17 : addLineC C t b mo 17 = C 17 := (planAll_fr (by decide)).trans (addLine0_fr (by decide))
  have f17 : ∀ i k, 4 ≤ k → addTC (addLineC C t b mo) 0 (C 1 0 5) tr 17 i k = C 17 i k := fun i k hk => by
    have : k ≠ 0 := by omega
    simp [addTC, zup, this, g17]
  obtain ⟨n1, n2, n3⟩ := hI
  have hz := hRZ.1 l0 (by rw [← hRS.1.2.1]; omega) (by omega)
  unfold NI
  rw [e1, e15, e16, f8, f12, f16]
  refine ⟨n1, fun l hl => ?_, ?_⟩
  · rw [f17 _ 4 (by decide), f17 _ 5 (by decide)]
    by_cases e : l = l0
    · subst e
      rw [hz.2.2.1, hz.2.2.2.1]
      omega
    · exact n2 l (by omega)
  · rw [show ((l0 : Int) + 1).toNat = l0 + 1 by omega]
    rw [show (C 1 0 5).toNat = l0 by omega] at n3
    simp only [zsum]
    rw [f17 _ 4 (by decide), hz.2.2.1, zsum_congr (f := fun l => addTC (addLineC C t b mo) 0 (C 1 0 5) tr 17 (12 * 0 + l) 4) (g := fun l => C 17 (12 * 0 + l) 4) (fun k _ => f17 _ 4 (by decide)), n3]
    omega
theorem gs_add {n : Nat} {C : zM} {q : Int} (hG : GS n C) (hn : n < 512) (hq : 0 ≤ q ∧ q ≤ C 1 0 5 - 1) (h3 : C 17 (12 * 0 + q.toNat) 0 + C 17 (12 * 0 + q.toNat) 1 < 3) : kAdd C q = 0 ∧ GS (n + 1) (addTC C 0 q 1) := by
  have hw := hG.wt (Nat.le_of_lt hn)
  have h5 : 0 ≤ C 1 0 5 ∧ C 1 0 5 ≤ 12 := hw.1 1 0 5
  have hk : kAdd C q = 0 := by
    unfold kAdd
    rw [if_pos hq, if_pos h3]
  obtain ⟨M, hR, hI⟩ := hG
  obtain ⟨-, -, t3⟩ := z2_add n C M hR hn q ⟨by omega, by omega⟩
  rw [if_pos hk] at t3
  refine ⟨hk, _, t3, hI.eq ?_ ?_ (fun r => ?_) ?_ (fun r _ k => ?_) (fun l _ k h9 => ?_)⟩
  · rw [addTC_fr (by decide)]
  · rw [addTC_fr (by decide)]
  · rw [addTC_fr (by decide)]
  · rw [addTC_fr (by decide)]
  · rw [addTC_fr (by decide)]
  · have : k ≠ 0 := by omega
    simp [addTC, zup, this]
theorem gs_wind {n : Nat} {C : zM} {mi w : Int} (hG : GS n C) (hn : n < 512) (hm : 0 ≤ mi ∧ mi ≤ 11) (hw : 0 ≤ w ∧ w ≤ 9) : kWind mi w = 0 ∧ GS (n + 1) (zup C 5 0 mi.toNat w) := by
  have hk : kWind mi w = 0 := by
    unfold kWind
    rw [if_pos hm, if_pos hw]
  obtain ⟨M, hR, hI⟩ := hG
  obtain ⟨-, -, t3⟩ := z2_wind n C M hR hn mi w ⟨by omega, by omega⟩ ⟨by omega, by omega⟩
  rw [if_pos hk] at t3
  refine ⟨hk, _, t3, hI.eq ?_ ?_ (fun r => ?_) ?_ (fun r _ k => ?_) (fun l _ k h9 => ?_)⟩
  all_goals rw [zup_fr (by decide)]
set_option maxHeartbeats 1000000 in
theorem gs_come {n : Nat} {C : zM} {q g w pa : Int} (hG : GS n C) (hn : n < 512) (hq : 0 ≤ q ∧ q ≤ C 1 0 4 - 1) (hg : 0 ≤ g ∧ g ≤ C 1 0 4 - 1) (hw : 20 ≤ w ∧ w ≤ 120) (hpa : 1 ≤ pa ∧ pa ≤ 60) (hc : C 1 0 6 < 12) : kCome C q g w pa = 0 ∧ GS (n + 1) (reachC (addRiderC C g w pa) 0 (C 1 0 6) q) ∧ reachC (addRiderC C g w pa) 0 (C 1 0 6) q 1 0 4 = C 1 0 4 ∧ reachC (addRiderC C g w pa) 0 (C 1 0 6) q 1 0 5 = C 1 0 5 ∧ reachC (addRiderC C g w pa) 0 (C 1 0 6) q 1 0 6 = C 1 0 6 + 1 := by
  have hwt := hG.wt (Nat.le_of_lt hn)
  have h4 : 0 ≤ C 1 0 4 ∧ C 1 0 4 ≤ 8 := hwt.1 1 0 4
  have h6 : 0 ≤ C 1 0 6 ∧ C 1 0 6 ≤ 12 := hwt.1 1 0 6
  have hmin : 0 ≤ C 12 0 5 := (hwt.1 12 0 5).1
  have hk : kCome C q g w pa = 0 := by
    unfold kCome
    rw [if_pos hq, if_pos hg, if_pos hw, if_pos hpa, if_pos hc]
  obtain ⟨M, hR, hI⟩ := hG
  obtain ⟨-, -, -, t3⟩ := z2_come n C M hR hn q g w pa ⟨by omega, by omega⟩ ⟨by omega, by omega⟩ ⟨by omega, by omega⟩ ⟨by omega, by omega⟩
  rw [if_pos hk] at t3
  have hRZ := hR.1.2.2.2
  have hRS := hR.1.2.1
  have hRT := hR.1.2.2.1
  obtain ⟨r0, hr0⟩ : ∃ r0 : Nat, C 1 0 6 = (r0 : Int) := ⟨(C 1 0 6).toNat, by omega⟩
  have hr0n : (C 1 0 6).toNat = r0 := by omega
  have d1 : addRiderC C g w pa 1 0 4 = C 1 0 4 ∧ addRiderC C g w pa 1 0 5 = C 1 0 5 ∧ addRiderC C g w pa 1 0 6 = C 1 0 6 + 1 := by
    have h1 : ∀ i g' w', planC (addRider0 C g w pa) i g' w' 1 = C 1 := fun i g' w' => (planC_fr (by decide)).trans (by unfold addRider0; rw [zup_fr (by decide), zup_fr (by decide), zup_fr (by decide)])
    unfold addRiderC
    simp [zup, h1]
  have d8 : ∀ r, r ≠ r0 → addRiderC C g w pa 8 r 3 = C 8 r 3 := fun r e => by
    unfold addRiderC
    rw [zup_fr (by decide), planC_fr (by decide)]
    simp [addRider0, zup, hr0n, e]
  have d8r : addRiderC C g w pa 8 r0 3 = pa := by
    unfold addRiderC
    rw [zup_fr (by decide), planC_fr (by decide)]
    simp [addRider0, zup, hr0n]
  have df : ∀ f, 12 ≤ f → addRiderC C g w pa f = C f := fun f hf => by
    unfold addRiderC
    rw [zup_fr (by omega), planC_fr (by omega)]
    unfold addRider0
    rw [zup_fr (by omega), zup_fr (by omega), zup_fr (by omega)]
  have hwc : C 12 0 4 < 12 := by
    obtain ⟨W, SL, hG9, -⟩ := hRT
    have hW := hG9.2.2.2.1
    have := nodup_len r0 W hW.2.2.1 (fun x hx => by have := ((hW.2.2.2.1 x).mp hx).1; rw [← hRS.1.2.2] at this; omega)
    rw [hW.1]
    omega
  have hz := hRZ.2 r0 (by rw [← hRS.1.2.2]; omega) (by omega)
  refine ⟨hk, ?_, ?_⟩
  · refine ⟨_, t3, ?_⟩
    clear t3
    rw [hr0]
    rw [hr0] at d1
    generalize addRiderC C g w pa = D at d1 d8 d8r df ⊢
    have e1 : reachC D 0 (r0 : Int) q 1 = D 1 := reachC_fr (by decide)
    have e8 : reachC D 0 (r0 : Int) q 8 = D 8 := reachC_fr (by decide)
    have e12 : reachC D 0 (r0 : Int) q 12 0 5 = C 12 0 5 := by rw [reachC_min, df 12 (by decide)]
    have e17 : reachC D 0 (r0 : Int) q 17 = C 17 := by rw [reachC_fr (by decide), df 17 (by decide)]
    have e16 : ∀ z, z ≠ r0 → ∀ k, reachC D 0 (r0 : Int) q 16 (12 * 0 + z) k = C 16 (12 * 0 + z) k := fun z e k => by
      rw [reachC_16o (by rw [Int.toNat_natCast]; omega), df 16 (by decide)]
    have e16r : (reachC D 0 (r0 : Int) q 16 (12 * 0 + r0) 0 = 2 ∧ reachC D 0 (r0 : Int) q 16 (12 * 0 + r0) 5 = C 12 0 5 ∨ reachC D 0 (r0 : Int) q 16 (12 * 0 + r0) 0 = 0 ∧ reachC D 0 (r0 : Int) q 16 (12 * 0 + r0) 3 = 0 ∧ reachC D 0 (r0 : Int) q 16 (12 * 0 + r0) 5 = -1) ∧ reachC D 0 (r0 : Int) q 16 (12 * 0 + r0) 4 = 0 := by
      unfold reachC
      rw [Int.toNat_natCast]
      split
      · obtain ⟨a0, a1, a2, a3, a4, a5⟩ := arriveC_at D (12 * 0 + r0) q (D 12 0 5)
        rw [a0, a4, a5, df 16 (by decide), df 12 (by decide), hz.1]
        exact ⟨Or.inl ⟨rfl, rfl⟩, rfl⟩
      · rw [if_pos (by rw [df 12 (by decide)]; exact hwc)]
        obtain ⟨a0, a1, a2, a3, a4, a5⟩ := waitC_at D (12 * 0 + r0) q
        rw [zup_fr (show 16 ≠ 12 by decide), zup_fr (show 16 ≠ 15 by decide), a0, a3, a4, a5, df 16 (by decide), hz.1, hz.2.1]
        exact ⟨Or.inr ⟨rfl, rfl, rfl⟩, rfl⟩
    obtain ⟨n1, n2, n3⟩ := hI
    generalize reachC D 0 (r0 : Int) q = E at e1 e8 e12 e17 e16 e16r ⊢
    unfold NI
    rw [e1, e8, e12, e17, d1.2.1, d1.2.2]
    refine ⟨fun z hz9 => ?_, n2, ?_⟩
    · by_cases e : z = r0
      · subst e
        obtain ⟨f1, f4⟩ := e16r
        rw [f4, d8r]
        rcases f1 with ⟨f0, f5⟩ | ⟨f0, f3, f5⟩
        · rw [f0, f5]
          exact ⟨fun _ => ⟨hmin, Int.le_refl _⟩, fun q9 => absurd rfl q9, fun q9 => absurd q9 (by decide), Int.le_refl _⟩
        · rw [f0, f3, f5]
          exact ⟨fun q9 => absurd q9 (by decide), fun _ => rfl, fun _ => by omega, Int.le_refl _⟩
      · rw [e16 z e 0, e16 z e 3, e16 z e 4, e16 z e 5, d8 z e]
        exact n1 z (by omega)
    · rw [show ((r0 : Int) + 1).toNat = r0 + 1 by omega]
      rw [hr0n] at n3
      simp only [zsum]
      rw [e16r.2, zsum_congr (f := fun r => E 16 (12 * 0 + r) 4) (g := fun r => C 16 (12 * 0 + r) 4) (fun k hk9 => e16 k (by omega) 4), n3]
      omega
  · rw [reachC_fr (f := 1) (by decide)]
    exact d1
theorem gs_pass {n : Nat} {C : zM} {a : Int} (hG : GS n C) (hn : n < 512) (ha : 1 ≤ a ∧ a ≤ 100) : kPass a = 0 ∧ GS (n + 1) (passN C 0 a.toNat) ∧ MO C (passN C 0 a.toNat) ∧ passN C 0 a.toNat 1 = C 1 := by
  have hk : kPass a = 0 := by
    unfold kPass
    rw [if_pos ha]
  obtain ⟨M, hR, hI⟩ := hG
  obtain ⟨-, -, -, t3⟩ := z2_pass n C M hR hn a ⟨by omega, by omega⟩
  rw [if_pos hk] at t3
  obtain ⟨hwC, hwM⟩ := hR.1.1 (by omega)
  obtain ⟨k1, k2⟩ := passN_NI hR.1.2.2.1 hR.1.2.1 hwM hI a.toNat (by omega) (by omega)
  exact ⟨hk, ⟨_, t3, k1⟩, k2, passN_fr (by decide)⟩
/-! asking changes nothing that the checksum sees -/
theorem NI.lo {C C' : zM} {T U : Int} (h : NI C) (hw : WTC T U C) (hC : ∀ f i, Lo 1 f i → C' f i = C f i) : NI C' := by
  have h5 : 0 ≤ C 1 0 5 ∧ C 1 0 5 ≤ 12 := hw.1 1 0 5
  have h6 : 0 ≤ C 1 0 6 ∧ C 1 0 6 ≤ 12 := hw.1 1 0 6
  refine h.eq ?_ ?_ (fun r => ?_) ?_ (fun r hr k => ?_) (fun l hl k _ => ?_)
  all_goals rw [hC]
  all_goals unfold Lo
  all_goals omega
theorem dg5_lo {n : Nat} {C C' M : zM} (h : zRel n C M) (hn : n < 512) (hC : ∀ f i, Lo 1 f i → C' f i = C f i) : dg5 C' = dg5 C := by
  obtain ⟨hS, hT, hZ, hw, -⟩ := h.Z hn
  have hS' : RS C' (zup M 0 0 0 0) := hS.eq (fun f hf => by funext i; exact hC f i (by unfold Lo; omega)) (fun f _ => rfl)
  have hT' : RT C' (zup M 0 0 0 0) 0 0 := hT.lo hw.sb hC (fun f i _ => rfl)
  rw [digest_eq hS' hT' hZ.o13 hw, digest_eq hS hT hZ.o13 hw]
theorem dg5_plan {n : Nat} {C M : zM} (h : zRel n C M) (hn : n < 512) (g w : Int) : dg5 (planC C 12 g w) = dg5 C := by
  obtain ⟨hS, hT, hZ, hw, -⟩ := h.Z hn
  have h10 := hw.sb.1.1
  have hS' : RS (planC C 12 g w) (zup M 0 0 0 0) := hS.tables (fun f _ h1 h2 => planC_fr (by omega)) (fun r q hr hq => by rw [planC_off (by omega), planC_off (by omega)]; exact hS.2.2.2.2.2.2.2.1 r q hr hq)
  have hT' : RT (planC C 12 g w) (zup M 0 0 0 0) 0 0 := hT.ceq (fun f hf => planC_fr (by omega))
  rw [digest_eq hS' hT' hZ.o13 hw, digest_eq hS hT hZ.o13 hw]
theorem gs_way {n : Nat} {C : zM} {a b w : Int} (hG : GS n C) (hn : n < 512) (ha : 0 ≤ a ∧ a ≤ C 1 0 4 - 1) (hb : 0 ≤ b ∧ b ≤ C 1 0 4 - 1) (hw : 20 ≤ w ∧ w ≤ 120) : kWay C a b w = 0 ∧ GS (n + 1) (planC C 12 b w) ∧ dg5 (planC C 12 b w) = dg5 C ∧ planC C 12 b w 1 = C 1 := by
  have hwt := hG.wt (Nat.le_of_lt hn)
  have h4 : 0 ≤ C 1 0 4 ∧ C 1 0 4 ≤ 8 := hwt.1 1 0 4
  have hk : kWay C a b w = 0 := by
    unfold kWay
    rw [if_pos ha, if_pos hb, if_pos hw]
  obtain ⟨M, hR, hI⟩ := hG
  obtain ⟨-, -, t3⟩ := z2_way n C M hR hn a b w ⟨by omega, by omega⟩ ⟨by omega, by omega⟩ ⟨by omega, by omega⟩
  rw [if_pos hk] at t3
  refine ⟨hk, ⟨_, t3, hI.eq ?_ ?_ (fun r => ?_) ?_ (fun r _ k => ?_) (fun l _ k _ => ?_)⟩, dg5_plan hR.1 hn b w, planC_fr (by decide)⟩
  all_goals rw [planC_fr (by decide)]
theorem gs_arrives {n : Nat} {C : zM} {a : Int} (hG : GS n C) (hn : n < 512) (ha : 0 ≤ a ∧ a ≤ C 1 0 6 - 1) : kArr C a = 0 ∧ GS (n + 1) (arrN C a.toNat 200) ∧ dg5 (arrN C a.toNat 200) = dg5 C ∧ arrN C a.toNat 200 1 = C 1 := by
  have hwt := hG.wt (Nat.le_of_lt hn)
  have h6 : 0 ≤ C 1 0 6 ∧ C 1 0 6 ≤ 12 := hwt.1 1 0 6
  have hk : kArr C a = 0 := by
    unfold kArr
    rw [if_pos ha]
  obtain ⟨M, hR, hI⟩ := hG
  obtain ⟨-, -, -, t3⟩ := z2_arrives n C M hR hn a ⟨by omega, by omega⟩
  rw [if_pos hk] at t3
  exact ⟨hk, ⟨_, t3, hI.lo hwt (fun f i h => arrN_lo h)⟩, dg5_lo hR.1 hn (fun f i h => arrN_lo h), arrN_fr (by decide)⟩
theorem gs_advise {n : Nat} {C : zM} {a : Int} (hG : GS n C) (hn : n < 512) (ha : 1 ≤ a ∧ a ≤ 30) : kAdv a = 0 ∧ GS (n + 1) (advN C a (C 1 0 5).toNat).1 ∧ dg5 (advN C a (C 1 0 5).toNat).1 = dg5 C ∧ (advN C a (C 1 0 5).toNat).1 1 = C 1 := by
  have hwt := hG.wt (Nat.le_of_lt hn)
  have h5 : 0 ≤ C 1 0 5 ∧ C 1 0 5 ≤ 12 := hwt.1 1 0 5
  have hk : kAdv a = 0 := by
    unfold kAdv
    rw [if_pos ha]
  obtain ⟨M, hR, hI⟩ := hG
  obtain ⟨-, -, -, t3⟩ := z2_advise n C M hR hn a ⟨by omega, by omega⟩
  rw [if_pos hk] at t3
  obtain ⟨hS, hT, hZ, hw, -⟩ := hR.1.Z hn
  have hA := adv_rel hT hS hw (by omega) (by omega) ha (C 1 0 5).toNat (by rw [← hS.1.2.1]; omega)
  have hlo : ∀ f i, Lo 1 f i → (advN C a (C 1 0 5).toNat).1 f i = C f i := hA.1
  exact ⟨hk, ⟨_, t3, hI.lo hwt hlo⟩, dg5_lo hR.1 hn hlo, hA.2.2.1 1 (by decide)⟩
