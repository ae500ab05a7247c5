/-- one trolley more, in both -/
theorem RT.add {C M : zM} {t u i : Nat} (hT : RT C M t u) : RT (addTC C t (i : Int) 1) (zup M 12 u i (M 12 u i + 1)) t u := by
  obtain ⟨W, SL, ⟨q1, q2, q3, q4, q5⟩, hR⟩ := hT
  unfold addTC
  rw [Int.toNat_natCast]
  refine ⟨W, SL, ⟨?_, fun l hl => ?_, fun r hr => ?_, ?_, ?_⟩, fun l hl => ?_⟩
  · rw [zup_fr (by decide), zup_fr (by decide)]; exact q1
  · have h9 := q2 l (by simpa [zup] using hl)
    unfold RC at h9 ⊢
    by_cases e : l = i
    · subst e
      simp [zup]
      exact ⟨by omega, h9.2⟩
    · simp [zup, e]
      exact h9
  · exact (q3 r (by simpa [zup] using hr)).eq (fun k => by rw [zup_fr (by decide)]) (by rw [zup_fr (by decide)]) (by rw [zup_fr (by decide)]) (by rw [zup_fr (by decide)]) (by rw [zup_fr (by decide)]) (by rw [zup_fr (by decide)]) (by rw [zup_fr (by decide)]) (by rw [zup_fr (by decide)])
  · exact q4.eq (by rw [zup_fr (by decide)]) (zup_fr (by decide)) (by rw [zup_fr (by decide)]) (fun z _ => by rw [zup_fr (by decide)]) (fun z _ => by rw [zup_fr (by decide)]) (zup_fr (by decide)) (zup_fr (by decide))
  · exact q5.same (zup_fr (by decide)) (fun z _ => by rw [zup_fr (by decide)]) (fun z _ _ => ⟨by rw [zup_fr (by decide)], by rw [zup_fr (by decide)]⟩)
  · have h9 := hR l (by simpa [zup] using hl)
    unfold repC repM at h9 ⊢
    rw [zup_fr (show 18 ≠ 17 by decide), zup_fr (show 19 ≠ 17 by decide), zup_fr (show 13 ≠ 12 by decide), zup_fr (show 14 ≠ 12 by decide), zup_fr (show 15 ≠ 12 by decide)]
    refine ⟨⟨?_, h9.1.2⟩, h9.2⟩
    have e : zup C 17 (12 * t + i) 0 (C 17 (12 * t + i) 0 + 1) 17 (12 * t + l) 1 = C 17 (12 * t + l) 1 := by simp [zup]
    rw [e]; exact h9.1.1
/-- the trial with one trolley more -/
theorem more_both {C M : zM} {i : Nat} {n : Int} {T U : Int} (hT : RT C M 0 0) (hS : RS C M) (hw : WTM T U M) (hi : (i : Int) < M 0 0 5) (h3 : M 12 0 i ≠ 3) (hn : 1 ≤ n ∧ n ≤ 30) (h1 : T + 30 ≤ 1000000) (h2 : U + 1440 ≤ 100000000) :
    RT (oneMore C (i : Int) n) (passMN (moreM M i) 1 n.toNat) 1 1 ∧ (∀ j : Nat, (j : Int) < n → passOK (passMN (moreM M i) 1 j) 1) ∧ oneMoreR C (i : Int) n = manyM (passMN (moreM M i) 1 n.toNat) 1 2 - manyM M 0 2 ∧
    (∀ f k, Lo 1 f k → oneMore C (i : Int) n f k = C f k) ∧ (∀ f k, k ≠ 1 → passMN (moreM M i) 1 n.toNat f k = M f k) ∧ (∀ f, f < 11 → passMN (moreM M i) 1 n.toNat f = M f) ∧ WTM (T + 30) (U + 1440) (passMN (moreM M i) 1 n.toNat) := by
  have hB := hw.sb
  have hi12 : i < 12 := by have := hB.1.2.2; omega
  have hR0 : RT (addTC (copyC C 1 0) 1 (i : Int) 1) (moreM M i) 1 1 := (hT.copy hS hB (fun l => (hw.1 13 0 l).2)).add
  have hS0 : RS (addTC (copyC C 1 0) 1 (i : Int) 1) (moreM M i) := hS.eq (fun f hf => by rw [addTC_fr (by omega), copyC_fr (by omega)]) (fun f hf => by rw [moreM, zup_fr (by omega), becomeM_fr (by omega)])
  have hw0 := moreM_wt hw hi12 h3
  obtain ⟨p1, p2, p3⟩ := pass_iter hR0 hS0 hw0 n.toNat (by omega) (by omega)
  have hcnt : manyM (moreM M i) 1 2 = manyM M 0 2 := by
    unfold manyM
    have e0 : moreM M i 0 = M 0 := by rw [moreM, zup_fr (by decide), becomeM_fr (by omega)]
    rw [e0]
    refine zcnt_congr (fun k hk => ?_)
    have := hB.1.1
    rw [moreM, zup_fr (by decide), ((becomeM_is M).2.1 k (by omega)).2.2.2.2.1]
  refine ⟨p1, fun j hj => p2 j (by omega), ?_, fun f k hf => ?_, fun f k hk => ?_, fun f hf => ?_, ?_⟩
  · unfold oneMoreR
    have hc0 : C 1 0 6 = M 0 0 10 := hS.1.2.2
    have e1 : oneMore C (i : Int) n 1 0 6 = passMN (moreM M i) 1 n.toNat 0 0 10 := by
      rw [oneMore_fr (by decide), passMN_fr (by decide), moreM, zup_fr (by decide), becomeM_fr (by omega)]
      exact hc0
    have p1' : RT (oneMore C (i : Int) n) (passMN (moreM M i) 1 n.toNat) 1 1 := p1
    rw [riders_eq p1' e1, riders_eq hR0 hS0.1.2.2, hcnt]
  · unfold oneMore
    rw [passN_lo hf]
    unfold Lo at hf
    unfold addTC
    rw [zup_off (by omega), copyC_lo (by unfold Lo; omega)]
  · rw [passMN_off hk, moreM, zup_off (by omega), becomeM_off hk]
  · rw [passMN_fr (by omega), moreM, zup_fr (by omega), becomeM_fr (by omega)]
  · exact (passMN_wt hw0 n.toNat (by omega) (by omega) p2).mono (by omega) (by omega) (by omega) (by omega)
theorem adv_rel {C Z : zM} {T U : Int} (hT : RT C Z 0 0) (hS : RS C Z) (hw : WTM T U Z) (h1 : T + 400 ≤ 1000000) (h2 : U + 20000 ≤ 100000000) {n : Int} (hn : 1 ≤ n ∧ n ≤ 30) (j : Nat) (hj : (j : Int) ≤ Z 0 0 5) :
    (∀ f k, Lo 1 f k → (advN C n j).1 f k = C f k) ∧ (∀ f k, k ≠ 1 → (advMN (becomeM Z 1 0) n j).1 f k = Z f k) ∧ (∀ f, f < 12 → (advN C n j).1 f = C f) ∧ (∀ f, f < 11 → (advMN (becomeM Z 1 0) n j).1 f = Z f) ∧
    WTM (T + 30 * (j + 1)) (U + 1440 * (j + 1)) (advMN (becomeM Z 1 0) n j).1 ∧ (advMN (becomeM Z 1 0) n j).2.1 = (advN C n j).2.1 + manyM Z 0 2 ∧ (advMN (becomeM Z 1 0) n j).2.2 = (advN C n j).2.2 ∧
    (∀ k : Nat, (k : Int) < n → passOK (passMN (becomeM Z 1 0) 1 k) 1) ∧ (∀ i, i < j → (advMN (becomeM Z 1 0) n i).1 12 0 i ≠ 3 → ∀ k : Nat, (k : Int) < n → passOK (passMN (moreM (advMN (becomeM Z 1 0) n i).1 i) 1 k) 1) := by
  have hB := hw.sb
  induction j with
  | zero =>
    have hR0 : RT (copyC C 1 0) (becomeM Z 1 0) 1 1 := hT.copy hS hB (fun l => (hw.1 13 0 l).2)
    have hS0 : RS (copyC C 1 0) (becomeM Z 1 0) := hS.eq (fun f hf => copyC_fr (by omega)) (fun f hf => becomeM_fr (by omega))
    have hw0 := becomeM_wt hw 1 0
    obtain ⟨p1, p2, p3⟩ := pass_iter hR0 hS0 hw0 n.toNat (by omega) (by omega)
    have hcnt : manyM (becomeM Z 1 0) 1 2 = manyM Z 0 2 := by
      unfold manyM
      rw [becomeM_fr (f := 0) (by omega)]
      refine zcnt_congr (fun k hk => ?_)
      have := hB.1.1
      rw [((becomeM_is Z).2.1 k (by omega)).2.2.2.2.1]
    have eA : advN C n 0 = adv0 C n := rfl
    have eB : advMN (becomeM Z 1 0) n 0 = advM0 (becomeM Z 1 0) n := rfl
    rw [eA, eB]
    unfold adv0 advM0
    refine ⟨fun f k hf => ?_, fun f k hk => ?_, fun f hf => ?_, fun f hf => ?_, ?_, ?_, rfl, fun k hk => p2 k (by omega), fun i hi => absurd hi (Nat.not_lt_zero i)⟩
    · show passN (copyC C 1 0) 1 n.toNat f k = C f k
      rw [passN_lo hf, copyC_lo hf]
    · show passMN (becomeM Z 1 0) 1 n.toNat f k = Z f k
      rw [passMN_off hk, becomeM_off hk]
    · show passN (copyC C 1 0) 1 n.toNat f = C f
      rw [passN_fr (by omega), copyC_fr (by omega)]
    · show passMN (becomeM Z 1 0) 1 n.toNat f = Z f
      rw [passMN_fr (by omega), becomeM_fr (by omega)]
    · show WTM _ _ (passMN (becomeM Z 1 0) 1 n.toNat)
      exact (passMN_wt hw0 n.toNat (by omega) (by omega) p2).mono (by omega) (by omega) (by omega) (by omega)
    · show manyM (passMN (becomeM Z 1 0) 1 n.toNat) 1 2 = ridersC (passN (copyC C 1 0) 1 n.toNat) 1 2 - ridersC (copyC C 1 0) 1 2 + manyM Z 0 2
      rw [riders_eq p1 (by rw [passN_fr (by decide), passMN_fr (by decide)]; exact hS0.1.2.2), riders_eq hR0 hS0.1.2.2, hcnt]
      omega
  | succ j ih =>
    obtain ⟨i1, i2, i3, i4, i5, i6, i7, i8, i9⟩ := ih (by omega)
    have hTj : RT (advN C n j).1 (advMN (becomeM Z 1 0) n j).1 0 0 := hT.lo hB i1 i2
    have hSj : RS (advN C n j).1 (advMN (becomeM Z 1 0) n j).1 := hS.eq i3 i4
    have hj5 : (j : Int) < (advMN (becomeM Z 1 0) n j).1 0 0 5 := by rw [i4 0 (by decide)]; omega
    have hl12 := hB.1.2.2
    have hcnt : manyM (advMN (becomeM Z 1 0) n j).1 0 2 = manyM Z 0 2 := by
      unfold manyM
      rw [i2 20 0 (by decide), i4 0 (by decide)]
    have h12 : (advN C n j).1 17 (12 * 0 + j) 0 + (advN C n j).1 17 (12 * 0 + j) 1 = (advMN (becomeM Z 1 0) n j).1 12 0 j := by
      obtain ⟨W, SL, hG, hR⟩ := hTj
      exact (hG.2.1 j hj5).1
    have h123 : (advMN (becomeM Z 1 0) n j).1 12 0 j ≤ 3 := (i5.1 12 0 j).2
    have eA : advN C n (j + 1) = advS n j (advN C n j) := rfl
    have eB : advMN (becomeM Z 1 0) n (j + 1) = advMS n j (advMN (becomeM Z 1 0) n j) := rfl
    rw [eA, eB]
    unfold advS advMS
    rw [h12]
    by_cases h3 : (advMN (becomeM Z 1 0) n j).1 12 0 j = 3
    · rw [if_neg (by omega), if_pos h3]
      refine ⟨i1, i2, i3, i4, i5.mono (by omega) (by omega) (by omega) (by omega), i6, i7, i8, fun i hi hi3 => ?_⟩
      by_cases e : i = j
      · subst e; exact absurd h3 hi3
      · exact i9 i (by omega) hi3
    · obtain ⟨m1, m2, m3, m4, m5, m6, m7⟩ := more_both hTj hSj i5 hj5 h3 hn (by omega) (by omega)
      rw [hcnt] at m3
      have hok : ∀ i, i < j + 1 → (advMN (becomeM Z 1 0) n i).1 12 0 i ≠ 3 → ∀ k : Nat, (k : Int) < n → passOK (passMN (moreM (advMN (becomeM Z 1 0) n i).1 i) 1 k) 1 := fun i hi hi3 => by
        by_cases e : i = j
        · subst e; exact m2
        · exact i9 i (by omega) hi3
      have hwt : WTM (T + 30 * (((j + 1 : Nat) : Int) + 1)) (U + 1440 * (((j + 1 : Nat) : Int) + 1)) (passMN (moreM (advMN (becomeM Z 1 0) n j).1 j) 1 n.toNat) := m7.mono (by omega) (by omega) (by omega) (by omega)
      rw [if_pos (by omega), if_neg h3]
      have z1 : ∀ f k, Lo 1 f k → oneMore (advN C n j).1 (j : Int) n f k = C f k := fun f k hf => (m4 f k hf).trans (i1 f k hf)
      have z2 : ∀ f k, k ≠ 1 → passMN (moreM (advMN (becomeM Z 1 0) n j).1 j) 1 n.toNat f k = Z f k := fun f k hk => (m5 f k hk).trans (i2 f k hk)
      have z3 : ∀ f, f < 12 → oneMore (advN C n j).1 (j : Int) n f = C f := fun f hf => (oneMore_fr (by omega)).trans (i3 f hf)
      have z4 : ∀ f, f < 11 → passMN (moreM (advMN (becomeM Z 1 0) n j).1 j) 1 n.toNat f = Z f := fun f hf => (m6 f hf).trans (i4 f hf)
      by_cases hlt : manyM (passMN (moreM (advMN (becomeM Z 1 0) n j).1 j) 1 n.toNat) 1 2 ≤ (advMN (becomeM Z 1 0) n j).2.1
      · rw [if_neg (by omega), if_pos hlt]
        exact ⟨z1, z2, z3, z4, hwt, i6, i7, i8, hok⟩
      · rw [if_pos (by omega), if_neg hlt]
        exact ⟨z1, z2, z3, z4, hwt, (by show manyM _ 1 2 = oneMoreR _ _ _ + manyM Z 0 2; omega), rfl, i8, hok⟩
theorem zst_advise : zSt_advise zRel := by
  intro n C M h hn a1 _
  obtain ⟨hS, hT, hZ, hwM, hwC⟩ := h.Z hn
  obtain ⟨k1, k2, k3⟩ := kAdv_eq a1
  have e5 : zup M 0 0 0 0 0 0 5 = M 0 0 5 := by simp [zup]
  have h05 : 0 ≤ M 0 0 5 := ((h.1 (by omega)).2.1 0 0 5).1
  have hc5 : (C 1 0 5).toNat = (M 0 0 5).toNat := by rw [h.2.1.1.2.1]
  have hk9 : kAdvM a1 = 0 → 1 ≤ a1 ∧ a1 ≤ 30 := fun hk => by
    unfold kAdvM at hk
    split at hk
    · assumption
    · exact absurd hk (by decide)
  have hA : ∀ q : 1 ≤ a1 ∧ a1 ≤ 30, _ := fun q => adv_rel hT hS hwM (by omega) (by omega) q (M 0 0 5).toNat (by rw [e5]; omega)
  have e0 : advFM M a1 0 0 0 = kAdvM a1 := by
    unfold advFM
    split
    · rename_i q
      have := (hA (hk9 q)).2.2.2.1 0 (by decide)
      unfold aheadM
      rw [this, z000, q]
    · exact thM_0 _ _
  refine ⟨fun b1 b2 => ⟨(hA ⟨b1, b2⟩).2.2.2.2.2.2.2.1, fun i hi => ?_⟩, by rw [k1, e0], fun hk => ?_, ?_⟩
  · rw [aheadM_5] at hi
    exact (hA ⟨b1, b2⟩).2.2.2.2.2.2.2.2 i (by omega)
  · rw [k1] at hk
    refine ⟨k2.mp hk, ?_⟩
    unfold advFR
    rw [if_pos hk, hc5]
    exact (hA (hk9 hk)).2.2.2.2.2.2.1.symm
  · unfold advFM
    by_cases hk : kAdvM a1 = 0
    · rw [if_pos (k2.mp hk), if_pos hk, hc5]
      obtain ⟨i1, i2, i3, i4, i5, i6, i7, i8, i9⟩ := hA (hk9 hk)
      have hl12 := hwM.sb.1.2.2
      rw [e5] at hl12
      have hCw := (adv_inv hwC (hk9 hk) (by omega) (by omega) (M 0 0 5).toNat (by omega)).1
      refine ⟨fun _ => ⟨?_, ?_⟩, hS.eq i3 i4, hT.lo hwM.sb i1 i2, hZ.lo i1 i2⟩
      · exact hCw.mono (by omega) (by omega) (by omega) (by omega)
      · exact i5.mono (by omega) (by omega) (by omega) (by omega)
    · rw [if_neg (fun z => hk (k2.mpr z)), if_neg hk]
      exact (h.th k3).next
