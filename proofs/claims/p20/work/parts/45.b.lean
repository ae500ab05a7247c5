/-! minutes, and how many -/
theorem pass_iter {C M : zM} {t u : Nat} {T U : Int} (hT : RT C M t u) (hS : RS C M) (hM : WTM T U M) (n : Nat) (h1 : T + n ≤ 1000000) (h2 : U + 48 * n ≤ 100000000) :
    RT (passN C t n) (passMN M u n) t u ∧ (∀ j, j < n → passOK (passMN M u j) u) ∧ FZ C (passN C t n) M (passMN M u n) t u (M 0 0 10) (M 0 0 5) := by
  induction n with
  | zero => exact ⟨hT, fun j hj => absurd hj (Nat.not_lt_zero j), FZ.refl _ _ _ _ _ _⟩
  | succ n ih =>
    obtain ⟨i1, i2, i3⟩ := ih (by omega) (by omega)
    have e0 : passMN M u n 0 = M 0 := passMN_fr (by decide)
    obtain ⟨k1, k2, k3⟩ := pass_both i1 (hS.eq (fun f hf => passN_fr (by omega)) (fun f hf => passMN_fr (by omega))) (passMN_wt hM n (by omega) (by omega) i2)
    rw [e0] at k3
    refine ⟨k1, fun j hj => ?_, i3.trans k3⟩
    by_cases e : j = n
    · subst e; exact k2
    · exact i2 j (by omega)
theorem riders_eq {C M : zM} {t u : Nat} (hT : RT C M t u) (hc : C 1 0 6 = M 0 0 10) (st : Int) : ridersC C t st = manyM M u st := by
  obtain ⟨W, SL, ⟨q1, q2, q3, q4, q5⟩, hR⟩ := hT
  unfold ridersC manyM
  rw [hc]
  exact zcnt_congr (fun k hk => by rw [(q3 k (by omega)).1])
theorem RZ.pass {C C' M M' : zM} (h : RZ C M) (hF : FZ C C' M M' 0 0 (M 0 0 10) (M 0 0 5)) (m0 : M' 0 = M 0) (m12 : M' 12 = M 12) : RZ C' M' := by
  refine ⟨fun l hl hl2 => ?_, fun r hr hr2 => ?_⟩
  · rw [m0] at hl
    obtain ⟨a1, a2, a3, a4, a5, a6, a7, a8⟩ := h.1 l hl hl2
    obtain ⟨b1, b2, b3, b4⟩ := hF.2 l hl
    exact ⟨(b1 0).trans a1, (b1 1).trans a2, (b1 4).trans a3, (b1 5).trans a4, by rw [m12]; exact a5, b2.trans a6, b3.trans a7, b4.trans a8⟩
  · rw [m0] at hr
    obtain ⟨a1, a2, a3⟩ := h.2 r hr hr2
    obtain ⟨b1, b2⟩ := hF.1 r hr
    exact ⟨(b1 4).trans a1, (b1 5).trans a2, b2.trans a3⟩
theorem zst_pass : zSt_pass zRel := by
  intro n C M h hn a1 ha1
  have hz := h.z (v := 0) (by omega)
  obtain ⟨hw, hS, hT, hZ⟩ := hz
  obtain ⟨hwC, hwM⟩ := hw (by omega)
  obtain ⟨k1, k2, k3⟩ := kPass_eq a1
  have e0 : passFM M a1 0 0 0 = kPassM a1 := by
    unfold passFM
    split
    · rename_i q
      rw [passMN_fr (by decide), z000, q]
    · exact thM_0 _ _
  refine ⟨fun j hj ha => (pass_iter hT hS hwM 100 (by omega) (by omega)).2.1 j (by omega), by rw [k1, e0], fun hk => ?_, ?_⟩
  · have hk0 : kPassM a1 = 0 := by rw [← k1]; exact hk
    have h9 : 1 ≤ a1 ∧ a1 ≤ 100 := by
      unfold kPassM at hk0
      split at hk0
      · assumption
      · exact absurd hk0 (by decide)
    refine ⟨k2.mp hk0, ?_⟩
    obtain ⟨p1, p2, p3⟩ := pass_iter hT hS hwM a1.toNat (by omega) (by omega)
    unfold passFR
    rw [if_pos hk0, riders_eq p1 (by rw [passN_fr (by decide), passMN_fr (by decide)]; exact hS.1.2.2), riders_eq hT hS.1.2.2]
  · unfold passFM
    by_cases hk0 : kPassM a1 = 0
    · have h9 : 1 ≤ a1 ∧ a1 ≤ 100 := by
        unfold kPassM at hk0
        split at hk0
        · assumption
        · exact absurd hk0 (by decide)
      rw [if_pos (k2.mp hk0), if_pos hk0]
      obtain ⟨p1, p2, p3⟩ := pass_iter hT hS hwM a1.toNat (by omega) (by omega)
      refine ⟨fun _ => ⟨?_, ?_⟩, hS.eq (fun f hf => passN_fr (by omega)) (fun f hf => passMN_fr (by omega)), p1, hZ.pass p3 (passMN_fr (by decide)) (passMN_fr (by decide))⟩
      · exact (passN_wt hwC a1.toNat (by omega) (by omega)).mono (by omega) (by omega) (by omega) (by omega)
      · exact (passMN_wt hwM a1.toNat (by omega) (by omega) p2).mono (by omega) (by omega) (by omega) (by omega)
    · rw [if_neg (fun z => hk0 (k2.mpr z)), if_neg hk0]
      exact (h.th k3).next
theorem zst_setWind : zSt_setWind zRel := by
  intro n C M h hn a1 a2 ha1 ha2
  obtain ⟨k1, k2, k3⟩ := kWind_eq a1 a2
  have e0 : windM M a1 a2 0 0 0 = kWindM a1 a2 := by
    unfold windM
    split
    · rename_i q
      rw [zup_fr (by decide), z000, q]
    · exact thM_0 _ _
  refine ⟨by rw [k1, e0], fun hk => ?_, ?_⟩
  · have hk0 : kWindM a1 a2 = 0 := by rw [← k1]; exact hk
    refine ⟨k2.mp hk0, ?_⟩
    unfold windR
    rw [if_pos hk0]
    exact h.2.1.2.2.2.2.2.2.1 _
  · unfold windM
    by_cases hk0 : kWindM a1 a2 = 0
    · have h9 : (0 ≤ a1 ∧ a1 ≤ 11) ∧ (0 ≤ a2 ∧ a2 ≤ 9) := by
        unfold kWindM at hk0
        split at hk0
        · rename_i q
          split at hk0
          · rename_i q2; exact ⟨q, q2⟩
          · exact absurd hk0 (by decide)
        · exact absurd hk0 (by decide)
      rw [if_pos (k2.mp hk0), if_pos hk0]
      obtain ⟨hw, hS, hT, hZ⟩ := (h.z (v := 0) (by omega)).next
      generalize zup M 0 0 0 0 = Z at hw hS hT hZ ⊢
      refine ⟨fun hn => ⟨(hw hn).1.up (by decide) (show _ ∧ _ from h9.2), (hw hn).2.up (by decide) (show _ ∧ _ from h9.2)⟩, ?_, ?_, ?_⟩
      · have g3 : ∀ a to w : Int, fewM (zup Z 7 0 a1.toNat a2) a to w = fewM Z a to w := fun a to w => fewN_eq (by rw [zup_fr (by decide)]) (fun f h4 h7 => zup_fr (by omega)) _ _ _ _
        have g4 : ∀ a to w : Int, firstM (zup Z 7 0 a1.toNat a2) a to w = firstM Z a to w := fun a to w => firstM_eq (by rw [zup_fr (by decide)]) (fun f h4 h7 => zup_fr (by omega)) _ _ _
        have g1 : ∀ q : Int, lenM (zup Z 7 0 a1.toNat a2) q = lenM Z q := fun q => by unfold lenM; rw [zup_fr (show 1 ≠ 7 by decide), zup_fr (show 2 ≠ 7 by decide), zup_fr (show 4 ≠ 7 by decide), zup_fr (show 5 ≠ 7 by decide)]
        have g2 : ∀ q : Int, dropM (zup Z 7 0 a1.toNat a2) q = dropM Z q := fun q => by unfold dropM; rw [zup_fr (show 3 ≠ 7 by decide), zup_fr (show 4 ≠ 7 by decide), zup_fr (show 5 ≠ 7 by decide)]
        obtain ⟨s1, s2, s3, s4, s5, s6, s7, s8, s9⟩ := hS
        refine ⟨s1, s2, s3, fun l hl => ?_, s5, s6, fun k => ?_, fun r q hr hq => ?_, s9⟩
        · have := s4 l hl
          rw [g1, g2]
          exact this
        · by_cases e : k = a1.toNat
          · subst e; simp [zup]
          · simp [zup, e]; exact s7 k
        · have := s8 r q hr hq
          rw [g3, g4]
          exact this
      · obtain ⟨W, SL, hG, hR⟩ := hT
        exact ⟨W, SL, hG.eq (fun f hf => zup_fr (by omega)) (fun f hf => zup_fr (by omega)), fun l hl => hR l hl⟩
      · exact hZ
    · rw [if_neg (fun z => hk0 (k2.mpr z)), if_neg hk0]
      exact (h.th k3).next
