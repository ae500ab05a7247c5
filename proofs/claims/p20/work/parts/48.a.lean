/-! way, add, build -/
theorem RS.ws {C M : zM} {T U : Int} (h : RS C M) (hw : WTM T U M) : WS C M :=
  ⟨h.2.2.1, h.1.2.1, h.1.1, (hw.1 0 0 1).2, fun l hl => ⟨(hw.1 4 0 l).1, (h.2.2.2.1 l hl).2.2.1⟩, fun l hl => ⟨(hw.1 5 0 l).1, (h.2.2.2.1 l hl).2.2.2.1⟩⟩
theorem RT.ceq {C C' M : zM} {t u : Nat} (h : RT C M t u) (hC : ∀ f, 12 ≤ f → C' f = C f) : RT C' M t u := by
  unfold RT RG RC RR RW RL9 repC at h ⊢
  rw [hC 12 (by omega), hC 15 (by omega), hC 16 (by omega), hC 17 (by omega), hC 18 (by omega), hC 19 (by omega)]
  exact h
theorem RZ.ceq {C C' M : zM} (h : RZ C M) (hC : ∀ f, 12 ≤ f → C' f = C f) : RZ C' M := by
  unfold RZ at h ⊢
  rw [hC 16 (by omega), hC 17 (by omega)]
  exact h
theorem RS.tables {C C' M : zM} (h : RS C M) (hC : ∀ f, f < 12 → f ≠ 10 → f ≠ 11 → C' f = C f) (h10 : ∀ r q : Nat, (r : Int) < M 0 0 10 → q < 8 → C' 10 r q = fewM M q (M 10 0 r) (M 8 0 r) ∧ C' 11 r q = firstM M q (M 10 0 r) (M 8 0 r)) : RS C' M := by
  obtain ⟨s1, s2, s3, s4, s5, s6, s7, s8, s9⟩ := h
  refine ⟨?_, ?_, ?_, ?_, ?_, s6, ?_, h10, s9⟩
  · rw [hC 1 (by decide) (by decide) (by decide)]; exact s1
  · rw [hC 6 (by decide) (by decide) (by decide)]; exact s2
  · rw [hC 7 (by decide) (by decide) (by decide)]; exact s3
  · rw [hC 7 (by decide) (by decide) (by decide)]; exact s4
  · rw [hC 8 (by decide) (by decide) (by decide)]; exact s5
  · rw [hC 5 (by decide) (by decide) (by decide)]; exact s7
theorem zst_way : zSt_way zRel := by
  intro n C M h hn a1 a2 a3 _ _ _
  obtain ⟨hS, hT, hZ, hwM, hwC⟩ := h.Z hn
  obtain ⟨k1, k2, k3⟩ := kWay_eq h.2.1.1.1 a1 a2 a3
  have hk9 : kWayM M a1 a2 a3 = 0 → (0 ≤ a1 ∧ a1 ≤ M 0 0 1 - 1) ∧ (0 ≤ a2 ∧ a2 ≤ M 0 0 1 - 1) := fun hk => by
    unfold kWayM at hk
    split at hk
    · assumption
    · exact absurd hk (by decide)
  have e1 : zup M 0 0 0 0 0 0 1 = M 0 0 1 := by simp [zup]
  have hp8 : zup M 0 0 0 0 0 0 1 ≤ 8 := hwM.sb.1.2.1
  refine ⟨by unfold wayM; rw [k1, face_0], fun hk => ?_, ?_⟩
  · rw [k1] at hk
    obtain ⟨b1, b2⟩ := hk9 hk
    refine ⟨k2 hk, ?_⟩
    obtain ⟨q, rfl⟩ : ∃ q : Nat, a1 = (q : Int) := ⟨a1.toNat, by omega⟩
    have := (planC_is (i := 12) (w := a3) (hS.ws hwM) (hwM.1 0 0 5).1 (g := a2) (by omega) (q := q) (by omega)).1
    unfold linesFromC wayR
    rw [if_pos (by omega), if_pos hk, Int.toNat_natCast]
    exact this
  · unfold wayM
    by_cases hk : kWayM M a1 a2 a3 = 0
    · rw [if_pos (k2 hk), if_pos hk]
      have hlc := hwM.sb.1.1
      refine (fun (h9 : zRel n (planC C 12 a2 a3) (zup M 0 0 0 0)) => h9.next) ⟨fun _ => ⟨planC_wt hwC, hwM⟩, hS.tables (fun f hf h0 h1 => planC_fr (by omega)) (fun r q hr hq => ?_), hT.ceq (fun f hf => planC_fr (by omega)), hZ.ceq (fun f hf => planC_fr (by omega))⟩
      rw [planC_off (by omega), planC_off (by omega)]
      exact hS.2.2.2.2.2.2.2.1 r q hr hq
    · have hk2 : ¬ kWay C a1 a2 a3 = 0 := fun z => hk (by rw [← k1, z]; rfl)
      rw [if_neg hk2, if_neg hk]
      exact (h.th k3).next
theorem zst_add : zSt_add zRel := by
  intro n C M h hn a1 _
  obtain ⟨hS, hT, hZ, hwM, hwC⟩ := h.Z hn
  have hc : C 1 0 5 = M 0 0 5 := h.2.1.1.2.1
  have hsum : ∀ i : Nat, (i : Int) < M 0 0 5 → C 17 (12 * 0 + i) 0 + C 17 (12 * 0 + i) 1 = M 12 0 i := fun i hi => by
    obtain ⟨W, SL, hG, hR⟩ := h.2.2.1
    exact (hG.2.1 i hi).1
  have h12 : ∀ i : Nat, M 12 0 i ≤ 3 := fun i => ((h.1 (by omega)).2.1 12 0 i).2
  have hk9 : wcd 3 2 0 (kAdd C a1) = kAddM M a1 ∧ (kAddM M a1 = 0 ↔ kAdd C a1 = 0) ∧ (kAddM M a1 = 0 → (0 ≤ a1 ∧ a1 ≤ M 0 0 5 - 1) ∧ M 12 0 a1.toNat ≠ 3) ∧ (0 ≤ kAddM M a1 ∧ kAddM M a1 ≤ 3) := by
    unfold kAdd kAddM
    rw [hc]
    by_cases h1 : 0 ≤ a1 ∧ a1 ≤ M 0 0 5 - 1
    · rw [if_pos h1, if_pos h1, hsum a1.toNat (by omega)]
      have := h12 a1.toNat
      by_cases h2 : M 12 0 a1.toNat = 3
      · rw [if_neg (show ¬ M 12 0 a1.toNat < 3 by omega), if_pos h2]; exact ⟨rfl, ⟨fun z => absurd z (by decide), fun z => absurd z (by decide)⟩, fun z => absurd z (by decide), by decide⟩
      · rw [if_pos (show M 12 0 a1.toNat < 3 by omega), if_neg h2]; exact ⟨rfl, ⟨fun _ => rfl, fun _ => rfl⟩, fun _ => ⟨h1, h2⟩, by decide⟩
    · rw [if_neg h1, if_neg h1]; exact ⟨rfl, ⟨fun z => absurd z (by decide), fun z => absurd z (by decide)⟩, fun z => absurd z (by decide), by decide⟩
  obtain ⟨k1, k2, k4, k3⟩ := hk9
  have e0 : addM M a1 0 0 0 = kAddM M a1 := by
    unfold addM
    split
    · rename_i q; rw [zup_fr (by decide), z000, q]
    · exact thM_0 _ _
  refine ⟨by rw [k1, e0], fun hk => ?_, ?_⟩
  · rw [k1] at hk
    obtain ⟨b1, b2⟩ := k4 hk
    refine ⟨k2.mp hk, ?_⟩
    have h9 := hsum a1.toNat (by omega)
    unfold addR
    rw [if_pos hk, ← h9]
    simp [addTC, zup]
    omega
  · unfold addM
    by_cases hk : kAddM M a1 = 0
    · obtain ⟨b1, b2⟩ := k4 hk
      rw [if_pos (k2.mp hk), if_pos hk]
      obtain ⟨i, rfl⟩ : ∃ i : Nat, a1 = (i : Int) := ⟨a1.toNat, by omega⟩
      rw [Int.toNat_natCast] at b2 ⊢
      have h9 := hsum i (by omega)
      have h3 := h12 i
      have h0 : 0 ≤ M 12 0 i := ((h.1 (by omega)).2.1 12 0 i).1
      have e12 : zup M 0 0 0 0 12 0 i = M 12 0 i := by rw [zup_fr (by decide)]
      have e5 : zup M 0 0 0 0 0 0 5 = M 0 0 5 := by simp [zup]
      have hR := hT.add (i := i)
      rw [e12] at hR
      refine (fun (h9 : zRel n (addTC C 0 (i : Int) 1) (zup (zup M 0 0 0 0) 12 0 i (M 12 0 i + 1))) => h9.next) ⟨fun _ => ⟨addTC_wt hwC (by omega) (by rw [Int.toNat_natCast]; omega), hwM.up (by decide) (show _ ∧ _ from ⟨by omega, by omega⟩)⟩, hS.eq (fun f hf => addTC_fr (by omega)) (fun f hf => zup_fr (by omega)), hR, ⟨fun l hl hl2 => ?_, fun r hr hr2 => ?_⟩⟩
      · rw [zup_fr (by decide), e5] at hl
        have e : l ≠ i := by omega
        have h8 := hZ.1 l (by rw [e5]; exact hl) hl2
        simp [addTC, zup, e] at h8 ⊢
        exact h8
      · rw [zup_fr (by decide)] at hr
        have h8 := hZ.2 r hr hr2
        rw [addTC_fr (by decide), zup_fr (by decide)]
        exact h8
    · rw [if_neg (fun z => hk (k2.mpr z)), if_neg hk]
      exact (h.th k3).next
