/-! span -/
theorem planAll_is {D N : zM} (hW : WS D N) (h5 : 0 ≤ N 0 0 5) (m : Nat) (hg : ∀ r, r < m → 0 ≤ D 8 r 1 ∧ D 8 r 1 < N 0 0 1) : ∀ r q : Nat, r < m → q < 8 → planAll D m 10 r q = fewM N q (D 8 r 1) (D 8 r 2) ∧ planAll D m 11 r q = firstM N q (D 8 r 1) (D 8 r 2) := by
  induction m with
  | zero => intro r q hr; omega
  | succ m ih =>
    intro r q hr hq
    have e : planAll D (m + 1) = planC (planAll D m) m (planAll D m 8 m 1) (planAll D m 8 m 2) := rfl
    have e8 : planAll D m 8 = D 8 := planAll_fr (by decide)
    rw [e, e8]
    by_cases y : r = m
    · subst y
      refine planC_is ?_ h5 (hg r (by omega)) hq
      unfold WS at hW ⊢
      rw [planAll_fr (show ¬ (7 = 10 ∨ 7 = 11) by decide), planAll_fr (show ¬ (1 = 10 ∨ 1 = 11) by decide)]
      exact hW
    · rw [planC_off y, planC_off y]
      exact ih (fun r hr => hg r (by omega)) r q (by omega) hq
theorem RT.span {C C' Z N : zM} {l : Nat} {tr : Int} (hT : RT C Z 0 0) (hZ : RZ C Z) (hl : Z 0 0 5 = (l : Int)) (hl12 : l < 12)
    (c12 : C' 12 = C 12) (c15 : C' 15 = C 15) (c16 : C' 16 = C 16) (c18 : C' 18 = C 18) (c19 : C' 19 = C 19) (c17 : ∀ i k, ¬ (i = 12 * 0 + l ∧ k = 0) → C' 17 i k = C 17 i k) (c17l : C' 17 (12 * 0 + l) 0 = tr)
    (n5 : N 0 0 5 = (l : Int) + 1) (n10 : N 0 0 10 = Z 0 0 10) (n1 : N 0 0 1 = Z 0 0 1) (nf : ∀ f, 8 ≤ f → f ≠ 12 → N f = Z f) (n12 : ∀ k, k ≠ l → N 12 0 k = Z 12 0 k) (n12l : N 12 0 l = tr) : RT C' N 0 0 ∧ RZ C' N := by
  obtain ⟨W, SL, ⟨q1, q2, q3, q4, q5⟩, hR⟩ := hT
  obtain ⟨z1, z2, z3, z4, z5, z6, z7, z8⟩ := hZ.1 l (by omega) hl12
  refine ⟨⟨W, setL SL l [], ⟨?_, fun l' hl' => ?_, fun r hr => ?_, ?_, ⟨fun l' hl' a ha => ?_, fun l' hl' => ?_, fun r hr hr1 => ?_⟩⟩, fun l' hl' => ?_⟩, ⟨fun l' hl' hl2 => ?_, fun r hr hr2 => ?_⟩⟩
  · rw [c12, nf 11 (by decide) (by decide)]; exact q1
  · rw [n5] at hl'
    by_cases e : l' = l
    · subst e
      unfold RC
      rw [c17l, c17 _ 1 (by omega), c17 _ 4 (by omega), c17 _ 5 (by omega), n12l, nf 16 (by decide) (by decide), nf 17 (by decide) (by decide), z2, z3, z4, z7, z8]
      exact ⟨by omega, rfl, rfl⟩
    · have h9 := q2 l' (by omega)
      unfold RC at h9 ⊢
      rw [c17 _ 0 (by omega), c17 _ 1 (by omega), c17 _ 4 (by omega), c17 _ 5 (by omega), n12 l' e, nf 16 (by decide) (by decide), nf 17 (by decide) (by decide)]
      exact h9
  · rw [n10] at hr
    exact (q3 r hr).eq (fun k => by rw [c16]) (by rw [nf 20 (by decide) (by decide)]) (by rw [nf 21 (by decide) (by decide)]) (by rw [nf 22 (by decide) (by decide)]) (by rw [nf 23 (by decide) (by decide)]) (by rw [nf 24 (by decide) (by decide)]) n1 (by rw [nf 10 (by decide) (by decide)])
  · exact q4.eq (by rw [c12]) c15 n10 (fun z _ => by rw [nf 20 (by decide) (by decide)]) (fun z _ => by rw [nf 21 (by decide) (by decide)]) (nf 18 (by decide) (by decide)) (nf 19 (by decide) (by decide))
  · rw [n5] at hl'
    by_cases e : l' = l
    · subst e; rw [setL_at] at ha; simp at ha
    · rw [setL_off e] at ha
      rw [n10, nf 20 (by decide) (by decide), nf 21 (by decide) (by decide), c16]
      exact q5.1 l' (by omega) a ha
  · rw [n5] at hl'
    by_cases e : l' = l
    · subst e; rw [setL_at]; exact List.Pairwise.nil
    · rw [setL_off e]; exact q5.2.1 l' (by omega)
  · rw [n10] at hr
    rw [nf 20 (by decide) (by decide)] at hr1
    obtain ⟨g1, g2, a, g3, g4⟩ := q5.2.2 r hr hr1
    rw [nf 21 (by decide) (by decide), n5]
    exact ⟨g1, by omega, a, by rw [setL_off (by omega)]; exact g3, g4⟩
  · rw [n5] at hl'
    unfold repC repM
    rw [c18, c19, nf 13 (by decide) (by decide), nf 14 (by decide) (by decide), nf 15 (by decide) (by decide), c17 _ 1 (by omega)]
    by_cases e : l' = l
    · subst e
      rw [setL_at]
      exact ⟨⟨z2, fun k a hk => by simp at hk⟩, ⟨z6, fun k a hk => by simp at hk⟩⟩
    · rw [setL_off e]; exact hR l' (by omega)
  · rw [n5] at hl'
    rw [c17 _ 0 (by omega), c17 _ 1 (by omega), c17 _ 4 (by omega), c17 _ 5 (by omega), n12 l' (by omega), nf 13 (by decide) (by decide), nf 16 (by decide) (by decide), nf 17 (by decide) (by decide)]
    exact hZ.1 l' (by omega) hl2
  · rw [n10] at hr
    rw [c16, nf 23 (by decide) (by decide)]
    exact hZ.2 r hr hr2
set_option maxHeartbeats 1000000 in
theorem zst_span : zSt_span zRel := by
  intro n C M h hn a1 a2 a3 a4 _ _ _ _
  obtain ⟨hS, hT, hZ, hwM, hwC⟩ := h.Z hn
  have hc4 : C 1 0 4 = M 0 0 1 := h.2.1.1.1
  have hc5 : C 1 0 5 = M 0 0 5 := h.2.1.1.2.1
  have hc6 : C 1 0 6 = M 0 0 10 := h.2.1.1.2.2
  have h01 : 0 ≤ M 0 0 1 ∧ M 0 0 1 ≤ 8 := (h.1 (by omega)).2.1 0 0 1
  have h05 : 0 ≤ M 0 0 5 ∧ M 0 0 5 ≤ 12 := (h.1 (by omega)).2.1 0 0 5
  have h010 : 0 ≤ M 0 0 10 ∧ M 0 0 10 ≤ 12 := (h.1 (by omega)).2.1 0 0 10
  have h6 := h.2.1.2.1
  have hk9 : wcd 3 1 2 (kSpan C a1 a2 a3 a4) = kSpanM M a1 a2 a3 a4 ∧ (kSpanM M a1 a2 a3 a4 = 0 ↔ kSpan C a1 a2 a3 a4 = 0) ∧ (kSpanM M a1 a2 a3 a4 = 0 → ((0 ≤ a1 ∧ a1 ≤ M 0 0 1 - 1) ∧ (0 ≤ a2 ∧ a2 ≤ M 0 0 1 - 1)) ∧ M 3 0 a2.toNat < M 3 0 a1.toNat ∧ (20 ≤ a3 ∧ a3 ≤ 150) ∧ (1 ≤ a4 ∧ a4 ≤ 3) ∧ M 0 0 5 < 12) ∧ (0 ≤ kSpanM M a1 a2 a3 a4 ∧ kSpanM M a1 a2 a3 a4 ≤ 3) := by
    unfold kSpan kSpanM
    rw [hc4, hc5, (h6 a1.toNat).2.2, (h6 a2.toNat).2.2]
    by_cases y1 : 0 ≤ a1 ∧ a1 ≤ M 0 0 1 - 1
    · rw [if_pos y1]
      by_cases y2 : 0 ≤ a2 ∧ a2 ≤ M 0 0 1 - 1
      · rw [if_pos y2, if_pos (show (0 ≤ a1 ∧ a1 ≤ M 0 0 1 - 1) ∧ (0 ≤ a2 ∧ a2 ≤ M 0 0 1 - 1) from ⟨y1, y2⟩)]
        by_cases y3 : M 3 0 a2.toNat < M 3 0 a1.toNat
        · rw [if_pos y3]
          by_cases y4 : 20 ≤ a3 ∧ a3 ≤ 150
          · rw [if_pos y4]
            by_cases y5 : 1 ≤ a4 ∧ a4 ≤ 3
            · rw [if_pos y5, if_pos (show M 3 0 a2.toNat < M 3 0 a1.toNat ∧ (20 ≤ a3 ∧ a3 ≤ 150) ∧ (1 ≤ a4 ∧ a4 ≤ 3) from ⟨y3, y4, y5⟩)]
              by_cases y6 : M 0 0 5 = 12
              · rw [if_neg (show ¬ M 0 0 5 < 12 by omega), if_pos y6]
                exact ⟨rfl, ⟨fun z => absurd z (by decide), fun z => absurd z (by decide)⟩, fun z => absurd z (by decide), by decide⟩
              · rw [if_pos (show M 0 0 5 < 12 by omega), if_neg y6]
                exact ⟨rfl, ⟨fun _ => rfl, fun _ => rfl⟩, fun _ => ⟨⟨y1, y2⟩, y3, y4, y5, by omega⟩, by decide⟩
            · rw [if_neg y5, if_neg (show ¬ (M 3 0 a2.toNat < M 3 0 a1.toNat ∧ (20 ≤ a3 ∧ a3 ≤ 150) ∧ (1 ≤ a4 ∧ a4 ≤ 3)) from fun z => y5 z.2.2)]
              exact ⟨rfl, ⟨fun z => absurd z (by decide), fun z => absurd z (by decide)⟩, fun z => absurd z (by decide), by decide⟩
          · rw [if_neg y4, if_neg (show ¬ (M 3 0 a2.toNat < M 3 0 a1.toNat ∧ (20 ≤ a3 ∧ a3 ≤ 150) ∧ (1 ≤ a4 ∧ a4 ≤ 3)) from fun z => y4 z.2.1)]
            exact ⟨rfl, ⟨fun z => absurd z (by decide), fun z => absurd z (by decide)⟩, fun z => absurd z (by decide), by decide⟩
        · rw [if_neg y3, if_neg (show ¬ (M 3 0 a2.toNat < M 3 0 a1.toNat ∧ (20 ≤ a3 ∧ a3 ≤ 150) ∧ (1 ≤ a4 ∧ a4 ≤ 3)) from fun z => y3 z.1)]
          exact ⟨rfl, ⟨fun z => absurd z (by decide), fun z => absurd z (by decide)⟩, fun z => absurd z (by decide), by decide⟩
      · rw [if_neg y2, if_neg (show ¬ ((0 ≤ a1 ∧ a1 ≤ M 0 0 1 - 1) ∧ (0 ≤ a2 ∧ a2 ≤ M 0 0 1 - 1)) from fun z => y2 z.2)]
        exact ⟨rfl, ⟨fun z => absurd z (by decide), fun z => absurd z (by decide)⟩, fun z => absurd z (by decide), by decide⟩
    · rw [if_neg y1, if_neg (show ¬ ((0 ≤ a1 ∧ a1 ≤ M 0 0 1 - 1) ∧ (0 ≤ a2 ∧ a2 ≤ M 0 0 1 - 1)) from fun z => y1 z.1)]
      exact ⟨rfl, ⟨fun z => absurd z (by decide), fun z => absurd z (by decide)⟩, fun z => absurd z (by decide), by decide⟩
  obtain ⟨k1, k2, k4, k3⟩ := hk9
  have e0 : spanM M a1 a2 a3 a4 0 0 0 = kSpanM M a1 a2 a3 a4 := by
    unfold spanM
    split
    · rename_i q; rw [q]; simp [zup]
    · exact thM_0 _ _
  refine ⟨by rw [k1, e0], fun hk => ?_, ?_⟩
  · rw [k1] at hk
    refine ⟨k2.mp hk, ?_⟩
    unfold spanR
    rw [if_pos hk, hc5]
  · unfold spanM
    by_cases hk : kSpanM M a1 a2 a3 a4 = 0
    · obtain ⟨⟨b1, b2⟩, b3, b4, b5, b6⟩ := k4 hk
      rw [if_pos (k2.mp hk), if_pos hk]
      obtain ⟨l, hl⟩ : ∃ l : Nat, M 0 0 5 = (l : Int) := ⟨(M 0 0 5).toNat, by omega⟩
      obtain ⟨t, rfl⟩ : ∃ t : Nat, a1 = (t : Int) := ⟨a1.toNat, by omega⟩
      obtain ⟨b, rfl⟩ : ∃ b : Nat, a2 = (b : Int) := ⟨a2.toNat, by omega⟩
      rw [Int.toNat_natCast, Int.toNat_natCast] at b3
      have z05 : zup M 0 0 0 0 0 0 5 = (l : Int) := by rw [← hl]; simp [zup]
      have z01 : zup M 0 0 0 0 0 0 1 = M 0 0 1 := by simp [zup]
      have z010 : zup M 0 0 0 0 0 0 10 = M 0 0 10 := by simp [zup]
      have zm3 : zup M 0 0 0 0 3 = M 3 := zup_fr (by decide)
      rw [← zm3] at b3
      rw [hc5, hl, Int.toNat_natCast]
      have e7 := addLine0_wt hwC (t := (t : Int)) (b := (b : Int)) (mo := a3) (by omega) (by omega) (by omega) (by rw [Int.toNat_natCast, Int.toNat_natCast, (hS.2.1 t).2.2, (hS.2.1 b).2.2]; omega) (by omega)
      have hcz17 := hZ.1 l (by rw [z05]; exact Int.le_refl _) (by omega)
      have eAL : addLineC C (t : Int) (b : Int) a3 = planAll (addLine0 C (t : Int) (b : Int) a3) (M 0 0 10).toNat := by unfold addLineC; rw [hc6]
      have hwC2 : WTC (400 * n) (20000 * n) (addTC (addLineC C (t : Int) (b : Int) a3) 0 (l : Int) a4) := by
        refine addTC_wt (by rw [eAL]; exact planAll_wt e7) (by omega) ?_
        rw [Int.toNat_natCast, eAL, planAll_fr (by decide), addLine0_fr (by decide), hcz17.1, hcz17.2.1]
        omega
      have hD7 : ∀ i k, addLine0 C (t : Int) (b : Int) a3 7 i k = if i = l ∧ k = 0 then (t : Int) else if i = l ∧ k = 1 then (b : Int) else if i = l ∧ k = 2 then a3 else if i = l ∧ k = 3 then absC (C 6 t 0 - C 6 b 0) + absC (C 6 t 1 - C 6 b 1) else if i = l ∧ k = 4 then C 6 t 2 - C 6 b 2 else C 7 i k := fun i k => by
        unfold addLine0
        rw [hc5, hl, Int.toNat_natCast, Int.toNat_natCast, Int.toNat_natCast, zup_fr (by decide)]
        by_cases e : i = l
        · subst e
          simp only [zup, true_and]
          by_cases y4 : k = 4
          · subst y4; simp
          · by_cases y3 : k = 3
            · subst y3; simp
            · by_cases y2 : k = 2
              · subst y2; simp
              · by_cases y1 : k = 1
                · subst y1; simp
                · simp [y1, y2, y3, y4]
        · simp [zup, e]
      have hD1 : addLine0 C (t : Int) (b : Int) a3 1 0 4 = C 1 0 4 ∧ addLine0 C (t : Int) (b : Int) a3 1 0 5 = (l : Int) + 1 ∧ addLine0 C (t : Int) (b : Int) a3 1 0 6 = C 1 0 6 := by
        unfold addLine0
        rw [hc5, hl]
        exact ⟨by simp [zup], by simp [zup], by simp [zup]⟩
      have hDf : ∀ f, f ≠ 7 → f ≠ 1 → addLine0 C (t : Int) (b : Int) a3 f = C f := fun f y1 y2 => addLine0_fr (by omega)
      rw [eAL] at hwC2 ⊢
      generalize addLine0 C (t : Int) (b : Int) a3 = D at e7 hwC2 hD7 hD1 hDf ⊢
      generalize zup M 0 0 0 0 = Z at hS hT hZ hwM z05 z01 z010 b3 ⊢
      have hw9 : ∀ f i k, inM (400 * n) (20000 * n) f k (zup (zup (zup (zup (zup Z 4 0 l (t : Int)) 5 0 l (b : Int)) 6 0 l a3) 12 0 l a4) 0 0 5 ((l : Int) + 1) f i k) := inM_zup (inM_zup (inM_zup (inM_zup (inM_zup hwM.1 (show _ ∧ _ from ⟨by omega, by omega⟩)) (show _ ∧ _ from ⟨by omega, by omega⟩)) (show _ ∧ _ from ⟨by omega, by omega⟩)) (show _ ∧ _ from ⟨by omega, by omega⟩)) (show _ ∧ _ from ⟨by omega, by omega⟩)
      have n5 : zup (zup (zup (zup (zup Z 4 0 l (t : Int)) 5 0 l (b : Int)) 6 0 l a3) 12 0 l a4) 0 0 5 ((l : Int) + 1) 0 0 5 = (l : Int) + 1 := by simp [zup]
      have n1 : zup (zup (zup (zup (zup Z 4 0 l (t : Int)) 5 0 l (b : Int)) 6 0 l a3) 12 0 l a4) 0 0 5 ((l : Int) + 1) 0 0 1 = Z 0 0 1 := by simp [zup]
      have n10 : zup (zup (zup (zup (zup Z 4 0 l (t : Int)) 5 0 l (b : Int)) 6 0 l a3) 12 0 l a4) 0 0 5 ((l : Int) + 1) 0 0 10 = Z 0 0 10 := by simp [zup]
      have nf : ∀ f, f ≠ 0 → f ≠ 4 → f ≠ 5 → f ≠ 6 → f ≠ 12 → zup (zup (zup (zup (zup Z 4 0 l (t : Int)) 5 0 l (b : Int)) 6 0 l a3) 12 0 l a4) 0 0 5 ((l : Int) + 1) f = Z f := fun f y0 y4 y5 y6 y12 => by rw [zup_fr y0, zup_fr y12, zup_fr y6, zup_fr y5, zup_fr y4]
      have n4 : ∀ k, zup (zup (zup (zup (zup Z 4 0 l (t : Int)) 5 0 l (b : Int)) 6 0 l a3) 12 0 l a4) 0 0 5 ((l : Int) + 1) 4 0 k = if k = l then (t : Int) else Z 4 0 k := fun k => by
        by_cases e : k = l
        · subst e; simp [zup]
        · simp [zup, e]
      have n55 : ∀ k, zup (zup (zup (zup (zup Z 4 0 l (t : Int)) 5 0 l (b : Int)) 6 0 l a3) 12 0 l a4) 0 0 5 ((l : Int) + 1) 5 0 k = if k = l then (b : Int) else Z 5 0 k := fun k => by
        by_cases e : k = l
        · subst e; simp [zup]
        · simp [zup, e]
      have n6 : ∀ k, zup (zup (zup (zup (zup Z 4 0 l (t : Int)) 5 0 l (b : Int)) 6 0 l a3) 12 0 l a4) 0 0 5 ((l : Int) + 1) 6 0 k = if k = l then a3 else Z 6 0 k := fun k => by
        by_cases e : k = l
        · subst e; simp [zup]
        · simp [zup, e]
      have n12 : ∀ k, zup (zup (zup (zup (zup Z 4 0 l (t : Int)) 5 0 l (b : Int)) 6 0 l a3) 12 0 l a4) 0 0 5 ((l : Int) + 1) 12 0 k = if k = l then a4 else Z 12 0 k := fun k => by
        by_cases e : k = l
        · subst e; simp [zup]
        · simp [zup, e]
      generalize zup (zup (zup (zup (zup Z 4 0 l (t : Int)) 5 0 l (b : Int)) 6 0 l a3) 12 0 l a4) 0 0 5 ((l : Int) + 1) = N at hw9 n5 n1 n10 nf n4 n55 n6 n12 ⊢
      obtain ⟨s1, s2, s3, s4, s5, s6, s7, s8, s9⟩ := hS
      have hlo : ∀ k : Nat, k ≠ l → lenM N k = lenM Z k ∧ dropM N k = dropM Z k := fun k e => by
        unfold lenM dropM
        rw [Int.toNat_natCast, n4, n55, if_neg e, if_neg e, nf 1 (by decide) (by decide) (by decide) (by decide) (by decide), nf 2 (by decide) (by decide) (by decide) (by decide) (by decide), nf 3 (by decide) (by decide) (by decide) (by decide) (by decide)]
        exact ⟨rfl, rfl⟩
      have hll : lenM N l = absC (Z 1 0 t - Z 1 0 b) + absC (Z 2 0 t - Z 2 0 b) ∧ dropM N l = Z 3 0 t - Z 3 0 b := by
        unfold lenM dropM
        rw [Int.toNat_natCast, n4, n55, if_pos rfl, if_pos rfl, Int.toNat_natCast, Int.toNat_natCast, nf 1 (by decide) (by decide) (by decide) (by decide) (by decide), nf 2 (by decide) (by decide) (by decide) (by decide) (by decide), nf 3 (by decide) (by decide) (by decide) (by decide) (by decide)]
        exact ⟨rfl, rfl⟩
      have hlen1 : 1 ≤ lenM N l := by
        have htb : t ≠ b := fun e => by subst e; omega
        have := s9 t b (by omega) (by omega) htb
        rw [hll.1]
        unfold absC
        split <;> split <;> omega
      have hWS : WS D N := by
        refine ⟨fun k => ?_, by rw [hD1.2.1, n5], by rw [hD1.1, n1, z01]; exact hc4, by rw [n1]; exact (hwM.1 0 0 1).2, fun k hk => ?_, fun k hk => ?_⟩
        · rw [hD7, hD7, hD7, n4, n55, n6]
          by_cases e : k = l
          · subst e; simp
          · simp [e]; exact s3 k
        · rw [n4, n1]
          by_cases e : k = l
          · rw [if_pos e]; omega
          · rw [if_neg e]
            exact ⟨(hwM.1 4 0 k).1, (s4 k (by omega)).2.2.1⟩
        · rw [n55, n1]
          by_cases e : k = l
          · rw [if_pos e]; omega
          · rw [if_neg e]
            exact ⟨(hwM.1 5 0 k).1, (s4 k (by omega)).2.2.2.1⟩
      have hD8 : D 8 = C 8 := hDf 8 (by decide) (by decide)
      have hrt := RT.span (tr := a4) (C' := addTC (planAll D (M 0 0 10).toNat) 0 (l : Int) a4) (N := N) hT hZ z05 (by omega)
        (by rw [addTC_fr (by decide), planAll_fr (by decide), hDf 12 (by decide) (by decide)]) (by rw [addTC_fr (by decide), planAll_fr (by decide), hDf 15 (by decide) (by decide)]) (by rw [addTC_fr (by decide), planAll_fr (by decide), hDf 16 (by decide) (by decide)]) (by rw [addTC_fr (by decide), planAll_fr (by decide), hDf 18 (by decide) (by decide)]) (by rw [addTC_fr (by decide), planAll_fr (by decide), hDf 19 (by decide) (by decide)])
        (fun i k e => by
          unfold addTC
          rw [Int.toNat_natCast]
          simp only [zup]
          rw [if_neg (by omega), planAll_fr (by decide), hDf 17 (by decide) (by decide)])
        (by
          unfold addTC
          rw [Int.toNat_natCast, planAll_fr (by decide), hDf 17 (by decide) (by decide), hcz17.1]
          simp [zup])
        n5 n10 n1 (fun f hf h12 => nf f (by omega) (by omega) (by omega) (by omega) h12) (fun k e => by rw [n12, if_neg e]) (by rw [n12, if_pos rfl])
      refine (fun (h9 : zRel n _ N) => h9.next) ⟨fun _ => ⟨hwC2, hw9, fun k hk => ?_, hwM.2.2⟩, ⟨⟨?_, ?_, ?_⟩, fun i => ?_, fun i => ?_, fun k hk => ?_, fun r => ?_, fun r hr => ?_, fun k => ?_, fun r q hr hq => ?_, fun x y hx hy hxy => ?_⟩, hrt.1, hrt.2⟩
      · rw [n5] at hk
        rw [n4, n55, nf 3 (by decide) (by decide) (by decide) (by decide) (by decide)]
        by_cases e : k = l
        · rw [if_pos e, if_pos e, Int.toNat_natCast, Int.toNat_natCast]; exact b3
        · rw [if_neg e, if_neg e]; exact hwM.2.1 k (by omega)
      · rw [addTC_fr (by decide), planAll_fr (by decide), hD1.1, n1, z01]; exact hc4
      · rw [addTC_fr (by decide), planAll_fr (by decide), hD1.2.1, n5]
      · rw [addTC_fr (by decide), planAll_fr (by decide), hD1.2.2, n10]; exact s1.2.2
      · rw [addTC_fr (by decide), planAll_fr (by decide), hDf 6 (by decide) (by decide), nf 1 (by decide) (by decide) (by decide) (by decide) (by decide), nf 2 (by decide) (by decide) (by decide) (by decide) (by decide), nf 3 (by decide) (by decide) (by decide) (by decide) (by decide)]
        exact s2 i
      · rw [addTC_fr (by decide), planAll_fr (by decide)]
        exact hWS.1 i
      · rw [n5] at hk
        rw [addTC_fr (by decide), planAll_fr (by decide), n1]
        by_cases e : k = l
        · subst e
          rw [hD7, hD7, hll.1, hll.2, n4, n55, if_pos rfl, if_pos rfl]
          refine ⟨?_, ?_, by omega, by omega, hll.1 ▸ hlen1⟩
          · simp
            rw [(s2 t).1, (s2 b).1, (s2 t).2.1, (s2 b).2.1]
          · simp
            rw [(s2 t).2.2, (s2 b).2.2]
        · obtain ⟨x1, x2⟩ := hlo k e
          have h9 := s4 k (by omega)
          rw [x1, x2, n4, n55, if_neg e, if_neg e, hD7, hD7]
          simp [e]
          exact h9
      · rw [addTC_fr (by decide), planAll_fr (by decide), hD8, nf 8 (by decide) (by decide) (by decide) (by decide) (by decide), nf 9 (by decide) (by decide) (by decide) (by decide) (by decide), nf 10 (by decide) (by decide) (by decide) (by decide) (by decide)]
        exact s5 r
      · rw [n10] at hr
        rw [n1, nf 8 (by decide) (by decide) (by decide) (by decide) (by decide), nf 10 (by decide) (by decide) (by decide) (by decide) (by decide)]
        exact s6 r hr
      · rw [addTC_fr (by decide), planAll_fr (by decide), hDf 5 (by decide) (by decide), nf 7 (by decide) (by decide) (by decide) (by decide) (by decide)]
        exact s7 k
      · rw [n10] at hr
        rw [addTC_fr (by decide), addTC_fr (by decide), nf 8 (by decide) (by decide) (by decide) (by decide) (by decide), nf 10 (by decide) (by decide) (by decide) (by decide) (by decide)]
        have h9 := planAll_is hWS (by rw [n5]; omega) (M 0 0 10).toNat (fun r hr => by
          rw [hD8, (s5 r).1, n1]
          exact ⟨(hwM.1 10 0 r).1, (s6 r (by omega)).2⟩) r q (by omega) hq
        rw [hD8, (s5 r).1, (s5 r).2.1] at h9
        exact h9
      · rw [n1] at hx hy
        rw [nf 1 (by decide) (by decide) (by decide) (by decide) (by decide), nf 2 (by decide) (by decide) (by decide) (by decide) (by decide)]
        exact s9 x y hx hy hxy
    · rw [if_neg (fun z => hk (k2.mpr z)), if_neg hk]
      exact (h.th k3).next
