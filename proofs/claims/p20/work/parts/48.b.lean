/-! build -/
theorem zcnt_zero {P : Nat → Prop} [DecidablePred P] {n : Nat} : zcnt P n = 0 ↔ ∀ k, k < n → ¬ P k := by
  induction n with
  | zero => exact ⟨fun _ k hk => absurd hk (Nat.not_lt_zero k), fun _ => rfl⟩
  | succ n ih =>
    have hb := (zcnt_le P n).1
    rw [zcnt]
    by_cases q : P n
    · rw [if_pos q]
      exact ⟨fun z => by omega, fun z => absurd q (z n (by omega))⟩
    · rw [if_neg q, Int.add_zero, ih]
      refine ⟨fun z k hk => ?_, fun z k hk => z k (by omega)⟩
      by_cases e : k = n
      · subst e; exact q
      · exact z k (by omega)
theorem bOk_is {M : zM} {x y : Int} {n : Nat} : bOk M x y n ≠ 0 ↔ M 0 0 1 < 8 ∧ ∀ j, j < n → M 1 0 j ≠ x ∨ M 2 0 j ≠ y := by
  induction n with
  | zero =>
    rw [bOk]
    by_cases q : M 0 0 1 < 8
    · rw [if_pos q]; exact ⟨fun _ => ⟨q, fun j hj => absurd hj (Nat.not_lt_zero j)⟩, fun _ => by decide⟩
    · rw [if_neg q]; exact ⟨fun z => absurd rfl z, fun z => absurd z.1 q⟩
  | succ n ih =>
    rw [bOk]
    by_cases q : bOk M x y n ≠ 0 ∧ (M 1 0 n ≠ x ∨ M 2 0 n ≠ y)
    · rw [if_pos q]
      refine ⟨fun _ => ⟨(ih.mp q.1).1, fun j hj => ?_⟩, fun _ => by decide⟩
      by_cases e : j = n
      · subst e; exact q.2
      · exact (ih.mp q.1).2 j (by omega)
    · rw [if_neg q]
      exact ⟨fun z => absurd rfl z, fun z => absurd ⟨ih.mpr ⟨z.1, fun j hj => z.2 j (by omega)⟩, z.2 n (by omega)⟩ q⟩
theorem inM_zup {T U : Int} {M : zM} {f i k : Nat} {v : Int} (h : ∀ f i k, inM T U f k (M f i k)) (hv : inM T U f k v) : ∀ f' i' k', inM T U f' k' (zup M f i k v f' i' k') := by
  intro f' i' k'
  simp only [zup]
  split
  · rename_i q; obtain ⟨rfl, rfl, rfl⟩ := q; exact hv
  · exact h f' i' k'
theorem RT.up {C M M' : zM} {t u : Nat} (h : RT C M t u) (hM : ∀ f, 10 ≤ f → M' f = M f) (h5 : M' 0 0 5 = M 0 0 5) (h10 : M' 0 0 10 = M 0 0 10) (h1 : M 0 0 1 ≤ M' 0 0 1) : RT C M' t u := by
  obtain ⟨W, SL, ⟨q1, q2, q3, q4, q5⟩, hR⟩ := h
  refine ⟨W, SL, ⟨?_, fun l hl => ?_, fun r hr => ?_, ?_, ?_⟩, fun l hl => ?_⟩
  · rw [hM 11 (by omega)]; exact q1
  · have h9 := q2 l (by omega)
    unfold RC at h9 ⊢
    rw [hM 12 (by omega), hM 16 (by omega), hM 17 (by omega)]
    exact h9
  · obtain ⟨b1, b2, b3, b4, b5, b6, b7⟩ := q3 r (by omega)
    unfold RR
    rw [hM 10 (by omega), hM 20 (by omega), hM 21 (by omega), hM 22 (by omega), hM 23 (by omega), hM 24 (by omega)]
    exact ⟨b1, b2, b3, fun z => by obtain ⟨x1, x2, x3, x4, x5⟩ := b4 z; exact ⟨x1, x2, x3, x4, by omega⟩, b5, b6, b7⟩
  · unfold RW Wp at q4 ⊢
    rw [h10, hM 18 (by omega), hM 19 (by omega), hM 20 (by omega), hM 21 (by omega)]
    exact q4
  · unfold RL9 at q5 ⊢
    rw [h5, h10, hM 20 (by omega), hM 21 (by omega)]
    exact q5
  · have h9 := hR l (by omega)
    unfold repM at h9 ⊢
    rw [hM 13 (by omega), hM 14 (by omega), hM 15 (by omega)]
    exact h9
theorem RZ.up {C M M' : zM} (h : RZ C M) (hM : ∀ f, 10 ≤ f → M' f = M f) (h5 : M' 0 0 5 = M 0 0 5) (h10 : M' 0 0 10 = M 0 0 10) : RZ C M' := by
  unfold RZ at h ⊢
  rw [h5, h10, hM 12 (by omega), hM 13 (by omega), hM 16 (by omega), hM 17 (by omega), hM 23 (by omega)]
  exact h
set_option maxHeartbeats 1000000 in
theorem zst_build : zSt_build zRel := by
  intro n C M h hn a1 a2 a3 _ _ _
  obtain ⟨hS, hT, hZ, hwM, hwC⟩ := h.Z hn
  have hc : C 1 0 4 = M 0 0 1 := h.2.1.1.1
  have h01 : 0 ≤ M 0 0 1 ∧ M 0 0 1 ≤ 8 := (h.1 (by omega)).2.1 0 0 1
  have h6 := h.2.1.2.1
  have hiff : zcnt (fun j => C 6 j 0 = a1 ∧ C 6 j 1 = a2) (M 0 0 1).toNat = 0 ↔ ∀ j, j < (M 0 0 1).toNat → M 1 0 j ≠ a1 ∨ M 2 0 j ≠ a2 := by
    rw [zcnt_zero]
    refine ⟨fun z j hj => ?_, fun z j hj => ?_⟩
    · have h9 := z j hj
      rw [(h6 j).1, (h6 j).2.1] at h9
      by_cases e : M 1 0 j = a1
      · exact Or.inr (fun e2 => h9 ⟨e, e2⟩)
      · exact Or.inl e
    · rw [(h6 j).1, (h6 j).2.1]
      intro y
      rcases z j hj with q | q
      · exact q y.1
      · exact q y.2
  have hk9 : wcd 1 2 0 (kBuild C a1 a2 a3) = kBuildM M a1 a2 a3 ∧ (kBuildM M a1 a2 a3 = 0 ↔ kBuild C a1 a2 a3 = 0) ∧ (kBuildM M a1 a2 a3 = 0 → ((0 ≤ a1 ∧ a1 ≤ 40) ∧ (0 ≤ a2 ∧ a2 ≤ 40) ∧ (0 ≤ a3 ∧ a3 ≤ 60)) ∧ M 0 0 1 < 8 ∧ ∀ j, j < (M 0 0 1).toNat → M 1 0 j ≠ a1 ∨ M 2 0 j ≠ a2) ∧ (0 ≤ kBuildM M a1 a2 a3 ∧ kBuildM M a1 a2 a3 ≤ 3) := by
    unfold kBuild kBuildM
    rw [hc]
    by_cases y1 : 0 ≤ a1 ∧ a1 ≤ 40
    · rw [if_pos y1]
      by_cases y2 : 0 ≤ a2 ∧ a2 ≤ 40
      · rw [if_pos y2]
        by_cases y3 : 0 ≤ a3 ∧ a3 ≤ 60
        · rw [if_pos y3, if_pos (And.intro y1 (And.intro y2 y3))]
          by_cases y4 : bOk M a1 a2 (M 0 0 1).toNat ≠ 0
          · have y5 := bOk_is.mp y4
            rw [if_pos y4, if_neg (fun z => z (hiff.mpr y5.2)), if_pos y5.1]
            exact ⟨rfl, ⟨fun _ => rfl, fun _ => rfl⟩, fun _ => ⟨⟨y1, y2, y3⟩, y5⟩, by decide⟩
          · rw [if_neg y4]
            have y6 : (if zcnt (fun j => C 6 j 0 = a1 ∧ C 6 j 1 = a2) (M 0 0 1).toNat ≠ 0 then (2 : Nat) else if M 0 0 1 < 8 then 0 else 2) = 2 := by
              by_cases y7 : zcnt (fun j => C 6 j 0 = a1 ∧ C 6 j 1 = a2) (M 0 0 1).toNat = 0
              · rw [if_neg (fun z => z y7), if_neg (fun z => y4 (bOk_is.mpr ⟨z, hiff.mp y7⟩))]
              · rw [if_pos y7]
            rw [y6]
            exact ⟨rfl, ⟨fun z => absurd z (by decide), fun z => absurd z (by decide)⟩, fun z => absurd z (by decide), by decide⟩
        · rw [if_neg y3, if_neg (fun z => y3 z.2.2)]
          exact ⟨rfl, ⟨fun z => absurd z (by decide), fun z => absurd z (by decide)⟩, fun z => absurd z (by decide), by decide⟩
      · rw [if_neg y2, if_neg (fun z => y2 z.2.1)]
        exact ⟨rfl, ⟨fun z => absurd z (by decide), fun z => absurd z (by decide)⟩, fun z => absurd z (by decide), by decide⟩
    · rw [if_neg y1, if_neg (fun z => y1 z.1)]
      exact ⟨rfl, ⟨fun z => absurd z (by decide), fun z => absurd z (by decide)⟩, fun z => absurd z (by decide), by decide⟩
  obtain ⟨k1, k2, k4, k3⟩ := hk9
  have e0 : buildM M a1 a2 a3 0 0 0 = kBuildM M a1 a2 a3 := by
    unfold buildM
    split
    · rename_i q; rw [q]; simp [zup]
    · exact thM_0 _ _
  refine ⟨by rw [k1, e0], fun hk => ?_, ?_⟩
  · rw [k1] at hk
    refine ⟨k2.mp hk, ?_⟩
    unfold buildR
    rw [if_pos hk, hc]
  · unfold buildM
    by_cases hk : kBuildM M a1 a2 a3 = 0
    · obtain ⟨⟨b1, b2, b3⟩, b4, b5⟩ := k4 hk
      rw [if_pos (k2.mp hk), if_pos hk]
      obtain ⟨p, hp⟩ : ∃ p : Nat, M 0 0 1 = (p : Int) := ⟨(M 0 0 1).toNat, by omega⟩
      have eC : addPlatformC C a1 a2 a3 = zup (zup (zup (zup C 6 p 0 a1) 6 p 1 a2) 6 p 2 a3) 1 0 4 ((p : Int) + 1) := by
        unfold addPlatformC
        rw [hc, hp, Int.toNat_natCast]
      rw [eC, hp, Int.toNat_natCast]
      rw [hp, Int.toNat_natCast] at b5
      have z01 : zup M 0 0 0 0 0 0 1 = (p : Int) := by rw [← hp]; simp [zup]
      have zm1 : zup M 0 0 0 0 1 = M 1 := zup_fr (by decide)
      have zm2 : zup M 0 0 0 0 2 = M 2 := zup_fr (by decide)
      rw [← zm1, ← zm2] at b5
      generalize zup M 0 0 0 0 = Z at hS hT hZ hwM z01 b5 ⊢
      have hf : ∀ f, f ≠ 0 → f ≠ 1 → f ≠ 2 → f ≠ 3 → zup (zup (zup (zup Z 1 0 p a1) 2 0 p a2) 3 0 p a3) 0 0 1 ((p : Int) + 1) f = Z f := fun f h0 h1 h2 h3 => by rw [zup_fr h0, zup_fr h3, zup_fr h2, zup_fr h1]
      have hN1 : ∀ k, zup (zup (zup (zup Z 1 0 p a1) 2 0 p a2) 3 0 p a3) 0 0 1 ((p : Int) + 1) 1 0 k = if k = p then a1 else Z 1 0 k := fun k => by
        by_cases e : k = p
        · subst e; simp [zup]
        · simp [zup, e]
      have hN2 : ∀ k, zup (zup (zup (zup Z 1 0 p a1) 2 0 p a2) 3 0 p a3) 0 0 1 ((p : Int) + 1) 2 0 k = if k = p then a2 else Z 2 0 k := fun k => by
        by_cases e : k = p
        · subst e; simp [zup]
        · simp [zup, e]
      have hN3 : ∀ k, zup (zup (zup (zup Z 1 0 p a1) 2 0 p a2) 3 0 p a3) 0 0 1 ((p : Int) + 1) 3 0 k = if k = p then a3 else Z 3 0 k := fun k => by
        by_cases e : k = p
        · subst e; simp [zup]
        · simp [zup, e]
      have hN5 : zup (zup (zup (zup Z 1 0 p a1) 2 0 p a2) 3 0 p a3) 0 0 1 ((p : Int) + 1) 0 0 5 = Z 0 0 5 := by simp [zup]
      have hN10 : zup (zup (zup (zup Z 1 0 p a1) 2 0 p a2) 3 0 p a3) 0 0 1 ((p : Int) + 1) 0 0 10 = Z 0 0 10 := by simp [zup]
      have hN01 : zup (zup (zup (zup Z 1 0 p a1) 2 0 p a2) 3 0 p a3) 0 0 1 ((p : Int) + 1) 0 0 1 = (p : Int) + 1 := by simp [zup]
      have hw9 : ∀ f i k, inM (400 * n) (20000 * n) f k (zup (zup (zup (zup Z 1 0 p a1) 2 0 p a2) 3 0 p a3) 0 0 1 ((p : Int) + 1) f i k) := inM_zup (inM_zup (inM_zup (inM_zup hwM.1 (show _ ∧ _ from b1)) (show _ ∧ _ from b2)) (show _ ∧ _ from b3)) (show _ ∧ _ from ⟨by omega, by omega⟩)
      generalize zup (zup (zup (zup Z 1 0 p a1) 2 0 p a2) 3 0 p a3) 0 0 1 ((p : Int) + 1) = N at hf hN1 hN2 hN3 hN5 hN10 hN01 hw9 ⊢
      have hlen : ∀ l : Nat, (l : Int) < Z 0 0 5 → lenM N l = lenM Z l ∧ dropM N l = dropM Z l ∧ (Z 4 0 l).toNat ≠ p ∧ (Z 5 0 l).toNat ≠ p := fun l hl => by
        have h9 := hS.2.2.2.1 l hl
        have g4 := (hwM.1 4 0 l).1
        have g5 := (hwM.1 5 0 l).1
        have n4 : (Z 4 0 l).toNat ≠ p := by omega
        have n5 : (Z 5 0 l).toNat ≠ p := by omega
        unfold lenM dropM
        rw [Int.toNat_natCast, hf 4 (by decide) (by decide) (by decide) (by decide), hf 5 (by decide) (by decide) (by decide) (by decide), hN1, hN1, hN2, hN2, hN3, hN3, if_neg n4, if_neg n4, if_neg n4, if_neg n5, if_neg n5, if_neg n5]
        exact ⟨rfl, rfl, n4, n5⟩
      refine (fun (h9 : zRel n _ N) => h9.next) ⟨fun _ => ⟨?_, hw9, fun l hl => ?_, hwM.2.2⟩, ?_, ?_, ?_⟩
      · exact (((hwC.up (f := 6) (k := 0) (by decide) (show _ ∧ _ from b1)).up (f := 6) (k := 1) (by decide) (show _ ∧ _ from b2)).up (f := 6) (k := 2) (by decide) (show _ ∧ _ from b3)).up (f := 1) (k := 4) (by decide) (show _ ∧ _ from ⟨by omega, by omega⟩)
      · rw [hN5] at hl
        obtain ⟨-, -, n4, n5⟩ := hlen l hl
        rw [hf 4 (by decide) (by decide) (by decide) (by decide), hf 5 (by decide) (by decide) (by decide) (by decide), hN3, hN3, if_neg n4, if_neg n5]
        exact hwM.2.1 l hl
      · obtain ⟨s1, s2, s3, s4, s5, s6, s7, s8, s9⟩ := hS
        have g3 : ∀ a to w : Int, fewM N a to w = fewM Z a to w := fun a to w => fewN_eq hN5 (fun f h4 h7 => hf f (by omega) (by omega) (by omega) (by omega)) _ _ _ _
        have g4 : ∀ a to w : Int, firstM N a to w = firstM Z a to w := fun a to w => firstM_eq hN5 (fun f h4 h7 => hf f (by omega) (by omega) (by omega) (by omega)) _ _ _
        refine ⟨⟨?_, ?_, ?_⟩, fun i => ?_, fun i => ?_, fun l hl => ?_, fun r => ?_, fun r hr => ?_, fun k => ?_, fun r q hr hq => ?_, fun x y hx hy hxy => ?_⟩
        · rw [hN01]; simp [zup]
        · rw [hN5]; simp [zup]; exact s1.2.1
        · rw [hN10]; simp [zup]; exact s1.2.2
        · rw [hN1, hN2, hN3]
          by_cases e : i = p
          · subst e; simp [zup]
          · simp [zup, e]; exact s2 i
        · rw [zup_fr (by decide), zup_fr (by decide), zup_fr (by decide), zup_fr (by decide), hf 4 (by decide) (by decide) (by decide) (by decide), hf 5 (by decide) (by decide) (by decide) (by decide), hf 6 (by decide) (by decide) (by decide) (by decide)]
          exact s3 i
        · rw [hN5] at hl
          obtain ⟨x1, x2, x3, x4, x5⟩ := s4 l hl
          obtain ⟨y1, y2, -, -⟩ := hlen l hl
          rw [y1, y2, hN01, zup_fr (by decide), zup_fr (by decide), zup_fr (by decide), zup_fr (by decide), hf 4 (by decide) (by decide) (by decide) (by decide), hf 5 (by decide) (by decide) (by decide) (by decide)]
          exact ⟨x1, x2, by omega, by omega, x5⟩
        · rw [zup_fr (by decide), zup_fr (by decide), zup_fr (by decide), zup_fr (by decide), hf 8 (by decide) (by decide) (by decide) (by decide), hf 9 (by decide) (by decide) (by decide) (by decide), hf 10 (by decide) (by decide) (by decide) (by decide)]
          exact s5 r
        · rw [hN10] at hr
          have := s6 r hr
          rw [hN01, hf 8 (by decide) (by decide) (by decide) (by decide), hf 10 (by decide) (by decide) (by decide) (by decide)]
          exact ⟨this.1, by omega⟩
        · rw [zup_fr (by decide), zup_fr (by decide), zup_fr (by decide), zup_fr (by decide), hf 7 (by decide) (by decide) (by decide) (by decide)]
          exact s7 k
        · rw [hN10] at hr
          rw [g3, g4, zup_fr (show 10 ≠ 1 by decide), zup_fr (show 10 ≠ 6 by decide), zup_fr (show 10 ≠ 6 by decide), zup_fr (show 10 ≠ 6 by decide), zup_fr (show 11 ≠ 1 by decide), zup_fr (show 11 ≠ 6 by decide), zup_fr (show 11 ≠ 6 by decide), zup_fr (show 11 ≠ 6 by decide), hf 8 (by decide) (by decide) (by decide) (by decide), hf 10 (by decide) (by decide) (by decide) (by decide)]
          exact s8 r q hr hq
        · rw [hN01] at hx hy
          rw [hN1, hN1, hN2, hN2]
          by_cases ex : x = p
          · have ey : y ≠ p := fun e => hxy (ex.trans e.symm)
            rw [if_pos ex, if_pos ex, if_neg ey, if_neg ey]
            rcases b5 y (by omega) with z | z
            · exact fun z9 => z z9.1.symm
            · exact fun z9 => z z9.2.symm
          · rw [if_neg ex, if_neg ex]
            by_cases ey : y = p
            · rw [if_pos ey, if_pos ey]
              rcases b5 x (by omega) with z | z
              · exact fun z9 => z z9.1
              · exact fun z9 => z z9.2
            · rw [if_neg ey, if_neg ey]
              exact s9 x y (by omega) (by omega) hxy
      · refine (hT.up (fun f h9 => hf f (by omega) (by omega) (by omega) (by omega)) hN5 hN10 (by omega)).ceq (fun f h9 => ?_)
        rw [zup_fr (by omega), zup_fr (by omega), zup_fr (by omega), zup_fr (by omega)]
      · refine (hZ.up (fun f h9 => hf f (by omega) (by omega) (by omega) (by omega)) hN5 hN10).ceq (fun f h9 => ?_)
        rw [zup_fr (by omega), zup_fr (by omega), zup_fr (by omega), zup_fr (by omega)]
    · rw [if_neg (fun z => hk (k2.mpr z)), if_neg hk]
      exact (h.th k3).next
