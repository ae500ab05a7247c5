/-! a slot of a line's trolleys turns; an arrival -/
def setL (SL : Nat → List (Int × Int)) (l : Nat) (L : List (Int × Int)) : Nat → List (Int × Int) := fun l' => if l' = l then L else SL l'
theorem setL_at (SL : Nat → List (Int × Int)) (l : Nat) (L : List (Int × Int)) : setL SL l L l = L := if_pos rfl
theorem setL_off {SL : Nat → List (Int × Int)} {l : Nat} {L : List (Int × Int)} {l' : Nat} (h : l' ≠ l) : setL SL l L l' = SL l' := if_neg h
theorem RG.eq {C M C' M' : zM} {t u : Nat} {W : List Nat} {SL : Nat → List (Int × Int)} (h : RG C M t u W SL) (hC : ∀ f, f = 12 ∨ f = 15 ∨ f = 16 ∨ f = 17 → C' f = C f) (hM : ∀ f, f = 0 ∨ f = 10 ∨ f = 11 ∨ f = 12 ∨ (16 ≤ f ∧ f ≤ 24) → M' f = M f) : RG C' M' t u W SL := by
  unfold RG RW RL9 RC RR Wp at h ⊢
  rw [hC 12 (by omega), hC 15 (by omega), hC 16 (by omega), hC 17 (by omega), hM 0 (by omega), hM 10 (by omega), hM 11 (by omega), hM 12 (by omega), hM 16 (by omega), hM 17 (by omega), hM 18 (by omega), hM 19 (by omega), hM 20 (by omega), hM 21 (by omega), hM 22 (by omega), hM 23 (by omega), hM 24 (by omega)]
  exact h
/-- a trolley without a rider goes, or has a minute less -/
theorem RG.empty {C M : zM} {t u : Nat} {W : List Nat} {SL : Nat → List (Int × Int)} (h : RG C M t u W SL) {l : Nat} {P Rt L : List (Int × Int)} {x : Int} (hSL : SL l = P ++ (-1, x) :: Rt) (hL : L = P ++ Rt ∨ ∃ y, 1 ≤ y ∧ L = P ++ (-1, y) :: Rt) : RG C M t u W (setL SL l L) := by
  obtain ⟨h1, h2, h3, h4, h5, h6, h7⟩ := h
  refine ⟨h1, h2, h3, h4, fun l' hl' a ha => ?_, fun l' hl' => ?_, fun r hr hr1 => ?_⟩
  · by_cases e : l' = l
    · subst e
      rw [setL_at] at ha
      have h9 := h5 l' hl'
      rw [hSL] at h9
      rcases hL with rfl | ⟨y, hy, rfl⟩
      · rcases List.mem_append.mp ha with z | z
        · exact h9 a (List.mem_append_left _ z)
        · exact h9 a (List.mem_append_right _ (List.mem_cons_of_mem _ z))
      · simp at ha
        rcases ha with ha | rfl | ha
        · exact h9 a (by simp [ha])
        · exact ⟨hy, fun z => absurd rfl z⟩
        · exact h9 a (by simp [ha])
    · rw [setL_off e] at ha
      exact h5 l' hl' a ha
  · by_cases e : l' = l
    · subst e
      rw [setL_at]
      have h9 := h6 l' hl'
      rw [hSL, List.pairwise_append, List.pairwise_cons] at h9
      obtain ⟨g1, ⟨g2, g3⟩, g4⟩ := h9
      rcases hL with rfl | ⟨y, hy, rfl⟩
      · rw [List.pairwise_append]
        exact ⟨g1, g3, fun a ha b hb => g4 a ha b (List.mem_cons_of_mem _ hb)⟩
      · rw [List.pairwise_append, List.pairwise_cons]
        refine ⟨g1, ⟨fun a _ z => absurd rfl z, g3⟩, fun a ha b hb => ?_⟩
        rcases List.mem_cons.mp hb with rfl | hb
        · exact fun z => z
        · exact g4 a ha b (List.mem_cons_of_mem _ hb)
    · rw [setL_off e]; exact h6 l' hl'
  · obtain ⟨g1, g2, a, g3, g4⟩ := h7 r hr hr1
    refine ⟨g1, g2, a, ?_, g4⟩
    by_cases e : (M 21 u r).toNat = l
    · rw [e, setL_at]
      rw [e, hSL] at g3
      have hne : a ≠ (-1, x) := fun z => by rw [z] at g4; have g5 : (-1 : Int) = (r : Int) := g4; omega
      have g5 : a ∈ P ∨ a ∈ Rt := by
        rcases List.mem_append.mp g3 with z | z
        · exact Or.inl z
        · rcases List.mem_cons.mp z with z | z
          · exact absurd z hne
          · exact Or.inr z
      rcases hL with rfl | ⟨y, hy, rfl⟩
      · exact List.mem_append.mpr g5
      · rcases g5 with z | z
        · exact List.mem_append_left _ z
        · exact List.mem_append_right _ (List.mem_cons_of_mem _ z)
    · rw [setL_off e]; exact g3
/-- what is known of the rider of a slot -/
theorem RG.slot {C M : zM} {t u : Nat} {W : List Nat} {SL : Nat → List (Int × Int)} (h : RG C M t u W SL) {l : Nat} (hl : (l : Int) < M 0 0 5) {P Rt : List (Int × Int)} {r x : Int} (hSL : SL l = P ++ (r, x) :: Rt) (hr : r ≠ -1) : 0 ≤ r ∧ r < M 0 0 10 ∧ M 20 u r.toNat = 1 ∧ M 21 u r.toNat = (l : Int) := by
  obtain ⟨g1, g2, g3, g4, g5⟩ := (h.2.2.2.2.1 l hl (r, x) (by rw [hSL]; simp)).2 hr
  exact ⟨g1, g2, g3, g4⟩
/-- the rider of a slot is in no other one -/
theorem RL9.other {C M : zM} {t u : Nat} {SL : Nat → List (Int × Int)} (h : RL9 C M t u SL) {l : Nat} (hl : (l : Int) < M 0 0 5) {P Rt : List (Int × Int)} {r x : Int} (hSL : SL l = P ++ (r, x) :: Rt) (hr : r ≠ -1) : ∀ a : Int × Int, a ∈ P ∨ a ∈ Rt → a.1 ≠ r := by
  have h9 := h.2.1 l hl
  rw [hSL, List.pairwise_append, List.pairwise_cons] at h9
  obtain ⟨g1, ⟨g2, g3⟩, g4⟩ := h9
  intro a ha e
  rcases ha with ha | ha
  · exact g4 a ha (r, x) List.mem_cons_self (by rw [e]; exact hr) e
  · exact g2 a ha hr e.symm
/-- the rider of a slot has left it, or rides on -/
theorem RL9.turn {C M C' M' : zM} {t u : Nat} {SL : Nat → List (Int × Int)} (h : RL9 C M t u SL) {l r : Nat} (hl : (l : Int) < M 0 0 5) {P Rt : List (Int × Int)} {x : Int} (hSL : SL l = P ++ ((r : Int), x) :: Rt) {y : Int × Int} (hy : 1 ≤ y.2)
    (m05 : M' 0 0 5 = M 0 0 5) (m010 : M' 0 0 10 = M 0 0 10) (m20 : ∀ z, z ≠ r → M' 20 u z = M 20 u z) (m21 : ∀ z, z ≠ r → M' 21 u z = M 21 u z) (c16 : ∀ z, z ≠ r → C' 16 (12 * t + z) 3 = C 16 (12 * t + z) 3)
    (hyr : (y.1 = -1 ∧ M' 20 u r ≠ 1) ∨ (y.1 = (r : Int) ∧ M' 20 u r = 1 ∧ M' 21 u r = (l : Int) ∧ C' 16 (12 * t + r) 3 = y.2)) : RL9 C' M' t u (setL SL l (P ++ y :: Rt)) := by
  have hoth := h.other hl hSL (by omega)
  obtain ⟨h5, h6, h7⟩ := h
  have hsl := h5 l hl ((r : Int), x) (by rw [hSL]; simp)
  have hrl : M 21 u r = (l : Int) := by have := (hsl.2 (by show (r : Int) ≠ -1; omega)).2.2.2.1; simpa using this
  have hr10 : (r : Int) < M 0 0 10 := (hsl.2 (by show (r : Int) ≠ -1; omega)).2.1
  have keep : ∀ (l' : Nat) (a : Int × Int), (a.1 ≠ -1 → a.1.toNat ≠ r) → (1 ≤ a.2 ∧ (a.1 ≠ -1 → 0 ≤ a.1 ∧ a.1 < M 0 0 10 ∧ M 20 u a.1.toNat = 1 ∧ M 21 u a.1.toNat = (l' : Int) ∧ C 16 (12 * t + a.1.toNat) 3 = a.2)) → (1 ≤ a.2 ∧ (a.1 ≠ -1 → 0 ≤ a.1 ∧ a.1 < M' 0 0 10 ∧ M' 20 u a.1.toNat = 1 ∧ M' 21 u a.1.toNat = (l' : Int) ∧ C' 16 (12 * t + a.1.toNat) 3 = a.2)) := by
    intro l' a hne ⟨g1, g2⟩
    refine ⟨g1, fun g3 => ?_⟩
    obtain ⟨k1, k2, k3, k4, k5⟩ := g2 g3
    have hn := hne g3
    exact ⟨k1, by rw [m010]; exact k2, by rw [m20 _ hn]; exact k3, by rw [m21 _ hn]; exact k4, by rw [c16 _ hn]; exact k5⟩
  refine ⟨fun l' hl' a ha => ?_, fun l' hl' => ?_, fun z hz hz1 => ?_⟩
  · rw [m05] at hl'
    by_cases e : l' = l
    · subst e
      rw [setL_at] at ha
      have h9 := h5 l' hl'
      rw [hSL] at h9
      rcases List.mem_append.mp ha with ha | ha
      · refine keep l' a (fun g e => hoth a (Or.inl ha) ?_) (h9 a (List.mem_append_left _ ha))
        have := ((h9 a (List.mem_append_left _ ha)).2 g).1
        omega
      · rcases List.mem_cons.mp ha with rfl | ha
        · refine ⟨hy, fun g => ?_⟩
          rcases hyr with ⟨z, -⟩ | ⟨z1, z2, z3, z4⟩
          · exact absurd z g
          · rw [z1]
            simp only [Int.toNat_natCast]
            exact ⟨by omega, by rw [m010]; exact hr10, z2, z3, z4⟩
        · have hm : a ∈ P ++ ((r : Int), x) :: Rt := List.mem_append_right _ (List.mem_cons_of_mem _ ha)
          refine keep l' a (fun g e => hoth a (Or.inr ha) ?_) (h9 a hm)
          have := ((h9 a hm).2 g).1
          omega
    · rw [setL_off e] at ha
      refine keep l' a (fun g e9 => e ?_) (h5 l' hl' a ha)
      have := ((h5 l' hl' a ha).2 g).2.2.2.1
      rw [e9, hrl] at this
      omega
  · rw [m05] at hl'
    by_cases e : l' = l
    · subst e
      rw [setL_at]
      have h9 := h6 l' hl'
      rw [hSL, List.pairwise_append, List.pairwise_cons] at h9
      obtain ⟨g1, ⟨g2, g3⟩, g4⟩ := h9
      rw [List.pairwise_append, List.pairwise_cons]
      refine ⟨g1, ⟨fun a ha z => ?_, g3⟩, fun a ha b hb => ?_⟩
      · rcases hyr with ⟨k, -⟩ | ⟨k, -⟩
        · exact absurd k z
        · rw [k]; exact fun k9 => hoth a (Or.inr ha) k9.symm
      · rcases List.mem_cons.mp hb with rfl | hb
        · intro z
          rcases hyr with ⟨k, -⟩ | ⟨k, -⟩
          · rw [k]; exact z
          · rw [k]; exact hoth a (Or.inl ha)
        · exact g4 a ha b (List.mem_cons_of_mem _ hb)
    · rw [setL_off e]; exact h6 l' hl'
  · rw [m010] at hz
    rw [m05]
    by_cases e : z = r
    · subst e
      rcases hyr with ⟨-, k⟩ | ⟨k1, k2, k3, k4⟩
      · exact absurd hz1 k
      · rw [k3]
        refine ⟨by omega, hl, y, ?_, k1⟩
        rw [Int.toNat_natCast, setL_at]
        simp
    · rw [m20 z e] at hz1
      obtain ⟨g1, g2, a, g3, g4⟩ := h7 z hz hz1
      rw [m21 z e]
      refine ⟨g1, g2, a, ?_, g4⟩
      by_cases e2 : (M 21 u z).toNat = l
      · rw [e2, setL_at]
        rw [e2, hSL] at g3
        rcases List.mem_append.mp g3 with k | k
        · exact List.mem_append_left _ k
        · rcases List.mem_cons.mp k with rfl | k
          · exact absurd (by have g5 : (r : Int) = (z : Int) := g4; omega) e
          · exact List.mem_append_right _ (List.mem_cons_of_mem _ k)
      · rw [setL_off e2]; exact g3
