/-- what stays while minutes pass: bounds -/
def SB (M : zM) : Prop := (M 0 0 10 ≤ 12 ∧ M 0 0 1 ≤ 8 ∧ M 0 0 5 ≤ 12) ∧ (∀ l : Nat, 0 ≤ M 5 0 l ∧ 0 ≤ M 4 0 l) ∧ (∀ l : Nat, (l : Int) < M 0 0 5 → 0 < dropM M l) ∧ (∀ r : Nat, M 8 0 r ≤ 120)
theorem SB.eq {M M' : zM} (h : SB M) (hM : ∀ f, f < 11 → M' f = M f) : SB M' := by
  have e2 : ∀ q : Int, dropM M' q = dropM M q := fun q => by unfold dropM; rw [hM 3 (by omega), hM 4 (by omega), hM 5 (by omega)]
  unfold SB at h ⊢
  simp only [e2]
  rw [hM 0 (by omega), hM 4 (by omega), hM 5 (by omega), hM 8 (by omega)]
  exact h
theorem WTM.sb {T U : Int} {M : zM} (h : WTM T U M) : SB M :=
  ⟨⟨(h.1 0 0 10).2, (h.1 0 0 1).2, (h.1 0 0 5).2⟩, fun l => ⟨(h.1 5 0 l).1, (h.1 4 0 l).1⟩, fun l hl => (dropM_bd h ⟨Int.natCast_nonneg l, hl⟩).1, fun r => (h.1 8 0 r).2⟩
/-- the ride's minutes, in both -/
theorem ride_eq {M : zM} {l w : Int} (hl : 1 ≤ lenM M l) (hd : 0 < dropM M l) (hw : 20 ≤ w) : absC (rideM M l w) = rideC (lenM M l) (dropM M l) w ∧ 1 ≤ rideC (lenM M l) (dropM M l) w ∧ (rideM M l w < 0 ↔ w * dropM M l < 10 * lenM M l) := by
  have hq : 1 ≤ (2 * lenM M l + (dropM M l + w / 10) - 1) / (dropM M l + w / 10) := Int.le_ediv_of_mul_le (by omega) (by omega)
  unfold rideM rideC absC
  rw [if_neg (show ¬ dropM M l + w / 10 ≤ 0 by omega)]
  by_cases q : w * dropM M l < 10 * lenM M l
  · rw [if_pos q, if_pos q, if_neg (by omega)]
    exact ⟨by omega, by omega, fun _ => q, fun _ => by omega⟩
  · rw [if_neg q, if_neg q, if_pos (by omega)]
    exact ⟨rfl, hq, fun z => by omega, fun z => absurd z q⟩
/-- the trolleys with one more -/
theorem RL9.board {C M C' M' : zM} {t u : Nat} {SL : Nat → List (Int × Int)} (h : RL9 C M t u SL) {l r : Nat} (hl : (l : Int) < M 0 0 5) (hr : (r : Int) < M 0 0 10) (h20 : M 20 u r ≠ 1) {x : Int} (hx : 1 ≤ x)
    (m05 : M' 0 0 5 = M 0 0 5) (m010 : M' 0 0 10 = M 0 0 10) (m20 : ∀ z, z ≠ r → M' 20 u z = M 20 u z) (m21 : ∀ z, z ≠ r → M' 21 u z = M 21 u z) (c16 : ∀ z, z ≠ r → C' 16 (12 * t + z) 3 = C 16 (12 * t + z) 3)
    (n20 : M' 20 u r = 1) (n21 : M' 21 u r = (l : Int)) (n16 : C' 16 (12 * t + r) 3 = x) : RL9 C' M' t u (setL SL l (SL l ++ [((r : Int), x)])) := by
  obtain ⟨h5, h6, h7⟩ := h
  have hne : ∀ l' : Nat, (l' : Int) < M 0 0 5 → ∀ a, a ∈ SL l' → a.1 ≠ -1 → a.1.toNat ≠ r := fun l' hl' a ha g e => h20 (e ▸ ((h5 l' hl' a ha).2 g).2.2.1)
  have keep : ∀ l' : Nat, (l' : Int) < M 0 0 5 → ∀ a, a ∈ SL l' → (1 ≤ a.2 ∧ (a.1 ≠ -1 → 0 ≤ a.1 ∧ a.1 < M' 0 0 10 ∧ M' 20 u a.1.toNat = 1 ∧ M' 21 u a.1.toNat = (l' : Int) ∧ C' 16 (12 * t + a.1.toNat) 3 = a.2)) := by
    intro l' hl' a ha
    obtain ⟨g1, g2⟩ := h5 l' hl' a ha
    refine ⟨g1, fun g3 => ?_⟩
    obtain ⟨k1, k2, k3, k4, k5⟩ := g2 g3
    have hn := hne l' hl' a ha g3
    exact ⟨k1, by rw [m010]; exact k2, by rw [m20 _ hn]; exact k3, by rw [m21 _ hn]; exact k4, by rw [c16 _ hn]; exact k5⟩
  refine ⟨fun l' hl' a ha => ?_, fun l' hl' => ?_, fun z hz hz1 => ?_⟩
  · rw [m05] at hl'
    by_cases e : l' = l
    · subst e
      rw [setL_at] at ha
      rcases List.mem_append.mp ha with ha | ha
      · exact keep l' hl' a ha
      · simp at ha
        subst ha
        refine ⟨hx, fun _ => ?_⟩
        simp only [Int.toNat_natCast]
        exact ⟨by omega, by rw [m010]; exact hr, n20, n21, n16⟩
    · rw [setL_off e] at ha
      exact keep l' hl' a ha
  · rw [m05] at hl'
    by_cases e : l' = l
    · subst e
      rw [setL_at, List.pairwise_append]
      refine ⟨h6 l' hl', List.pairwise_singleton _ _, fun a ha b hb => ?_⟩
      simp at hb
      subst hb
      intro g e9
      exact hne l' hl' a ha g (by rw [e9]; exact Int.toNat_natCast r)
    · rw [setL_off e]; exact h6 l' hl'
  · rw [m010] at hz
    rw [m05]
    by_cases e : z = r
    · subst e
      rw [n21]
      refine ⟨by omega, hl, ((z : Int), x), ?_, rfl⟩
      rw [Int.toNat_natCast, setL_at]
      simp
    · rw [m20 z e] at hz1
      obtain ⟨g1, g2, a, g3, g4⟩ := h7 z hz hz1
      rw [m21 z e]
      refine ⟨g1, g2, a, ?_, g4⟩
      by_cases e2 : (M 21 u z).toNat = l
      · rw [e2, setL_at]
        rw [e2] at g3
        exact List.mem_append_left _ g3
      · rw [setL_off e2]; exact g3
/-- a row of the waiting without one -/
theorem RW.without {C M C' M' : zM} {t u : Nat} {W1 W2 : List Nat} {r : Nat} (h : RW C M t u (W1 ++ r :: W2)) (c4 : C' 12 t 4 = ((W1 ++ W2).length : Int)) (c15 : ∀ k x : Nat, (W1 ++ W2)[k]? = some x → C' 15 t k = (x : Int)) (m010 : M' 0 0 10 = M 0 0 10) (m20 : ∀ z, z ≠ r → M' 20 u z = M 20 u z) (m20r : M' 20 u r ≠ 0) (hQ : QM M' u (W1 ++ W2)) : RW C' M' t u (W1 ++ W2) := by
  obtain ⟨h1, h2, h3, h4, h5⟩ := h
  have hn : r ∉ W1 ++ W2 ∧ (W1 ++ W2).Nodup := by
    have h6 : (r :: (W1 ++ W2)).Nodup := (List.perm_middle.nodup_iff).mp h3
    exact List.nodup_cons.mp h6
  refine ⟨c4, c15, hn.2, fun z => ?_, hQ⟩
  rw [m010]
  by_cases e : z = r
  · subst e
    exact ⟨fun q => absurd q hn.1, fun q => absurd q.2 m20r⟩
  · rw [m20 z e, ← h4 z]
    simp [e]
