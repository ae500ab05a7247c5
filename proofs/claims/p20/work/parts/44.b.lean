/-! the copy -/
theorem cpT_16 {C : zM} {n j : Nat} (hn : n ≤ 12) (hj : j < n) {k : Nat} (hk : k ≤ 5) : cpT C 1 0 n 16 (12 * 1 + j) k = C 16 (12 * 0 + j) k := by
  have hs : ∀ n, n ≤ 12 → ∀ j, j < 12 → cpT C 1 0 n 16 (12 * 0 + j) = C 16 (12 * 0 + j) := by
    intro n _ j hj
    exact zit_off (fun j9 M => by
      unfold tripCp
      repeat rw [zup_off (by omega)]) n C
  induction n with
  | zero => omega
  | succ n ih =>
    have e : cpT C 1 0 (n + 1) = tripCp (cpT C 1 0 n) (12 * 1 + n) (12 * 0 + n) := rfl
    rw [e]
    by_cases q : j = n
    · subst q
      unfold tripCp
      rw [hs j (by omega) j (by omega)]
      have : k = 0 ∨ k = 1 ∨ k = 2 ∨ k = 3 ∨ k = 4 ∨ k = 5 := by omega
      rcases this with rfl | rfl | rfl | rfl | rfl | rfl <;> simp [zup]
    · have : tripCp (cpT C 1 0 n) (12 * 1 + n) (12 * 0 + n) 16 (12 * 1 + j) = cpT C 1 0 n 16 (12 * 1 + j) := by
        unfold tripCp
        repeat rw [zup_off (by omega)]
      rw [this]
      exact ih (by omega) (by omega)
theorem tcpN_at {C : zM} {i o n k : Nat} (hio : i ≠ o) (hk : k < n) : tcpN C i o n 18 i k = C 18 o k ∧ tcpN C i o n 19 i k = C 19 o k := by
  induction n with
  | zero => omega
  | succ n ih =>
    have hs : ∀ f, tcpN C i o n f o = C f o := fun f => zit_off (fun j9 M => by
      unfold tcpStep
      repeat rw [zup_off (by omega)]) n C
    have e : tcpN C i o (n + 1) = tcpStep i o n (tcpN C i o n) := rfl
    rw [e]
    unfold tcpStep
    by_cases q : k = n
    · subst q
      have h1 := hs 18
      have h2 := hs 19
      constructor
      · simp [zup, h1]
      · simp [zup, h2]
    · obtain ⟨i1, i2⟩ := ih (by omega)
      simp [zup, q]
      exact ⟨i1, i2⟩
theorem tcp_slots {C : zM} {i o k : Nat} (hio : i ≠ o) (hk : k < (C 17 o 1).toNat) : tcp C i o 18 i k = C 18 o k ∧ tcp C i o 19 i k = C 19 o k := by
  unfold tcp
  rw [zup_fr (by decide), zup_fr (by decide), zup_fr (by decide), zup_fr (by decide)]
  have h := tcpN_at (C := zup (zup C 17 i 0 (C 17 o 0)) 17 i 1 (C 17 o 1)) hio hk
  rw [zup_fr (by decide), zup_fr (by decide), zup_fr (by decide), zup_fr (by decide)] at h
  exact h
theorem tcp_far {C : zM} {i o i' f : Nat} (h : i' ≠ i) : tcp C i o f i' = C f i' := by
  have e4 : ∀ n M, tcpN M i o n f i' = M f i' := fun n M => zit_off (fun j M => by
    unfold tcpStep
    repeat rw [zup_off (by omega)]) n M
  unfold tcp
  rw [zup_off (by omega), zup_off (by omega), e4, zup_off (by omega), zup_off (by omega)]
theorem cpL_slots {C : zM} {n j k : Nat} (hn : n ≤ 12) (hj : j < n) (hk : k < (C 17 (12 * 0 + j) 1).toNat) : cpL C 1 0 n 18 (12 * 1 + j) k = C 18 (12 * 0 + j) k ∧ cpL C 1 0 n 19 (12 * 1 + j) k = C 19 (12 * 0 + j) k := by
  have hs : ∀ n f, ∀ j, j < 12 → cpL C 1 0 n f (12 * 0 + j) = C f (12 * 0 + j) := fun n f j hj => zit_off (fun l M => tcp_far (by omega)) n C
  induction n with
  | zero => omega
  | succ n ih =>
    have e : cpL C 1 0 (n + 1) = tcp (cpL C 1 0 n) (12 * 1 + n) (12 * 0 + n) := rfl
    rw [e]
    by_cases q : j = n
    · subst q
      have h := tcp_slots (C := cpL C 1 0 j) (i := 12 * 1 + j) (o := 12 * 0 + j) (k := k) (by omega) (by rw [hs j 17 j (by omega)]; exact hk)
      rw [hs j 18 j (by omega), hs j 19 j (by omega)] at h
      exact h
    · rw [tcp_far (by omega), tcp_far (by omega)]
      exact ih (by omega) (by omega)
theorem cpW_at {C : zM} {n k : Nat} (hk : k < n) : cpW C 1 0 n 15 1 k = C 15 0 k := by
  induction n with
  | zero => omega
  | succ n ih =>
    have hs : cpW C 1 0 n 15 0 = C 15 0 := zit_off (fun j9 M => zup_off (by omega)) n C
    have e : cpW C 1 0 (n + 1) = zup (cpW C 1 0 n) 15 1 n (cpW C 1 0 n 15 0 n) := rfl
    rw [e, hs]
    by_cases q : k = n
    · subst q; simp [zup]
    · simp [zup, q]
      exact ih (by omega)
theorem copyC_is {C : zM} (hr : (C 1 0 6).toNat ≤ 12) (hl : (C 1 0 5).toNat ≤ 12) : copyC C 1 0 12 1 5 = C 12 0 5 ∧ copyC C 1 0 12 1 4 = C 12 0 4 ∧ (∀ k, k < (C 12 0 4).toNat → copyC C 1 0 15 1 k = C 15 0 k) ∧ (∀ j k, j < (C 1 0 6).toNat → k ≤ 5 → copyC C 1 0 16 (12 * 1 + j) k = C 16 (12 * 0 + j) k) ∧
    (∀ j k, j < (C 1 0 5).toNat → k < (C 17 (12 * 0 + j) 1).toNat → copyC C 1 0 18 (12 * 1 + j) k = C 18 (12 * 0 + j) k ∧ copyC C 1 0 19 (12 * 1 + j) k = C 19 (12 * 0 + j) k) := by
  refine ⟨by simp [copyC, zup], ?_, fun k hk => ?_, fun j k hj hk => ?_, fun j k hj hk => ?_⟩
  · unfold copyC
    have e : ∀ n M, cpW M 1 0 n 12 = M 12 := fun n M => cpW_fr (by decide)
    simp [zup, e]
  · unfold copyC
    rw [zup_fr (by decide), cpW_at hk, zup_fr (by decide), cpL_fr (by decide), cpT_fr (by decide)]
  · unfold copyC
    rw [zup_fr (by decide), cpW_fr (by decide), zup_fr (by decide), cpL_fr (by decide), cpT_16 hr hj hk]
  · unfold copyC
    have h := cpL_slots (C := cpT C 1 0 (C 1 0 6).toNat) (n := (C 1 0 5).toNat) (j := j) (k := k) hl hj (by rw [cpT_fr (by decide)]; exact hk)
    rw [cpT_fr (show ¬ 18 = 16 by decide), cpT_fr (show ¬ 19 = 16 by decide)] at h
    rw [zup_fr (by decide), cpW_fr (by decide), zup_fr (by decide), zup_fr (by decide), cpW_fr (by decide), zup_fr (by decide)]
    exact h
theorem becomeM_is (M : zM) : becomeM M 1 0 11 1 0 = M 11 0 0 ∧ (∀ k, k < 12 → becomeM M 1 0 12 1 k = M 12 0 k ∧ becomeM M 1 0 13 1 k = M 13 0 k ∧ becomeM M 1 0 16 1 k = M 16 0 k ∧ becomeM M 1 0 17 1 k = M 17 0 k ∧ becomeM M 1 0 20 1 k = M 20 0 k ∧ becomeM M 1 0 21 1 k = M 21 0 k ∧ becomeM M 1 0 22 1 k = M 22 0 k ∧ becomeM M 1 0 23 1 k = M 23 0 k ∧ becomeM M 1 0 24 1 k = M 24 0 k) ∧ (∀ k, k < 36 → becomeM M 1 0 14 1 k = M 14 0 k ∧ becomeM M 1 0 15 1 k = M 15 0 k) ∧ (∀ k, k < 8 → becomeM M 1 0 18 1 k = M 18 0 k) ∧ (∀ k, k < 96 → becomeM M 1 0 19 1 k = M 19 0 k) := by
  unfold becomeM
  refine ⟨by simp [zcp, zup], fun k hk => ?_, fun k hk => ?_, fun k hk => ?_, fun k hk => ?_⟩
  · refine ⟨?_, ?_, ?_, ?_, ?_, ?_, ?_, ?_, ?_⟩ <;> simp [zcp, zup, hk]
  · refine ⟨?_, ?_⟩ <;> simp [zcp, zup, hk]
  · simp [zcp, zup, hk]
  · simp [zcp, zup, hk]
