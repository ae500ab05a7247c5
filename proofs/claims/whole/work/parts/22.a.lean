/-! the model's State: become, come, strike -/
def becomeM (M : zM) (u v : Nat) : zM := zcp (zcp (zcp (zcp (zcp (zcp (zcp (zcp (zcp (zcp (zcp (zcp (zcp (zup M 11 u 0 (M 11 v 0)) 12 v 12 u 12) 13 v 13 u 12) 14 v 14 u 36) 15 v 15 u 36) 16 v 16 u 12) 17 v 17 u 12) 18 v 18 u 8) 19 v 19 u 96) 20 v 20 u 12) 21 v 21 u 12) 22 v 22 u 12) 23 v 23 u 12) 24 v 24 u 12
def comeM (M : zM) (u : Nat) (r q : Int) : zM := if q = M 10 0 r.toNat then zup (zup (zup (zup M 21 u r.toNat q) 22 u r.toNat 0) 20 u r.toNat 2) 24 u r.toNat (M 11 u 0) else zup (zup (zup (zup (zup M 21 u r.toNat q) 22 u r.toNat 0) 20 u r.toNat 0) 19 u (12 * q + M 18 u q.toNat).toNat r) 18 u q.toNat (M 18 u q.toNat + 1)
def shM (M : zM) (u a b : Nat) : zM := fun f i k => if f = 19 ∧ i = u ∧ a ≤ k ∧ k < b then M 19 u (k + 1) else M f i k
theorem shM_0 (M : zM) (u a : Nat) : shM M u a a = M := by
  funext f i k; simp only [shM]; rw [if_neg (by omega)]
theorem shM_s {M : zM} {u a b : Nat} (h : a ≤ b) : zup (shM M u a b) 19 u b (shM M u a b 19 u (b + 1)) = shM M u a (b + 1) := by
  funext f i k
  simp only [zup, shM]
  by_cases h1 : f = 19 ∧ i = u
  · obtain ⟨rfl, rfl⟩ := h1
    by_cases h2 : k = b
    · subst h2
      rw [if_pos ⟨rfl, rfl, rfl⟩, if_neg (by omega), if_pos (by omega)]
    · rw [if_neg (by omega)]
      by_cases h3 : a ≤ k ∧ k < b
      · rw [if_pos (by omega), if_pos (by omega)]
      · rw [if_neg (by omega), if_neg (by omega)]
  · rw [if_neg (by omega), if_neg (by omega), if_neg (by omega)]
theorem shM_fr {M : zM} {u a b f : Nat} (h : f ≠ 19) (i k : Nat) : shM M u a b f i k = M f i k := by
  simp only [shM]; rw [if_neg (fun q => h q.1)]
/-- a rider is struck off its platform's queue, w places behind its start -/
def strikeM (M : zM) (u : Nat) (r : Int) (w : Nat) : zM := shM (zup M 18 u (M 21 u r.toNat).toNat (M 18 u (M 21 u r.toNat).toNat - 1)) u (12 * (M 21 u r.toNat).toNat + w) ((12 * M 21 u r.toNat + M 18 u (M 21 u r.toNat).toNat - 1).toNat)
